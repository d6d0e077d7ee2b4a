set_option maxRecDepth 20000 in
theorem ggL_law_X9_teach : GoodIn wsL_law wsX9_teach := goodIn_r _ [296, 17, 226, 229, 231, 232, 233, 16, 234, 52, 133, 2, 134, 132, 822, 823, 824, 825, 826, 827, 828, 829, 830, 831, 832, 865, 866, 867, 888, 889, 890, 891] (by decide +kernel) (by decide +kernel)
set_option maxRecDepth 20000 in
theorem gL_law_X9_teach : GoodIn wsL_law (wsV RL 32 RX9 yX9_teach wsX9_teach) := goodIn_app (goodIn_of _ (by decide +kernel)) ggL_law_X9_teach
set_option maxRecDepth 20000 in
theorem ggL_law_X10_teach : GoodIn wsL_law wsX10_teach := goodIn_r _ [300, 110, 256, 257, 258, 5, 259, 180, 184, 185, 186, 833, 834, 835, 836, 837, 838, 839, 840, 841, 842, 843, 844, 845, 846, 847, 848, 849, 850, 851, 852, 853, 854, 855, 856, 857, 858, 859, 860, 861, 862, 863, 864] (by decide +kernel) (by decide +kernel)
set_option maxRecDepth 20000 in
theorem gL_law_X10_teach : GoodIn wsL_law (wsV RL 35 RX10 yX10_teach wsX10_teach) := goodIn_app (goodIn_of _ (by decide +kernel)) ggL_law_X10_teach
set_option maxRecDepth 20000 in
theorem ggL_law_X9_sharpen : GoodIn wsL_law wsX9_sharpen := goodIn_r _ [304, 17, 226, 230, 231, 232, 233, 16, 234, 52, 133, 2, 134, 132, 822, 823, 824, 825, 826, 827, 828, 829, 830, 831, 832, 865, 866, 867, 888, 889, 890, 891] (by decide +kernel) (by decide +kernel)
set_option maxRecDepth 20000 in
theorem gL_law_X9_sharpen : GoodIn wsL_law (wsV RL 36 RX9 yX9_sharpen wsX9_sharpen) := goodIn_app (goodIn_of _ (by decide +kernel)) ggL_law_X9_sharpen
set_option maxRecDepth 20000 in
theorem ggL_law_X10_sharpen : GoodIn wsL_law wsX10_sharpen := goodIn_r _ [308, 111, 256, 257, 258, 5, 259, 180, 184, 185, 186, 833, 834, 835, 836, 837, 838, 839, 840, 841, 842, 843, 844, 845, 846, 847, 848, 849, 850, 851, 852, 853, 854, 855, 856, 857, 858, 859, 860, 861, 862, 863, 864] (by decide +kernel) (by decide +kernel)
set_option maxRecDepth 20000 in
theorem gL_law_X10_sharpen : GoodIn wsL_law (wsV RL 39 RX10 yX10_sharpen wsX10_sharpen) := goodIn_app (goodIn_of _ (by decide +kernel)) ggL_law_X10_sharpen
set_option maxRecDepth 20000 in
theorem ggL_law_X9_brings : GoodIn wsL_law wsX9_brings := goodIn_r _ [312, 17, 231, 232, 233, 16, 234, 52, 133, 2, 134, 273, 274, 275, 276, 313, 314, 315, 316, 51, 49, 317, 236, 237, 54, 238, 58, 61, 318, 319, 320, 321, 60, 822, 823, 824, 825, 826, 827, 828, 829, 830, 831, 832, 865, 866, 867, 888, 889, 890, 891] (by decide +kernel) (by decide +kernel)
set_option maxRecDepth 20000 in
theorem gL_law_X9_brings : GoodIn wsL_law (wsV RL 40 RX9 yX9_brings wsX9_brings) := goodIn_app (goodIn_of _ (by decide +kernel)) ggL_law_X9_brings
set_option maxRecDepth 20000 in
theorem ggL_law_X10_brings : GoodIn wsL_law wsX10_brings := goodIn_r _ [325, 256, 257, 258, 5, 259, 180, 281, 282, 283, 284, 326, 327, 328, 329, 110, 107, 330, 331, 332, 260, 261, 262, 263, 108, 111, 833, 834, 835, 836, 837, 838, 839, 840, 841, 842, 843, 844, 845, 846, 847, 848, 849, 850, 851, 852, 853, 854, 855, 856, 857, 858, 859, 860, 861, 862, 863, 864] (by decide +kernel) (by decide +kernel)
set_option maxRecDepth 20000 in
theorem gL_law_X10_brings : GoodIn wsL_law (wsV RL 43 RX10 yX10_brings wsX10_brings) := goodIn_app (goodIn_of _ (by decide +kernel)) ggL_law_X10_brings
set_option maxRecDepth 20000 in
theorem ggL_law_X9_question : GoodIn wsL_law wsX9_question := goodIn_r _ [336, 17, 226, 228, 39, 40, 273, 274, 275, 16, 276, 52, 133, 2, 134, 337, 338, 339, 340, 51, 247, 313, 314, 315, 316, 49, 317, 236, 237, 54, 238, 58, 61, 318, 319, 320, 321, 60, 822, 823, 824, 825, 826, 827, 828, 829, 830, 831, 832, 865, 866, 867, 888, 889, 890, 891] (by decide +kernel) (by decide +kernel)
set_option maxRecDepth 20000 in
theorem gL_law_X9_question : GoodIn wsL_law (wsV RL 44 RX9 yX9_question wsX9_question) := goodIn_app (goodIn_of _ (by decide +kernel)) ggL_law_X9_question
set_option maxRecDepth 20000 in
theorem ggL_law_X10_question : GoodIn wsL_law wsX10_question := goodIn_r _ [344, 109, 219, 220, 281, 282, 283, 5, 284, 180, 345, 346, 347, 348, 326, 327, 328, 329, 110, 107, 330, 331, 332, 260, 261, 262, 263, 108, 111, 833, 834, 835, 836, 837, 838, 839, 840, 841, 842, 843, 844, 845, 846, 847, 848, 849, 850, 851, 852, 853, 854, 855, 856, 857, 858, 859, 860, 861, 862, 863, 864] (by decide +kernel) (by decide +kernel)
set_option maxRecDepth 20000 in
theorem gL_law_X10_question : GoodIn wsL_law (wsV RL 47 RX10 yX10_question wsX10_question) := goodIn_app (goodIn_of _ (by decide +kernel)) ggL_law_X10_question
set_option maxRecDepth 20000 in
theorem ggL_law_X9_feint : GoodIn wsL_law wsX9_feint := goodIn_r _ [352, 17, 226, 228, 231, 232, 233, 16, 234, 52, 133, 2, 134, 337, 338, 339, 340, 51, 247, 822, 823, 824, 825, 826, 827, 828, 829, 830, 831, 832, 865, 866, 867, 888, 889, 890, 891] (by decide +kernel) (by decide +kernel)
set_option maxRecDepth 20000 in
theorem gL_law_X9_feint : GoodIn wsL_law (wsV RL 48 RX9 yX9_feint wsX9_feint) := goodIn_app (goodIn_of _ (by decide +kernel)) ggL_law_X9_feint
set_option maxRecDepth 20000 in
theorem ggL_law_X10_feint : GoodIn wsL_law wsX10_feint := goodIn_r _ [356, 109, 256, 257, 258, 5, 259, 180, 345, 346, 347, 348, 833, 834, 835, 836, 837, 838, 839, 840, 841, 842, 843, 844, 845, 846, 847, 848, 849, 850, 851, 852, 853, 854, 855, 856, 857, 858, 859, 860, 861, 862, 863, 864] (by decide +kernel) (by decide +kernel)
set_option maxRecDepth 20000 in
theorem gL_law_X10_feint : GoodIn wsL_law (wsV RL 51 RX10 yX10_feint wsX10_feint) := goodIn_app (goodIn_of _ (by decide +kernel)) ggL_law_X10_feint
