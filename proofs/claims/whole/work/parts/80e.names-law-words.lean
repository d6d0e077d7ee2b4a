set_option maxRecDepth 20000 in
theorem ggL_law_X9_wits : GoodIn wsL_law wsX9_wits := goodIn_r _ [639, 17, 231, 232, 233, 16, 234, 52, 133, 2, 134, 612, 613, 614, 615, 18, 34, 379, 380, 381, 382, 49, 383, 384, 385, 386, 51, 387, 388, 389, 54, 390, 58, 59, 60, 61, 616, 617, 618, 619, 620, 621, 622, 623, 624, 625, 33, 626, 88, 85, 86, 87, 627, 314, 315, 316, 317, 236, 237, 238, 318, 319, 320, 321, 822, 823, 824, 825, 826, 827, 828, 829, 830, 831, 832, 865, 866, 867, 888, 889, 890, 891, 879, 880, 881, 882] (by decide +kernel) (by decide +kernel)
set_option maxRecDepth 20000 in
theorem gL_law_X9_wits : GoodIn wsL_law (wsV RL 95 RX9 yX9_wits wsX9_wits) := goodIn_app (goodIn_of _ (by decide +kernel)) ggL_law_X9_wits
set_option maxRecDepth 20000 in
theorem ggL_law_X10_wits : GoodIn wsL_law wsX10_wits := goodIn_r _ [643, 111, 256, 257, 258, 5, 259, 180, 632, 633, 634, 635, 221, 120, 121, 122, 326, 327, 328, 329, 110, 107, 330, 331, 332, 260, 261, 262, 263, 108, 833, 834, 835, 836, 837, 838, 839, 840, 841, 842, 843, 844, 845, 846, 847, 848, 849, 850, 851, 852, 853, 854, 855, 856, 857, 858, 859, 860, 861, 862, 863, 864] (by decide +kernel) (by decide +kernel)
set_option maxRecDepth 20000 in
theorem gL_law_X10_wits : GoodIn wsL_law (wsV RL 98 RX10 yX10_wits wsX10_wits) := goodIn_app (goodIn_of _ (by decide +kernel)) ggL_law_X10_wits
set_option maxRecDepth 20000 in
theorem ggL_law_X9_kinds : GoodIn wsL_law wsX9_kinds := goodIn_r _ [647, 17, 231, 232, 233, 16, 234, 52, 133, 2, 134, 612, 613, 614, 615, 18, 34, 379, 380, 381, 382, 49, 383, 384, 385, 386, 51, 387, 388, 389, 54, 390, 58, 59, 60, 61, 616, 617, 618, 619, 620, 621, 622, 623, 624, 625, 33, 626, 88, 85, 86, 87, 627, 314, 315, 316, 317, 236, 237, 238, 318, 319, 320, 321, 822, 823, 824, 825, 826, 827, 828, 829, 830, 831, 832, 865, 866, 867, 888, 889, 890, 891, 879, 880, 881, 882] (by decide +kernel) (by decide +kernel)
set_option maxRecDepth 20000 in
theorem gL_law_X9_kinds : GoodIn wsL_law (wsV RL 99 RX9 yX9_kinds wsX9_kinds) := goodIn_app (goodIn_of _ (by decide +kernel)) ggL_law_X9_kinds
set_option maxRecDepth 20000 in
theorem ggL_law_X10_kinds : GoodIn wsL_law wsX10_kinds := goodIn_r _ [651, 108, 256, 257, 258, 5, 259, 180, 632, 633, 634, 635, 221, 120, 121, 122, 326, 327, 328, 329, 110, 107, 330, 331, 332, 260, 261, 262, 263, 111, 833, 834, 835, 836, 837, 838, 839, 840, 841, 842, 843, 844, 845, 846, 847, 848, 849, 850, 851, 852, 853, 854, 855, 856, 857, 858, 859, 860, 861, 862, 863, 864] (by decide +kernel) (by decide +kernel)
set_option maxRecDepth 20000 in
theorem gL_law_X10_kinds : GoodIn wsL_law (wsV RL 102 RX10 yX10_kinds wsX10_kinds) := goodIn_app (goodIn_of _ (by decide +kernel)) ggL_law_X10_kinds
set_option maxRecDepth 20000 in
theorem ggL_law_X9_worths : GoodIn wsL_law wsX9_worths := goodIn_r _ [655, 17, 273, 274, 275, 16, 276, 52, 133, 2, 134, 612, 613, 614, 615, 18, 34, 379, 380, 381, 382, 49, 383, 384, 385, 386, 51, 387, 388, 389, 54, 390, 58, 59, 60, 61, 616, 617, 618, 619, 620, 621, 622, 623, 624, 625, 33, 626, 88, 85, 86, 87, 627, 314, 315, 316, 317, 236, 237, 238, 318, 319, 320, 321, 822, 823, 824, 825, 826, 827, 828, 829, 830, 831, 832, 865, 866, 867, 888, 889, 890, 891, 879, 880, 881, 882] (by decide +kernel) (by decide +kernel)
set_option maxRecDepth 20000 in
theorem gL_law_X9_worths : GoodIn wsL_law (wsV RL 103 RX9 yX9_worths wsX9_worths) := goodIn_app (goodIn_of _ (by decide +kernel)) ggL_law_X9_worths
set_option maxRecDepth 20000 in
theorem ggL_law_X10_worths : GoodIn wsL_law wsX10_worths := goodIn_r _ [659, 107, 281, 282, 283, 5, 284, 180, 632, 633, 634, 635, 221, 120, 121, 122, 326, 327, 328, 329, 110, 330, 331, 332, 260, 261, 262, 263, 108, 111, 833, 834, 835, 836, 837, 838, 839, 840, 841, 842, 843, 844, 845, 846, 847, 848, 849, 850, 851, 852, 853, 854, 855, 856, 857, 858, 859, 860, 861, 862, 863, 864] (by decide +kernel) (by decide +kernel)
set_option maxRecDepth 20000 in
theorem gL_law_X10_worths : GoodIn wsL_law (wsV RL 106 RX10 yX10_worths wsX10_worths) := goodIn_app (goodIn_of _ (by decide +kernel)) ggL_law_X10_worths
set_option maxRecDepth 20000 in
theorem ggL_law_X9_odds : GoodIn wsL_law wsX9_odds := goodIn_r _ [663, 17, 664, 231, 232, 233, 16, 234, 52, 133, 2, 134, 665, 666, 667, 668, 18, 226, 229, 379, 380, 381, 382, 49, 383, 384, 385, 386, 51, 387, 388, 389, 54, 390, 58, 59, 60, 61, 313, 314, 315, 316, 317, 236, 237, 238, 318, 319, 320, 321, 669, 670, 671, 822, 823, 824, 825, 826, 827, 828, 829, 830, 831, 832, 865, 866, 867, 888, 889, 890, 891] (by decide +kernel) (by decide +kernel)
set_option maxRecDepth 20000 in
theorem gL_law_X9_odds : GoodIn wsL_law (wsV RL 107 RX9 yX9_odds wsX9_odds) := goodIn_app (goodIn_of _ (by decide +kernel)) ggL_law_X9_odds
set_option maxRecDepth 20000 in
theorem ggL_law_X10_odds : GoodIn wsL_law wsX10_odds := goodIn_r _ [675, 676, 110, 677, 256, 257, 258, 5, 259, 180, 184, 185, 186, 326, 327, 328, 329, 107, 330, 331, 332, 260, 261, 262, 263, 108, 111, 678, 679, 680, 833, 834, 835, 836, 837, 838, 839, 840, 841, 842, 843, 844, 845, 846, 847, 848, 849, 850, 851, 852, 853, 854, 855, 856, 857, 858, 859, 860, 861, 862, 863, 864] (by decide +kernel) (by decide +kernel)
set_option maxRecDepth 20000 in
theorem gL_law_X10_odds : GoodIn wsL_law (wsV RL 111 RX10 yX10_odds wsX10_odds) := goodIn_app (goodIn_of _ (by decide +kernel)) ggL_law_X10_odds
set_option maxRecDepth 20000 in
theorem ggL_law_X9_sheet : GoodIn wsL_law wsX9_sheet := goodIn_r _ [684, 41, 13, 129, 130, 2, 131, 132, 133, 134, 135, 136, 137, 146, 147, 148, 149, 685, 686, 687, 43, 688, 96, 97, 98, 99, 689, 690, 691, 692, 822, 823, 824, 825, 826, 827, 828, 829, 830, 831, 832, 884, 885, 886, 887] (by decide +kernel) (by decide +kernel)
set_option maxRecDepth 20000 in
theorem gL_law_X9_sheet : GoodIn wsL_law (wsV RL 112 RX9 yX9_sheet wsX9_sheet) := goodIn_app (goodIn_of _ (by decide +kernel)) ggL_law_X9_sheet
set_option maxRecDepth 20000 in
theorem ggL_law_X10_sheet : GoodIn wsL_law wsX10_sheet := goodIn_r _ [696, 178, 104, 105, 106, 181, 182, 5, 183, 184, 185, 186, 187, 188, 189, 194, 195, 196, 197, 833, 834, 835, 836, 837, 838, 839, 840, 841, 842, 843, 844, 845, 846, 847, 848, 849, 850, 851, 852, 853, 854, 855, 856, 857, 858, 859, 860, 861, 862, 863, 864] (by decide +kernel) (by decide +kernel)
set_option maxRecDepth 20000 in
theorem gL_law_X10_sheet : GoodIn wsL_law (wsV RL 115 RX10 yX10_sheet wsX10_sheet) := goodIn_app (goodIn_of _ (by decide +kernel)) ggL_law_X10_sheet
