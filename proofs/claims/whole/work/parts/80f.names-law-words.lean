set_option maxRecDepth 20000 in
theorem ggL_law_X9_lose : GoodIn wsL_law wsX9_lose := goodIn_r _ [700, 13, 701, 129, 130, 2, 131, 132, 133, 134, 822, 823, 824, 825, 826, 827, 828, 829, 830, 831, 832, 884, 885, 886, 887] (by decide +kernel) (by decide +kernel)
set_option maxRecDepth 20000 in
theorem gL_law_X9_lose : GoodIn wsL_law (wsV RL 116 RX9 yX9_lose wsX9_lose) := goodIn_app (goodIn_of _ (by decide +kernel)) ggL_law_X9_lose
set_option maxRecDepth 20000 in
theorem ggL_law_X10_lose : GoodIn wsL_law wsX10_lose := goodIn_r _ [705, 104, 181, 182, 5, 183, 184, 185, 186, 833, 834, 835, 836, 837, 838, 839, 840, 841, 842, 843, 844, 845, 846, 847, 848, 849, 850, 851, 852, 853, 854, 855, 856, 857, 858, 859, 860, 861, 862, 863, 864] (by decide +kernel) (by decide +kernel)
set_option maxRecDepth 20000 in
theorem gL_law_X10_lose : GoodIn wsL_law (wsV RL 119 RX10 yX10_lose wsX10_lose) := goodIn_app (goodIn_of _ (by decide +kernel)) ggL_law_X10_lose
set_option maxRecDepth 20000 in
theorem ggL_law_X9_put : GoodIn wsL_law wsX9_put := goodIn_r _ [709, 41, 13, 701, 710, 501, 129, 130, 2, 131, 132, 133, 134, 146, 147, 148, 149, 711, 712, 713, 43, 714, 98, 822, 823, 824, 825, 826, 827, 828, 829, 830, 831, 832, 884, 885, 886, 887] (by decide +kernel) (by decide +kernel)
set_option maxRecDepth 20000 in
theorem gL_law_X9_put : GoodIn wsL_law (wsV RL 120 RX9 yX9_put wsX9_put) := goodIn_app (goodIn_of _ (by decide +kernel)) ggL_law_X9_put
set_option maxRecDepth 20000 in
theorem ggL_law_X10_put : GoodIn wsL_law wsX10_put := goodIn_r _ [718, 178, 104, 105, 106, 181, 182, 5, 183, 184, 185, 186, 194, 195, 196, 197, 833, 834, 835, 836, 837, 838, 839, 840, 841, 842, 843, 844, 845, 846, 847, 848, 849, 850, 851, 852, 853, 854, 855, 856, 857, 858, 859, 860, 861, 862, 863, 864] (by decide +kernel) (by decide +kernel)
set_option maxRecDepth 20000 in
theorem gL_law_X10_put : GoodIn wsL_law (wsV RL 123 RX10 yX10_put wsX10_put) := goodIn_app (goodIn_of _ (by decide +kernel)) ggL_law_X10_put
set_option maxRecDepth 20000 in
theorem ggL_law_X9_cell : GoodIn wsL_law wsX9_cell := goodIn_r _ [722, 41, 664, 13, 710, 501, 129, 130, 2, 131, 132, 133, 134, 135, 136, 137, 138, 139, 140, 43, 141, 97, 98, 822, 823, 824, 825, 826, 827, 828, 829, 830, 831, 832, 884, 885, 886, 887] (by decide +kernel) (by decide +kernel)
set_option maxRecDepth 20000 in
theorem gL_law_X9_cell : GoodIn wsL_law (wsV RL 124 RX9 yX9_cell wsX9_cell) := goodIn_app (goodIn_of _ (by decide +kernel)) ggL_law_X9_cell
set_option maxRecDepth 20000 in
theorem ggL_law_X10_cell : GoodIn wsL_law wsX10_cell := goodIn_r _ [726, 178, 676, 104, 105, 106, 181, 182, 5, 183, 184, 185, 186, 187, 188, 189, 727, 728, 729, 730, 833, 834, 835, 836, 837, 838, 839, 840, 841, 842, 843, 844, 845, 846, 847, 848, 849, 850, 851, 852, 853, 854, 855, 856, 857, 858, 859, 860, 861, 862, 863, 864] (by decide +kernel) (by decide +kernel)
set_option maxRecDepth 20000 in
theorem gL_law_X10_cell : GoodIn wsL_law (wsV RL 127 RX10 yX10_cell wsX10_cell) := goodIn_app (goodIn_of _ (by decide +kernel)) ggL_law_X10_cell
set_option maxRecDepth 20000 in
theorem ggL_law_X9_copy : GoodIn wsL_law wsX9_copy := goodIn_r _ [734, 41, 13, 701, 735, 501, 736, 384, 385, 386, 129, 130, 2, 131, 132, 133, 134, 146, 147, 148, 149, 142, 143, 144, 43, 145, 99, 822, 823, 824, 825, 826, 827, 828, 829, 830, 831, 832, 884, 885, 886, 887] (by decide +kernel) (by decide +kernel)
set_option maxRecDepth 20000 in
theorem gL_law_X9_copy : GoodIn wsL_law (wsV RL 128 RX9 yX9_copy wsX9_copy) := goodIn_app (goodIn_of _ (by decide +kernel)) ggL_law_X9_copy
set_option maxRecDepth 20000 in
theorem ggL_law_X10_copy : GoodIn wsL_law wsX10_copy := goodIn_r _ [740, 178, 104, 105, 106, 181, 182, 5, 183, 184, 185, 186, 194, 195, 196, 197, 833, 834, 835, 836, 837, 838, 839, 840, 841, 842, 843, 844, 845, 846, 847, 848, 849, 850, 851, 852, 853, 854, 855, 856, 857, 858, 859, 860, 861, 862, 863, 864] (by decide +kernel) (by decide +kernel)
set_option maxRecDepth 20000 in
theorem gL_law_X10_copy : GoodIn wsL_law (wsV RL 131 RX10 yX10_copy wsX10_copy) := goodIn_app (goodIn_of _ (by decide +kernel)) ggL_law_X10_copy
set_option maxRecDepth 20000 in
theorem ggL_law_X9_tell : GoodIn wsL_law wsX9_tell := goodIn_r _ [744, 17, 38, 226, 231, 232, 233, 16, 234, 52, 133, 2, 134, 745, 746, 747, 37, 748, 749, 750, 751, 752, 753, 754, 755, 756, 757, 92, 758, 759, 760, 761, 762, 763, 764, 765, 766, 822, 823, 824, 825, 826, 827, 828, 829, 830, 831, 832, 865, 866, 867, 888, 889, 890, 891, 883] (by decide +kernel) (by decide +kernel)
set_option maxRecDepth 20000 in
theorem gL_law_X9_tell : GoodIn wsL_law (wsV RL 132 RX9 yX9_tell wsX9_tell) := goodIn_app (goodIn_of _ (by decide +kernel)) ggL_law_X9_tell
set_option maxRecDepth 20000 in
theorem ggL_law_X10_tell : GoodIn wsL_law wsX10_tell := goodIn_r _ [770, 111, 108, 256, 257, 258, 5, 259, 180, 771, 772, 773, 774, 775, 833, 834, 835, 836, 837, 838, 839, 840, 841, 842, 843, 844, 845, 846, 847, 848, 849, 850, 851, 852, 853, 854, 855, 856, 857, 858, 859, 860, 861, 862, 863, 864] (by decide +kernel) (by decide +kernel)
set_option maxRecDepth 20000 in
theorem gL_law_X10_tell : GoodIn wsL_law (wsV RL 135 RX10 yX10_tell wsX10_tell) := goodIn_app (goodIn_of _ (by decide +kernel)) ggL_law_X10_tell
