set_option maxRecDepth 20000 in
theorem ggL_law_X7_init : GoodIn wsL_law wsX7_init := goodIn_r _ [8, 9, 10, 11, 12, 13, 14, 15, 16, 17, 18, 19, 20, 21, 22, 23, 24, 25, 26, 27, 28, 29, 30, 31, 32, 33, 34, 35, 36, 37, 38, 39, 40, 41, 42, 43, 44, 45, 46, 47, 48, 49, 50, 51, 52, 53, 54, 55, 56, 57, 58, 59, 60, 61, 62, 63, 64, 65, 66, 67, 68, 69, 70, 71, 72, 73, 74, 75, 76, 77, 78, 79, 80, 81, 82, 83, 84, 85, 86, 87, 88, 89, 90, 91, 892, 893, 894, 895, 896, 897, 898, 846, 847, 848, 849, 850, 851, 852, 853, 854, 899, 900, 901, 902, 903, 904, 905, 906, 907, 908, 909, 910, 911, 912, 913, 914, 915, 916, 917, 918, 919, 920, 921, 922, 923, 924, 925] (by decide +kernel) (by decide +kernel)
set_option maxRecDepth 20000 in
theorem gL_law_X7_init : GoodIn wsL_law (wsX7_init) := ggL_law_X7_init
set_option maxRecDepth 20000 in
theorem ggL_law_X8_init : GoodIn wsL_law wsX8_init := goodIn_r _ [94, 95, 10, 11, 46, 96, 97, 98, 99, 100, 101, 102, 103, 104, 105, 106, 107, 108, 109, 110, 111, 112, 113, 114, 115, 116, 117, 118, 119, 855, 856, 857, 858, 859, 860, 861, 862, 863, 864, 865, 866, 867, 868, 869, 870, 871, 872, 873, 874, 875, 876, 877, 878, 879, 880, 881, 882, 883, 884, 885, 886, 887, 888, 889, 890, 891] (by decide +kernel) (by decide +kernel)
set_option maxRecDepth 20000 in
theorem gL_law_X8_init : GoodIn wsL_law (wsX8_init) := ggL_law_X8_init
set_option maxRecDepth 20000 in
theorem ggL_law_X7_child : GoodIn wsL_law wsX7_child := goodIn_r _ [123, 15, 124, 125, 126, 2, 127, 128, 129, 130, 14, 131, 47, 132, 133, 134, 135, 49, 136, 137, 138, 139, 140, 141, 142, 143, 144, 846, 847, 848, 849, 850, 851, 852, 853, 854, 892, 893, 894, 895, 896, 897, 898] (by decide +kernel) (by decide +kernel)
set_option maxRecDepth 20000 in
theorem gL_law_X7_child : GoodIn wsL_law (wsV RL 13 RX7 yX7_child wsX7_child) := goodIn_app (goodIn_of _ (by decide +kernel)) ggL_law_X7_child
set_option maxRecDepth 20000 in
theorem ggL_law_X8_child : GoodIn wsL_law wsX8_child := goodIn_r _ [148, 149, 96, 150, 151, 152, 5, 153, 154, 155, 156, 157, 158, 159, 160, 161, 98, 162, 163, 164, 855, 856, 857, 858, 859, 860, 861, 862, 863, 864, 865, 866, 867, 868, 869, 870, 871, 872, 873, 874, 875, 876, 877, 878, 879, 880, 881, 882, 883, 884, 885, 886, 887, 888, 889, 890, 891] (by decide +kernel) (by decide +kernel)
set_option maxRecDepth 20000 in
theorem gL_law_X8_child : GoodIn wsL_law (wsV RL 17 RX8 yX8_child wsX8_child) := goodIn_app (goodIn_of _ (by decide +kernel)) ggL_law_X8_child
set_option maxRecDepth 20000 in
theorem ggL_law_X7_string : GoodIn wsL_law wsX7_string := goodIn_r _ [168, 15, 169, 125, 126, 2, 127, 170, 171, 172, 14, 173, 47, 132, 133, 134, 135, 846, 847, 848, 849, 850, 851, 852, 853, 854, 892, 893, 894, 895, 896, 897, 898] (by decide +kernel) (by decide +kernel)
set_option maxRecDepth 20000 in
theorem gL_law_X7_string : GoodIn wsL_law (wsV RL 18 RX7 yX7_string wsX7_string) := goodIn_app (goodIn_of _ (by decide +kernel)) ggL_law_X7_string
set_option maxRecDepth 20000 in
theorem ggL_law_X8_string : GoodIn wsL_law wsX8_string := goodIn_r _ [177, 178, 179, 96, 98, 155, 156, 5, 157, 162, 163, 164, 855, 856, 857, 858, 859, 860, 861, 862, 863, 864, 865, 866, 867, 868, 869, 870, 871, 872, 873, 874, 875, 876, 877, 878, 879, 880, 881, 882, 883, 884, 885, 886, 887, 888, 889, 890, 891] (by decide +kernel) (by decide +kernel)
set_option maxRecDepth 20000 in
theorem gL_law_X8_string : GoodIn wsL_law (wsV RL 22 RX8 yX8_string wsX8_string) := goodIn_app (goodIn_of _ (by decide +kernel)) ggL_law_X8_string
set_option maxRecDepth 20000 in
theorem ggL_law_X7_ball : GoodIn wsL_law wsX7_ball := goodIn_r _ [183, 15, 184, 125, 126, 2, 127, 846, 847, 848, 849, 850, 851, 852, 853, 854, 892, 893, 894, 895, 896, 897, 898] (by decide +kernel) (by decide +kernel)
set_option maxRecDepth 20000 in
theorem gL_law_X7_ball : GoodIn wsL_law (wsV RL 23 RX7 yX7_ball wsX7_ball) := goodIn_app (goodIn_of _ (by decide +kernel)) ggL_law_X7_ball
set_option maxRecDepth 20000 in
theorem ggL_law_X8_ball : GoodIn wsL_law wsX8_ball := goodIn_r _ [188, 149, 119, 155, 156, 5, 157, 855, 856, 857, 858, 859, 860, 861, 862, 863, 864, 865, 866, 867, 868, 869, 870, 871, 872, 873, 874, 875, 876, 877, 878, 879, 880, 881, 882, 883, 884, 885, 886, 887, 888, 889, 890, 891] (by decide +kernel) (by decide +kernel)
set_option maxRecDepth 20000 in
theorem gL_law_X8_ball : GoodIn wsL_law (wsV RL 27 RX8 yX8_ball wsX8_ball) := goodIn_app (goodIn_of _ (by decide +kernel)) ggL_law_X8_ball
set_option maxRecDepth 20000 in
theorem ggL_law_X7_say : GoodIn wsL_law wsX7_say := goodIn_r _ [192, 20, 193, 125, 126, 2, 127, 194, 195, 196, 19, 197, 198, 56, 846, 847, 848, 849, 850, 851, 852, 853, 854, 899, 900, 901, 902, 903, 904] (by decide +kernel) (by decide +kernel)
set_option maxRecDepth 20000 in
theorem gL_law_X7_say : GoodIn wsL_law (wsV RL 28 RX7 yX7_say wsX7_say) := goodIn_app (goodIn_of _ (by decide +kernel)) ggL_law_X7_say
set_option maxRecDepth 20000 in
theorem ggL_law_X8_say : GoodIn wsL_law wsX8_say := goodIn_r _ [202, 203, 204, 205, 101, 155, 156, 5, 157, 855, 856, 857, 858, 859, 860, 861, 862, 863, 864, 865, 866, 867, 868, 869, 870, 871, 872, 873, 874, 875, 876, 877, 878, 879, 880, 881, 882, 883, 884, 885, 886, 887, 888, 889, 890, 891] (by decide +kernel) (by decide +kernel)
set_option maxRecDepth 20000 in
theorem gL_law_X8_say : GoodIn wsL_law (wsV RL 31 RX8 yX8_say wsX8_say) := goodIn_app (goodIn_of _ (by decide +kernel)) ggL_law_X8_say
