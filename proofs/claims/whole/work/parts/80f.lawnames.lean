set_option maxRecDepth 20000 in
theorem ggL_law_X7_passed : GoodIn wsL_law wsX7_passed := goodIn_r _ [730, 731, 732, 733, 734, 125, 126, 2, 127, 735, 736, 737, 738, 739, 740, 741, 742, 743] (by decide +kernel) (by decide +kernel)
set_option maxRecDepth 20000 in
theorem gL_law_X7_passed : GoodIn wsL_law (wsV RL 95 RX7 yX7_passed wsX7_passed) := goodIn_app (goodIn_of _ (by decide +kernel)) ggL_law_X7_passed
set_option maxRecDepth 20000 in
theorem ggL_law_X8_passed : GoodIn wsL_law wsX8_passed := goodIn_r _ [747, 748, 749, 750, 155, 156, 5, 157, 751, 752, 753] (by decide +kernel) (by decide +kernel)
set_option maxRecDepth 20000 in
theorem gL_law_X8_passed : GoodIn wsL_law (wsV RL 99 RX8 yX8_passed wsX8_passed) := goodIn_app (goodIn_of _ (by decide +kernel)) ggL_law_X8_passed
set_option maxRecDepth 20000 in
theorem ggL_law_X7_year : GoodIn wsL_law wsX7_year := goodIn_r _ [757, 16, 124, 184, 125, 126, 2, 127, 758, 759, 760, 761, 15, 762, 272, 273, 274, 14, 275, 47, 48, 49, 140, 51, 276, 763, 764, 765, 766, 304, 305, 306, 307, 308, 309, 310, 311, 312, 313, 314, 50, 315, 316, 317, 318, 319, 320, 321, 322, 323, 324, 325, 326, 327, 328, 329, 330, 331, 171, 172, 173, 132, 133, 134, 135, 767, 333, 334, 335, 336, 337, 338, 339, 340, 142, 143, 144, 341, 342, 343, 344, 345, 346, 347, 348, 349, 350, 351, 352, 353, 354, 355, 356, 357, 358, 359, 360, 361, 362, 363, 364, 365, 366, 367, 768, 371, 372, 373, 374, 375, 376, 846, 847, 848, 849, 850, 851, 852, 853, 854, 892, 893, 894, 895, 896, 897, 898] (by decide +kernel) (by decide +kernel)
set_option maxRecDepth 20000 in
theorem gL_law_X7_year : GoodIn wsL_law (wsV RL 100 RX7 yX7_year wsX7_year) := goodIn_app (goodIn_of _ (by decide +kernel)) ggL_law_X7_year
set_option maxRecDepth 20000 in
theorem ggL_law_X8_year : GoodIn wsL_law wsX8_year := goodIn_r _ [772, 773, 179, 381, 384, 774, 243, 775, 96, 119, 155, 156, 5, 157, 389, 390, 391, 392, 106, 97, 98, 150, 393, 776, 777, 778, 401, 402, 403, 404, 405, 406, 407, 408, 149, 409, 410, 411, 412, 413, 105, 414, 415, 416, 417, 162, 163, 164, 418, 419, 420, 421, 422, 423, 424, 425, 426, 427, 428, 429, 430, 431, 432, 438, 439, 440, 441, 442, 443, 444, 445, 437, 446, 447, 448, 449, 450, 451, 452, 453, 454, 455, 456, 457, 458, 459, 460, 461, 462, 463, 467, 468, 469, 470, 855, 856, 857, 858, 859, 860, 861, 862, 863, 864, 865, 866, 867, 868, 869, 870, 871, 872, 873, 874, 875, 876, 877, 878, 879, 880, 881, 882, 883, 884, 885, 886, 887, 888, 889, 890, 891] (by decide +kernel) (by decide +kernel)
set_option maxRecDepth 20000 in
theorem gL_law_X8_year : GoodIn wsL_law (wsV RL 103 RX8 yX8_year wsX8_year) := goodIn_app (goodIn_of _ (by decide +kernel)) ggL_law_X8_year
set_option maxRecDepth 20000 in
theorem ggL_law_X7_image : GoodIn wsL_law wsX7_image := goodIn_r _ [782, 15, 28, 125, 126, 2, 127, 783, 784, 785, 786, 40, 41, 787, 788, 789, 39, 790, 87, 89, 791, 792, 273, 274, 14, 275, 47, 48, 49, 140, 51, 276, 793, 794, 795, 27, 796, 64, 65, 631, 846, 847, 848, 849, 850, 851, 852, 853, 854, 923, 924, 925, 892, 893, 894, 895, 896, 897, 898, 911, 912, 913] (by decide +kernel) (by decide +kernel)
set_option maxRecDepth 20000 in
theorem gL_law_X7_image : GoodIn wsL_law (wsV RL 104 RX7 yX7_image wsX7_image) := goodIn_app (goodIn_of _ (by decide +kernel)) ggL_law_X7_image
set_option maxRecDepth 20000 in
theorem ggL_law_X8_image : GoodIn wsL_law wsX8_image := goodIn_r _ [800, 801, 802, 118, 155, 156, 5, 157, 803, 804, 805, 806, 150, 119, 393, 636, 96, 97, 98, 99, 100, 807, 808, 809, 810, 117, 811, 812, 813, 814, 855, 856, 857, 858, 859, 860, 861, 862, 863, 864, 865, 866, 867, 868, 869, 870, 871, 872, 873, 874, 875, 876, 877, 878, 879, 880, 881, 882, 883, 884, 885, 886, 887, 888, 889, 890, 891] (by decide +kernel) (by decide +kernel)
set_option maxRecDepth 20000 in
theorem gL_law_X8_image : GoodIn wsL_law (wsV RL 107 RX8 yX8_image wsX8_image) := goodIn_app (goodIn_of _ (by decide +kernel)) ggL_law_X8_image
set_option maxRecDepth 20000 in
theorem ggL_law_X7_restore : GoodIn wsL_law wsX7_restore := goodIn_r _ [818, 819, 15, 28, 125, 126, 2, 127, 783, 784, 785, 786, 40, 41, 820, 821, 822, 39, 823, 87, 89, 792, 273, 274, 14, 275, 47, 48, 49, 140, 51, 276, 793, 794, 795, 27, 796, 64, 65, 631, 923, 924, 925, 846, 847, 848, 849, 850, 851, 852, 853, 854, 892, 893, 894, 895, 896, 897, 898, 911, 912, 913] (by decide +kernel) (by decide +kernel)
set_option maxRecDepth 20000 in
theorem gL_law_X7_restore : GoodIn wsL_law (wsV RL 108 RX7 yX7_restore wsX7_restore) := goodIn_app (goodIn_of _ (by decide +kernel)) ggL_law_X7_restore
set_option maxRecDepth 20000 in
theorem ggL_law_X8_restore : GoodIn wsL_law wsX8_restore := goodIn_r _ [827, 118, 801, 802, 155, 156, 5, 157, 803, 804, 805, 806, 150, 119, 393, 636, 96, 97, 98, 99, 100, 807, 808, 809, 810, 117, 811, 812, 813, 814, 855, 856, 857, 858, 859, 860, 861, 862, 863, 864, 865, 866, 867, 868, 869, 870, 871, 872, 873, 874, 875, 876, 877, 878, 879, 880, 881, 882, 883, 884, 885, 886, 887, 888, 889, 890, 891] (by decide +kernel) (by decide +kernel)
set_option maxRecDepth 20000 in
theorem gL_law_X8_restore : GoodIn wsL_law (wsV RL 111 RX8 yX8_restore wsX8_restore) := goodIn_app (goodIn_of _ (by decide +kernel)) ggL_law_X8_restore
set_option maxRecDepth 20000 in
theorem ggL_law_X7_told : GoodIn wsL_law wsX7_told := goodIn_r _ [831, 20, 193, 15, 832, 184, 484, 28, 626, 833, 834, 835, 2, 836, 124, 475, 169, 125, 126, 127, 846, 847, 848, 849, 850, 851, 852, 853, 854, 899, 900, 901, 902, 903, 904, 892, 893, 894, 895, 896, 897, 898, 911, 912, 913] (by decide +kernel) (by decide +kernel)
set_option maxRecDepth 20000 in
theorem gL_law_X7_told : GoodIn wsL_law (wsV RL 112 RX7 yX7_told wsX7_told) := goodIn_app (goodIn_of _ (by decide +kernel)) ggL_law_X7_told
set_option maxRecDepth 20000 in
theorem ggL_law_X8_told : GoodIn wsL_law wsX8_told := goodIn_r _ [840, 749, 841, 96, 842, 843, 97, 844, 845, 98, 205, 150, 119, 393, 636, 155, 156, 5, 157, 855, 856, 857, 858, 859, 860, 861, 862, 863, 864, 865, 866, 867, 868, 869, 870, 871, 872, 873, 874, 875, 876, 877, 878, 879, 880, 881, 882, 883, 884, 885, 886, 887, 888, 889, 890, 891] (by decide +kernel) (by decide +kernel)
set_option maxRecDepth 20000 in
theorem gL_law_X8_told : GoodIn wsL_law (wsV RL 115 RX8 yX8_told wsX8_told) := goodIn_app (goodIn_of _ (by decide +kernel)) ggL_law_X8_told
