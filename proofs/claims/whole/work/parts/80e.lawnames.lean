set_option maxRecDepth 20000 in
theorem ggL_law_X7_felt : GoodIn wsL_law wsX7_felt := goodIn_r _ [625, 28, 626, 125, 126, 2, 127, 627, 628, 629, 27, 630, 631, 64, 65, 846, 847, 848, 849, 850, 851, 852, 853, 854, 911, 912, 913] (by decide +kernel) (by decide +kernel)
set_option maxRecDepth 20000 in
theorem gL_law_X7_felt : GoodIn wsL_law (wsV RL 74 RX7 yX7_felt wsX7_felt) := goodIn_app (goodIn_of _ (by decide +kernel)) ggL_law_X7_felt
set_option maxRecDepth 20000 in
theorem ggL_law_X8_felt : GoodIn wsL_law wsX8_felt := goodIn_r _ [635, 154, 636, 99, 100, 151, 152, 5, 153, 155, 156, 157, 855, 856, 857, 858, 859, 860, 861, 862, 863, 864, 865, 866, 867, 868, 869, 870, 871, 872, 873, 874, 875, 876, 877, 878, 879, 880, 881, 882, 883, 884, 885, 886, 887, 888, 889, 890, 891] (by decide +kernel) (by decide +kernel)
set_option maxRecDepth 20000 in
theorem gL_law_X8_felt : GoodIn wsL_law (wsV RL 77 RX8 yX8_felt wsX8_felt) := goodIn_app (goodIn_of _ (by decide +kernel)) ggL_law_X8_felt
set_option maxRecDepth 20000 in
theorem ggL_law_X7_forget : GoodIn wsL_law wsX7_forget := goodIn_r _ [640, 28, 626, 641, 642, 643, 27, 644, 631, 846, 847, 848, 849, 850, 851, 852, 853, 854, 911, 912, 913] (by decide +kernel) (by decide +kernel)
set_option maxRecDepth 20000 in
theorem gL_law_X7_forget : GoodIn wsL_law (wsV RL 78 RX7 yX7_forget wsX7_forget) := goodIn_app (goodIn_of _ (by decide +kernel)) ggL_law_X7_forget
set_option maxRecDepth 20000 in
theorem ggL_law_X8_forget : GoodIn wsL_law wsX8_forget := goodIn_r _ [648, 636, 855, 856, 857, 858, 859, 860, 861, 862, 863, 864, 865, 866, 867, 868, 869, 870, 871, 872, 873, 874, 875, 876, 877, 878, 879, 880, 881, 882, 883, 884, 885, 886, 887, 888, 889, 890, 891] (by decide +kernel) (by decide +kernel)
set_option maxRecDepth 20000 in
theorem gL_law_X8_forget : GoodIn wsL_law (wsV RL 81 RX8 yX8_forget wsX8_forget) := goodIn_app (goodIn_of _ (by decide +kernel)) ggL_law_X8_forget
set_option maxRecDepth 20000 in
theorem ggL_law_X7_fits : GoodIn wsL_law wsX7_fits := goodIn_r _ [652, 32, 28, 653, 654, 655, 31, 656, 657, 658, 659, 660, 661, 662, 663, 664, 665, 126, 2, 127, 666, 667, 668, 669, 133, 134, 135, 670, 559, 560, 671, 672, 673, 674, 846, 847, 848, 849, 850, 851, 852, 853, 854, 911, 912, 913] (by decide +kernel) (by decide +kernel)
set_option maxRecDepth 20000 in
theorem gL_law_X7_fits : GoodIn wsL_law (wsV RL 82 RX7 yX7_fits wsX7_fits) := goodIn_app (goodIn_of _ (by decide +kernel)) ggL_law_X7_fits
set_option maxRecDepth 20000 in
theorem ggL_law_X8_fits : GoodIn wsL_law wsX8_fits := goodIn_r _ [678, 679, 680, 681, 5, 682, 497, 636, 99, 100, 155, 156, 157, 683, 684, 685, 162, 163, 164, 855, 856, 857, 858, 859, 860, 861, 862, 863, 864, 865, 866, 867, 868, 869, 870, 871, 872, 873, 874, 875, 876, 877, 878, 879, 880, 881, 882, 883, 884, 885, 886, 887, 888, 889, 890, 891] (by decide +kernel) (by decide +kernel)
set_option maxRecDepth 20000 in
theorem gL_law_X8_fits : GoodIn wsL_law (wsV RL 85 RX8 yX8_fits wsX8_fits) := goodIn_app (goodIn_of _ (by decide +kernel)) ggL_law_X8_fits
set_option maxRecDepth 20000 in
theorem ggL_law_X7_ask : GoodIn wsL_law wsX7_ask := goodIn_r _ [689, 32, 28, 690, 691, 125, 126, 2, 127, 653, 654, 655, 31, 656, 657, 658, 659, 660, 661, 662, 663, 664, 665, 666, 667, 668, 669, 133, 134, 135, 670, 559, 560, 692, 693, 694, 695, 696, 697, 698, 699, 700, 701, 70, 846, 847, 848, 849, 850, 851, 852, 853, 854, 914, 915, 916, 911, 912, 913] (by decide +kernel) (by decide +kernel)
set_option maxRecDepth 20000 in
theorem gL_law_X7_ask : GoodIn wsL_law (wsV RL 86 RX7 yX7_ask wsX7_ask) := goodIn_app (goodIn_of _ (by decide +kernel)) ggL_law_X7_ask
set_option maxRecDepth 20000 in
theorem ggL_law_X8_ask : GoodIn wsL_law wsX8_ask := goodIn_r _ [705, 155, 156, 5, 157, 706, 707, 708, 709, 114, 679, 680, 681, 682, 497, 636, 99, 100, 683, 684, 685, 162, 163, 164, 457, 458, 459, 855, 856, 857, 858, 859, 860, 861, 862, 863, 864, 865, 866, 867, 868, 869, 870, 871, 872, 873, 874, 875, 876, 877, 878, 879, 880, 881, 882, 883, 884, 885, 886, 887, 888, 889, 890, 891] (by decide +kernel) (by decide +kernel)
set_option maxRecDepth 20000 in
theorem gL_law_X8_ask : GoodIn wsL_law (wsV RL 89 RX8 yX8_ask wsX8_ask) := goodIn_app (goodIn_of _ (by decide +kernel)) ggL_law_X8_ask
set_option maxRecDepth 20000 in
theorem ggL_law_X7_pull : GoodIn wsL_law wsX7_pull := goodIn_r _ [713, 36, 125, 126, 2, 127, 714, 715, 716, 35, 717, 81, 718, 368, 369, 846, 847, 848, 849, 850, 851, 852, 853, 854, 917, 918, 919, 920, 921, 922] (by decide +kernel) (by decide +kernel)
set_option maxRecDepth 20000 in
theorem gL_law_X7_pull : GoodIn wsL_law (wsV RL 90 RX7 yX7_pull wsX7_pull) := goodIn_app (goodIn_of _ (by decide +kernel)) ggL_law_X7_pull
set_option maxRecDepth 20000 in
theorem ggL_law_X8_pull : GoodIn wsL_law wsX8_pull := goodIn_r _ [722, 179, 154, 116, 155, 156, 5, 157, 723, 724, 725, 726, 457, 458, 459, 855, 856, 857, 858, 859, 860, 861, 862, 863, 864, 865, 866, 867, 868, 869, 870, 871, 872, 873, 874, 875, 876, 877, 878, 879, 880, 881, 882, 883, 884, 885, 886, 887, 888, 889, 890, 891] (by decide +kernel) (by decide +kernel)
set_option maxRecDepth 20000 in
theorem gL_law_X8_pull : GoodIn wsL_law (wsV RL 94 RX8 yX8_pull wsX8_pull) := goodIn_app (goodIn_of _ (by decide +kernel)) ggL_law_X8_pull
