set_option maxRecDepth 20000 in
theorem ggL_law_X7_sort : GoodIn wsL_law wsX7_sort := goodIn_r _ [646, 19, 647, 648, 649, 650, 24, 332, 651, 652, 653, 654, 333, 334, 335, 2, 336, 337, 655, 656, 657, 85, 658, 90, 659, 660, 661, 662, 95, 838, 839, 840, 841, 842, 843, 844, 845, 846, 847, 848, 849, 850, 889, 890, 891, 892, 893, 894, 895, 896, 897, 898, 899, 900, 901, 902, 903, 904, 905, 906, 907, 908, 909, 910, 911, 912, 913, 914, 923, 924, 925, 926, 927, 928] (by decide +kernel) (by decide +kernel)
set_option maxRecDepth 20000 in
theorem gL_law_X7_sort : GoodIn wsL_law (wsV RL 49 RX7 yX7_sort wsX7_sort) := goodIn_app (goodIn_of _ (by decide +kernel)) ggL_law_X7_sort
set_option maxRecDepth 20000 in
theorem ggL_law_X8_sort : GoodIn wsL_law wsX8_sort := goodIn_r _ [666, 190, 141, 144, 375, 376, 377, 5, 378, 168, 192, 193, 194, 379, 380, 381, 552, 553, 554, 851, 852, 853, 854, 855, 856, 857, 858, 859, 860, 861, 862, 863, 864, 865, 866, 867, 868, 869, 870, 871, 872, 873, 874, 875, 876, 877, 878, 879, 880, 881, 882] (by decide +kernel) (by decide +kernel)
set_option maxRecDepth 20000 in
theorem gL_law_X8_sort : GoodIn wsL_law (wsV RL 52 RX8 yX8_sort wsX8_sort) := goodIn_app (goodIn_of _ (by decide +kernel)) ggL_law_X8_sort
set_option maxRecDepth 20000 in
theorem ggL_law_X7_terminal : GoodIn wsL_law wsX7_terminal := goodIn_r _ [670, 19, 671, 24, 672, 673, 674, 675, 29, 676, 677, 654, 599, 600, 601, 2, 602, 603, 678, 517, 518, 28, 519, 101, 366, 359, 102, 361, 679, 680, 681, 85, 682, 90, 91, 838, 839, 840, 841, 842, 843, 844, 845, 846, 847, 848, 849, 850, 889, 890, 891, 892, 893, 894, 895, 896, 897, 898, 899, 900, 901, 902, 903, 904, 905, 906, 907, 908, 909, 910, 911, 912, 913, 914, 915, 916, 917, 923, 924, 925, 926, 927, 928] (by decide +kernel) (by decide +kernel)
set_option maxRecDepth 20000 in
theorem gL_law_X7_terminal : GoodIn wsL_law (wsV RL 53 RX7 yX7_terminal wsX7_terminal) := goodIn_app (goodIn_of _ (by decide +kernel)) ggL_law_X7_terminal
set_option maxRecDepth 20000 in
theorem ggL_law_X8_terminal : GoodIn wsL_law wsX8_terminal := goodIn_r _ [686, 190, 140, 144, 614, 615, 616, 5, 617, 167, 192, 193, 194, 394, 395, 396, 591, 592, 593, 594, 168, 141, 379, 380, 381, 687, 688, 689, 690, 552, 553, 554, 851, 852, 853, 854, 855, 856, 857, 858, 859, 860, 861, 862, 863, 864, 865, 866, 867, 868, 869, 870, 871, 872, 873, 874, 875, 876, 877, 878, 879, 880, 881, 882] (by decide +kernel) (by decide +kernel)
set_option maxRecDepth 20000 in
theorem gL_law_X8_terminal : GoodIn wsL_law (wsV RL 56 RX8 yX8_terminal wsX8_terminal) := goodIn_app (goodIn_of _ (by decide +kernel)) ggL_law_X8_terminal
set_option maxRecDepth 20000 in
theorem ggL_law_X7_block : GoodIn wsL_law wsX7_block := goodIn_r _ [694, 24, 654, 179, 180, 2, 181, 695, 696, 697, 85, 698, 90, 699, 700, 701, 702, 92, 91, 703, 704, 705, 706, 93, 94, 707, 447, 448, 449, 450, 451, 452, 453, 95, 454, 455, 456, 457, 838, 839, 840, 841, 842, 843, 844, 845, 846, 847, 848, 849, 850, 900, 901, 902, 903, 904, 905, 906, 907, 908, 909, 910, 911, 912, 913, 914, 923, 924, 925, 926, 927, 928] (by decide +kernel) (by decide +kernel)
set_option maxRecDepth 20000 in
theorem gL_law_X7_block : GoodIn wsL_law (wsV RL 57 RX7 yX7_block wsX7_block) := goodIn_app (goodIn_of _ (by decide +kernel)) ggL_law_X7_block
set_option maxRecDepth 20000 in
theorem ggL_law_X8_block : GoodIn wsL_law wsX8_block := goodIn_r _ [711, 190, 144, 192, 193, 5, 194, 712, 713, 714, 715, 552, 553, 554, 555, 556, 557, 558, 559, 560, 561, 562, 168, 851, 852, 853, 854, 855, 856, 857, 858, 859, 860, 861, 862, 863, 864, 865, 866, 867, 868, 869, 870, 871, 872, 873, 874, 875, 876, 877, 878, 879, 880, 881, 882] (by decide +kernel) (by decide +kernel)
set_option maxRecDepth 20000 in
theorem gL_law_X8_block : GoodIn wsL_law (wsV RL 60 RX8 yX8_block wsX8_block) := goodIn_app (goodIn_of _ (by decide +kernel)) ggL_law_X8_block
