set_option maxRecDepth 20000 in
theorem ggL_law_X7_deafens : GoodIn wsL_law wsX7_deafens := goodIn_r _ [598, 24, 401, 34, 599, 600, 601, 2, 602, 19, 603, 179, 180, 181, 338, 339, 340, 33, 341, 108, 107, 342, 236, 237, 238, 343, 344, 345, 346, 110, 347, 348, 349, 23, 350, 128, 129, 130, 72, 73, 74, 75, 76, 77, 78, 79, 80, 81, 82, 86, 285, 286, 287, 288, 289, 290, 291, 351, 352, 353, 85, 354, 90, 91, 92, 93, 94, 95, 604, 605, 606, 607, 608, 440, 441, 609, 472, 473, 474, 838, 839, 840, 841, 842, 843, 844, 845, 846, 847, 848, 849, 850, 900, 901, 902, 903, 904, 905, 906, 907, 908, 909, 910, 911, 912, 913, 914, 889, 890, 891, 892, 893, 894, 895, 896, 897, 898, 899, 918, 919, 920, 923, 924, 925, 926, 927, 928] (by decide +kernel) (by decide +kernel)
set_option maxRecDepth 20000 in
theorem gL_law_X7_deafens : GoodIn wsL_law (wsV RL 36 RX7 yX7_deafens wsX7_deafens) := goodIn_app (goodIn_of _ (by decide +kernel)) ggL_law_X7_deafens
set_option maxRecDepth 20000 in
theorem ggL_law_X8_deafens : GoodIn wsL_law wsX8_deafens := goodIn_r _ [613, 190, 144, 614, 615, 616, 5, 617, 167, 192, 193, 194, 382, 383, 384, 385, 172, 145, 386, 387, 388, 389, 618, 619, 620, 621, 567, 568, 569, 570, 394, 395, 396, 851, 852, 853, 854, 855, 856, 857, 858, 859, 860, 861, 862, 863, 864, 865, 866, 867, 868, 869, 870, 871, 872, 873, 874, 875, 876, 877, 878, 879, 880, 881, 882] (by decide +kernel) (by decide +kernel)
set_option maxRecDepth 20000 in
theorem gL_law_X8_deafens : GoodIn wsL_law (wsV RL 40 RX8 yX8_deafens wsX8_deafens) := goodIn_app (goodIn_of _ (by decide +kernel)) ggL_law_X8_deafens
set_option maxRecDepth 20000 in
theorem ggL_law_X7_widens : GoodIn wsL_law wsX7_widens := goodIn_r _ [625, 24, 626, 34, 179, 180, 2, 181, 338, 339, 340, 33, 341, 108, 107, 342, 236, 237, 238, 343, 344, 345, 346, 110, 347, 348, 349, 23, 350, 128, 129, 130, 72, 73, 74, 75, 76, 77, 78, 79, 80, 81, 82, 86, 285, 286, 287, 288, 289, 290, 291, 351, 352, 353, 85, 354, 90, 91, 92, 93, 94, 95, 838, 839, 840, 841, 842, 843, 844, 845, 846, 847, 848, 849, 850, 900, 901, 902, 903, 904, 905, 906, 907, 908, 909, 910, 911, 912, 913, 914, 918, 919, 920, 923, 924, 925, 926, 927, 928] (by decide +kernel) (by decide +kernel)
set_option maxRecDepth 20000 in
theorem gL_law_X7_widens : GoodIn wsL_law (wsV RL 41 RX7 yX7_widens wsX7_widens) := goodIn_app (goodIn_of _ (by decide +kernel)) ggL_law_X7_widens
set_option maxRecDepth 20000 in
theorem ggL_law_X8_widens : GoodIn wsL_law wsX8_widens := goodIn_r _ [630, 190, 144, 192, 193, 5, 194, 382, 383, 384, 385, 172, 145, 386, 387, 388, 389, 851, 852, 853, 854, 855, 856, 857, 858, 859, 860, 861, 862, 863, 864, 865, 866, 867, 868, 869, 870, 871, 872, 873, 874, 875, 876, 877, 878, 879, 880, 881, 882] (by decide +kernel) (by decide +kernel)
set_option maxRecDepth 20000 in
theorem gL_law_X8_widens : GoodIn wsL_law (wsV RL 44 RX8 yX8_widens wsX8_widens) := goodIn_app (goodIn_of _ (by decide +kernel)) ggL_law_X8_widens
set_option maxRecDepth 20000 in
theorem ggL_law_X7_undo : GoodIn wsL_law wsX7_undo := goodIn_r _ [634, 34, 24, 122, 635, 636, 637, 33, 638, 108, 107, 343, 344, 345, 346, 110, 180, 2, 181, 347, 348, 349, 23, 350, 128, 129, 130, 72, 73, 74, 75, 76, 77, 78, 79, 80, 81, 82, 86, 285, 286, 287, 236, 237, 238, 288, 289, 290, 291, 351, 352, 353, 85, 354, 90, 91, 92, 93, 94, 95, 838, 839, 840, 841, 842, 843, 844, 845, 846, 847, 848, 849, 850, 918, 919, 920, 900, 901, 902, 903, 904, 905, 906, 907, 908, 909, 910, 911, 912, 913, 914, 923, 924, 925, 926, 927, 928] (by decide +kernel) (by decide +kernel)
set_option maxRecDepth 20000 in
theorem gL_law_X7_undo : GoodIn wsL_law (wsV RL 45 RX7 yX7_undo wsX7_undo) := goodIn_app (goodIn_of _ (by decide +kernel)) ggL_law_X7_undo
set_option maxRecDepth 20000 in
theorem ggL_law_X8_undo : GoodIn wsL_law wsX8_undo := goodIn_r _ [642, 190, 172, 145, 144, 386, 387, 388, 5, 389, 851, 852, 853, 854, 855, 856, 857, 858, 859, 860, 861, 862, 863, 864, 865, 866, 867, 868, 869, 870, 871, 872, 873, 874, 875, 876, 877, 878, 879, 880, 881, 882] (by decide +kernel) (by decide +kernel)
set_option maxRecDepth 20000 in
theorem gL_law_X8_undo : GoodIn wsL_law (wsV RL 48 RX8 yX8_undo wsX8_undo) := goodIn_app (goodIn_of _ (by decide +kernel)) ggL_law_X8_undo
