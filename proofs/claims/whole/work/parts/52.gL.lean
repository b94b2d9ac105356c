set_option maxRecDepth 20000 in
theorem ggL_law_X7_init : GoodIn wsL_law wsX7_init := goodIn_r _ [8, 9, 10, 11, 12, 13, 14, 15, 16, 17, 18, 19, 20, 21, 22, 23, 24, 25, 26, 27, 28, 29, 30, 31, 32, 33, 34, 35, 36, 37, 38, 39, 40, 41, 42, 43, 44, 45, 46, 47, 48, 49, 50, 51, 52, 53, 54, 55, 56, 57, 58, 59, 60, 61, 62, 63, 64, 65, 66, 67, 68, 69, 70, 71, 72, 73, 74, 75, 76, 77, 78, 79, 80, 81, 82, 83, 84, 85, 86, 87, 88, 89, 90, 91, 92, 93, 94, 95, 96, 97, 98, 99, 100, 101, 102, 103, 104, 105, 106, 107, 108, 109, 110, 111, 112, 113, 114, 115, 116, 117, 118, 119, 2, 120, 121, 122, 123, 124, 125, 126, 127, 128, 129, 130, 131, 132, 133, 134, 135, 883, 884, 885, 886, 887, 888, 838, 839, 840, 841, 842, 843, 844, 845, 846, 847, 848, 849, 850, 889, 890, 891, 892, 893, 894, 895, 896, 897, 898, 899, 900, 901, 902, 903, 904, 905, 906, 907, 908, 909, 910, 911, 912, 913, 914, 915, 916, 917, 918, 919, 920, 921, 922, 923, 924, 925, 926, 927, 928] (by decide +kernel) (by decide +kernel)
set_option maxRecDepth 20000 in
theorem gL_law_X7_init : GoodIn wsL_law (wsX7_init) := ggL_law_X7_init
set_option maxRecDepth 20000 in
theorem ggL_law_X8_init : GoodIn wsL_law wsX8_init := goodIn_r _ [138, 139, 10, 11, 40, 140, 141, 142, 143, 144, 145, 146, 147, 148, 149, 150, 151, 152, 153, 154, 155, 5, 156, 157, 158, 159, 160, 161, 162, 163, 164, 165, 166, 167, 168, 169, 170, 171, 172, 173, 851, 852, 853, 854, 855, 856, 857, 858, 859, 860, 861, 862, 863, 864, 865, 866, 867, 868, 869, 870, 871, 872, 873, 874, 875, 876, 877, 878, 879, 880, 881, 882] (by decide +kernel) (by decide +kernel)
set_option maxRecDepth 20000 in
theorem gL_law_X8_init : GoodIn wsL_law (wsX8_init) := ggL_law_X8_init
set_option maxRecDepth 20000 in
theorem ggL_law_X7_type : GoodIn wsL_law wsX7_type := goodIn_r _ [177, 15, 178, 179, 180, 2, 181, 182, 183, 184, 14, 185, 49, 48, 838, 839, 840, 841, 842, 843, 844, 845, 846, 847, 848, 849, 850, 883, 884, 885, 886, 887, 888] (by decide +kernel) (by decide +kernel)
set_option maxRecDepth 20000 in
theorem gL_law_X7_type : GoodIn wsL_law (wsV RL 13 RX7 yX7_type wsX7_type) := goodIn_app (goodIn_of _ (by decide +kernel)) ggL_law_X7_type
set_option maxRecDepth 20000 in
theorem ggL_law_X8_type : GoodIn wsL_law wsX8_type := goodIn_r _ [189, 190, 191, 152, 192, 193, 5, 194, 851, 852, 853, 854, 855, 856, 857, 858, 859, 860, 861, 862, 863, 864, 865, 866, 867, 868, 869, 870, 871, 872, 873, 874, 875, 876, 877, 878, 879, 880, 881, 882] (by decide +kernel) (by decide +kernel)
set_option maxRecDepth 20000 in
theorem gL_law_X8_type : GoodIn wsL_law (wsV RL 17 RX8 yX8_type wsX8_type) := goodIn_app (goodIn_of _ (by decide +kernel)) ggL_law_X8_type
set_option maxRecDepth 20000 in
theorem ggL_law_X7_clear : GoodIn wsL_law wsX7_clear := goodIn_r _ [198, 15, 199, 200, 201, 14, 202, 49, 838, 839, 840, 841, 842, 843, 844, 845, 846, 847, 848, 849, 850, 883, 884, 885, 886, 887, 888] (by decide +kernel) (by decide +kernel)
set_option maxRecDepth 20000 in
theorem gL_law_X7_clear : GoodIn wsL_law (wsV RL 18 RX7 yX7_clear wsX7_clear) := goodIn_app (goodIn_of _ (by decide +kernel)) ggL_law_X7_clear
set_option maxRecDepth 20000 in
theorem ggL_law_X8_clear : GoodIn wsL_law wsX8_clear := goodIn_r _ [206, 190, 191, 851, 852, 853, 854, 855, 856, 857, 858, 859, 860, 861, 862, 863, 864, 865, 866, 867, 868, 869, 870, 871, 872, 873, 874, 875, 876, 877, 878, 879, 880, 881, 882] (by decide +kernel) (by decide +kernel)
set_option maxRecDepth 20000 in
theorem gL_law_X8_clear : GoodIn wsL_law (wsV RL 22 RX8 yX8_clear wsX8_clear) := goodIn_app (goodIn_of _ (by decide +kernel)) ggL_law_X8_clear
set_option maxRecDepth 20000 in
theorem ggL_law_X7_cell : GoodIn wsL_law wsX7_cell := goodIn_r _ [210, 15, 20, 19, 211, 212, 213, 14, 214, 215, 216, 217, 218, 60, 61, 18, 62, 63, 64, 65, 66, 67, 68, 219, 220, 221, 222, 49, 223, 224, 225, 226, 48, 227, 228, 229, 230, 231, 232, 233, 234, 235, 236, 237, 238, 239, 240, 241, 242, 243, 244, 245, 246, 247, 248, 249, 250, 251, 252, 253, 254, 255, 256, 257, 258, 259, 260, 261, 262, 263, 264, 265, 266, 267, 268, 269, 270, 271, 272, 273, 274, 275, 276, 277, 278, 279, 280, 281, 282, 283, 284, 54, 55, 56, 57, 58, 285, 2, 286, 287, 288, 289, 290, 291, 199, 200, 201, 202, 117, 118, 119, 120, 24, 121, 34, 122, 38, 123, 39, 43, 124, 125, 126, 23, 127, 128, 129, 130, 72, 73, 74, 75, 76, 77, 78, 79, 80, 81, 82, 86, 131, 132, 133, 134, 135, 838, 839, 840, 841, 842, 843, 844, 845, 846, 847, 848, 849, 850, 883, 884, 885, 886, 887, 888, 889, 890, 891, 892, 893, 894, 895, 896, 897, 898, 899, 918, 919, 920, 921, 922, 900, 901, 902, 903, 904, 905, 906, 907, 908, 909, 910, 911, 912, 913, 914, 923, 924, 925, 926, 927, 928] (by decide +kernel) (by decide +kernel)
set_option maxRecDepth 20000 in
theorem gL_law_X7_cell : GoodIn wsL_law (wsV RL 23 RX7 yX7_cell wsX7_cell) := goodIn_app (goodIn_of _ (by decide +kernel)) ggL_law_X7_cell
set_option maxRecDepth 20000 in
theorem ggL_law_X8_cell : GoodIn wsL_law wsX8_cell := goodIn_r _ [295, 190, 296, 297, 298, 191, 153, 154, 155, 5, 156, 157, 158, 159, 160, 161, 162, 299, 300, 301, 302, 152, 303, 304, 305, 306, 192, 193, 194, 307, 308, 309, 310, 311, 312, 313, 314, 315, 142, 316, 317, 318, 319, 320, 321, 322, 323, 324, 325, 326, 327, 143, 163, 164, 165, 166, 167, 168, 169, 170, 171, 140, 141, 144, 172, 173, 148, 851, 852, 853, 854, 855, 856, 857, 858, 859, 860, 861, 862, 863, 864, 865, 866, 867, 868, 869, 870, 871, 872, 873, 874, 875, 876, 877, 878, 879, 880, 881, 882] (by decide +kernel) (by decide +kernel)
set_option maxRecDepth 20000 in
theorem gL_law_X8_cell : GoodIn wsL_law (wsV RL 26 RX8 yX8_cell wsX8_cell) := goodIn_app (goodIn_of _ (by decide +kernel)) ggL_law_X8_cell
set_option maxRecDepth 20000 in
theorem ggL_law_X7_comes : GoodIn wsL_law wsX7_comes := goodIn_r _ [331, 24, 332, 34, 29, 333, 334, 335, 2, 336, 19, 337, 179, 180, 181, 338, 339, 340, 33, 341, 108, 107, 342, 236, 237, 238, 343, 344, 345, 346, 110, 347, 348, 349, 23, 350, 128, 129, 130, 72, 73, 74, 75, 76, 77, 78, 79, 80, 81, 82, 86, 285, 286, 287, 288, 289, 290, 291, 351, 352, 353, 85, 354, 90, 91, 92, 93, 94, 95, 355, 356, 357, 28, 358, 101, 359, 102, 360, 361, 362, 363, 364, 365, 366, 367, 368, 369, 18, 370, 56, 838, 839, 840, 841, 842, 843, 844, 845, 846, 847, 848, 849, 850, 900, 901, 902, 903, 904, 905, 906, 907, 908, 909, 910, 911, 912, 913, 914, 889, 890, 891, 892, 893, 894, 895, 896, 897, 898, 899, 918, 919, 920, 923, 924, 925, 926, 927, 928, 915, 916, 917] (by decide +kernel) (by decide +kernel)
set_option maxRecDepth 20000 in
theorem gL_law_X7_comes : GoodIn wsL_law (wsV RL 27 RX7 yX7_comes wsX7_comes) := goodIn_app (goodIn_of _ (by decide +kernel)) ggL_law_X7_comes
set_option maxRecDepth 20000 in
theorem ggL_law_X8_comes : GoodIn wsL_law wsX8_comes := goodIn_r _ [374, 190, 144, 141, 168, 375, 376, 377, 5, 378, 192, 193, 194, 379, 380, 381, 382, 383, 384, 385, 172, 145, 386, 387, 388, 389, 390, 391, 392, 393, 394, 395, 396, 851, 852, 853, 854, 855, 856, 857, 858, 859, 860, 861, 862, 863, 864, 865, 866, 867, 868, 869, 870, 871, 872, 873, 874, 875, 876, 877, 878, 879, 880, 881, 882] (by decide +kernel) (by decide +kernel)
set_option maxRecDepth 20000 in
theorem gL_law_X8_comes : GoodIn wsL_law (wsV RL 31 RX8 yX8_comes wsX8_comes) := goodIn_app (goodIn_of _ (by decide +kernel)) ggL_law_X8_comes
set_option maxRecDepth 20000 in
theorem ggL_law_X7_steps : GoodIn wsL_law wsX7_steps := goodIn_r _ [400, 24, 401, 34, 29, 179, 180, 2, 181, 338, 339, 340, 33, 341, 108, 107, 342, 236, 237, 238, 343, 344, 345, 346, 110, 347, 348, 349, 23, 350, 128, 129, 130, 72, 73, 74, 75, 76, 77, 78, 79, 80, 81, 82, 86, 285, 286, 287, 288, 289, 290, 291, 351, 352, 353, 85, 354, 90, 91, 92, 93, 94, 95, 402, 403, 404, 28, 405, 102, 406, 100, 407, 408, 409, 410, 411, 412, 413, 414, 415, 416, 101, 366, 417, 418, 419, 420, 421, 422, 423, 424, 425, 426, 360, 427, 428, 429, 430, 431, 432, 18, 433, 54, 434, 435, 436, 437, 438, 439, 440, 441, 442, 443, 444, 445, 446, 447, 448, 449, 450, 451, 452, 453, 454, 455, 456, 457, 458, 459, 460, 461, 462, 463, 464, 465, 466, 467, 468, 469, 470, 471, 472, 473, 474, 475, 476, 477, 478, 479, 480, 481, 482, 483, 484, 485, 486, 487, 488, 489, 490, 491, 492, 493, 494, 495, 496, 497, 498, 499, 500, 501, 502, 503, 504, 505, 506, 507, 508, 509, 510, 359, 511, 361, 512, 513, 514, 515, 516, 517, 518, 519, 520, 521, 522, 523, 524, 525, 526, 527, 528, 529, 530, 531, 838, 839, 840, 841, 842, 843, 844, 845, 846, 847, 848, 849, 850, 900, 901, 902, 903, 904, 905, 906, 907, 908, 909, 910, 911, 912, 913, 914, 918, 919, 920, 923, 924, 925, 926, 927, 928, 915, 916, 917, 889, 890, 891, 892, 893, 894, 895, 896, 897, 898, 899] (by decide +kernel) (by decide +kernel)
set_option maxRecDepth 20000 in
theorem gL_law_X7_steps : GoodIn wsL_law (wsV RL 32 RX7 yX7_steps wsX7_steps) := goodIn_app (goodIn_of _ (by decide +kernel)) ggL_law_X7_steps
set_option maxRecDepth 20000 in
theorem ggL_law_X8_steps : GoodIn wsL_law wsX8_steps := goodIn_r _ [535, 190, 144, 536, 192, 193, 5, 194, 382, 383, 384, 385, 172, 145, 386, 387, 388, 389, 537, 538, 539, 540, 168, 141, 167, 379, 380, 381, 541, 542, 543, 544, 545, 546, 547, 140, 169, 394, 395, 396, 548, 549, 550, 551, 552, 553, 554, 555, 556, 557, 558, 559, 560, 561, 562, 563, 564, 565, 566, 171, 170, 567, 568, 569, 570, 571, 572, 573, 574, 575, 576, 577, 578, 579, 580, 581, 582, 583, 584, 585, 586, 587, 588, 589, 590, 390, 391, 392, 393, 591, 592, 593, 594, 851, 852, 853, 854, 855, 856, 857, 858, 859, 860, 861, 862, 863, 864, 865, 866, 867, 868, 869, 870, 871, 872, 873, 874, 875, 876, 877, 878, 879, 880, 881, 882] (by decide +kernel) (by decide +kernel)
set_option maxRecDepth 20000 in
theorem gL_law_X8_steps : GoodIn wsL_law (wsV RL 35 RX8 yX8_steps wsX8_steps) := goodIn_app (goodIn_of _ (by decide +kernel)) ggL_law_X8_steps
set_option maxRecDepth 20000 in
theorem ggL_law_X7_deafens : GoodIn wsL_law wsX7_deafens := goodIn_r _ [598, 24, 401, 34, 599, 600, 601, 2, 602, 19, 603, 179, 180, 181, 338, 339, 340, 33, 341, 108, 107, 342, 236, 237, 238, 343, 344, 345, 346, 110, 347, 348, 349, 23, 350, 128, 129, 130, 72, 73, 74, 75, 76, 77, 78, 79, 80, 81, 82, 86, 285, 286, 287, 288, 289, 290, 291, 351, 352, 353, 85, 354, 90, 91, 92, 93, 94, 95, 604, 605, 606, 607, 608, 440, 441, 609, 472, 473, 474, 838, 839, 840, 841, 842, 843, 844, 845, 846, 847, 848, 849, 850, 900, 901, 902, 903, 904, 905, 906, 907, 908, 909, 910, 911, 912, 913, 914, 889, 890, 891, 892, 893, 894, 895, 896, 897, 898, 899, 918, 919, 920, 923, 924, 925, 926, 927, 928] (by decide +kernel) (by decide +kernel)
set_option maxRecDepth 20000 in
theorem gL_law_X7_deafens : GoodIn wsL_law (wsV RL 36 RX7 yX7_deafens wsX7_deafens) := goodIn_app (goodIn_of _ (by decide +kernel)) ggL_law_X7_deafens
set_option maxRecDepth 20000 in
theorem ggL_law_X8_deafens : GoodIn wsL_law wsX8_deafens := goodIn_r _ [613, 190, 144, 614, 615, 616, 5, 617, 167, 192, 193, 194, 382, 383, 384, 385, 172, 145, 386, 387, 388, 389, 618, 619, 620, 621, 567, 568, 569, 570, 394, 395, 396, 851, 852, 853, 854, 855, 856, 857, 858, 859, 860, 861, 862, 863, 864, 865, 866, 867, 868, 869, 870, 871, 872, 873, 874, 875, 876, 877, 878, 879, 880, 881, 882] (by decide +kernel) (by decide +kernel)
set_option maxRecDepth 20000 in
theorem gL_law_X8_deafens : GoodIn wsL_law (wsV RL 40 RX8 yX8_deafens wsX8_deafens) := goodIn_app (goodIn_of _ (by decide +kernel)) ggL_law_X8_deafens
set_option maxRecDepth 20000 in
theorem ggL_law_X7_widens : GoodIn wsL_law wsX7_widens := goodIn_r _ [625, 24, 626, 34, 179, 180, 2, 181, 338, 339, 340, 33, 341, 108, 107, 342, 236, 237, 238, 343, 344, 345, 346, 110, 347, 348, 349, 23, 350, 128, 129, 130, 72, 73, 74, 75, 76, 77, 78, 79, 80, 81, 82, 86, 285, 286, 287, 288, 289, 290, 291, 351, 352, 353, 85, 354, 90, 91, 92, 93, 94, 95, 838, 839, 840, 841, 842, 843, 844, 845, 846, 847, 848, 849, 850, 900, 901, 902, 903, 904, 905, 906, 907, 908, 909, 910, 911, 912, 913, 914, 918, 919, 920, 923, 924, 925, 926, 927, 928] (by decide +kernel) (by decide +kernel)
set_option maxRecDepth 20000 in
theorem gL_law_X7_widens : GoodIn wsL_law (wsV RL 41 RX7 yX7_widens wsX7_widens) := goodIn_app (goodIn_of _ (by decide +kernel)) ggL_law_X7_widens
set_option maxRecDepth 20000 in
theorem ggL_law_X8_widens : GoodIn wsL_law wsX8_widens := goodIn_r _ [630, 190, 144, 192, 193, 5, 194, 382, 383, 384, 385, 172, 145, 386, 387, 388, 389, 851, 852, 853, 854, 855, 856, 857, 858, 859, 860, 861, 862, 863, 864, 865, 866, 867, 868, 869, 870, 871, 872, 873, 874, 875, 876, 877, 878, 879, 880, 881, 882] (by decide +kernel) (by decide +kernel)
set_option maxRecDepth 20000 in
theorem gL_law_X8_widens : GoodIn wsL_law (wsV RL 44 RX8 yX8_widens wsX8_widens) := goodIn_app (goodIn_of _ (by decide +kernel)) ggL_law_X8_widens
set_option maxRecDepth 20000 in
theorem ggL_law_X7_undo : GoodIn wsL_law wsX7_undo := goodIn_r _ [634, 34, 24, 122, 635, 636, 637, 33, 638, 108, 107, 343, 344, 345, 346, 110, 180, 2, 181, 347, 348, 349, 23, 350, 128, 129, 130, 72, 73, 74, 75, 76, 77, 78, 79, 80, 81, 82, 86, 285, 286, 287, 236, 237, 238, 288, 289, 290, 291, 351, 352, 353, 85, 354, 90, 91, 92, 93, 94, 95, 838, 839, 840, 841, 842, 843, 844, 845, 846, 847, 848, 849, 850, 918, 919, 920, 900, 901, 902, 903, 904, 905, 906, 907, 908, 909, 910, 911, 912, 913, 914, 923, 924, 925, 926, 927, 928] (by decide +kernel) (by decide +kernel)
set_option maxRecDepth 20000 in
theorem gL_law_X7_undo : GoodIn wsL_law (wsV RL 45 RX7 yX7_undo wsX7_undo) := goodIn_app (goodIn_of _ (by decide +kernel)) ggL_law_X7_undo
set_option maxRecDepth 20000 in
theorem ggL_law_X8_undo : GoodIn wsL_law wsX8_undo := goodIn_r _ [642, 190, 172, 145, 144, 386, 387, 388, 5, 389, 851, 852, 853, 854, 855, 856, 857, 858, 859, 860, 861, 862, 863, 864, 865, 866, 867, 868, 869, 870, 871, 872, 873, 874, 875, 876, 877, 878, 879, 880, 881, 882] (by decide +kernel) (by decide +kernel)
set_option maxRecDepth 20000 in
theorem gL_law_X8_undo : GoodIn wsL_law (wsV RL 48 RX8 yX8_undo wsX8_undo) := goodIn_app (goodIn_of _ (by decide +kernel)) ggL_law_X8_undo
set_option maxRecDepth 20000 in
theorem ggL_law_X7_sort : GoodIn wsL_law wsX7_sort := goodIn_r _ [646, 19, 647, 648, 649, 650, 24, 332, 651, 652, 653, 654, 333, 334, 335, 2, 336, 337, 655, 656, 657, 85, 658, 90, 659, 660, 661, 662, 95, 838, 839, 840, 841, 842, 843, 844, 845, 846, 847, 848, 849, 850, 889, 890, 891, 892, 893, 894, 895, 896, 897, 898, 899, 900, 901, 902, 903, 904, 905, 906, 907, 908, 909, 910, 911, 912, 913, 914, 923, 924, 925, 926, 927, 928] (by decide +kernel) (by decide +kernel)
set_option maxRecDepth 20000 in
theorem gL_law_X7_sort : GoodIn wsL_law (wsV RL 49 RX7 yX7_sort wsX7_sort) := goodIn_app (goodIn_of _ (by decide +kernel)) ggL_law_X7_sort
set_option maxRecDepth 20000 in
theorem ggL_law_X8_sort : GoodIn wsL_law wsX8_sort := goodIn_r _ [666, 190, 141, 144, 375, 376, 377, 5, 378, 168, 192, 193, 194, 379, 380, 381, 552, 553, 554, 851, 852, 853, 854, 855, 856, 857, 858, 859, 860, 861, 862, 863, 864, 865, 866, 867, 868, 869, 870, 871, 872, 873, 874, 875, 876, 877, 878, 879, 880, 881, 882] (by decide +kernel) (by decide +kernel)
set_option maxRecDepth 20000 in
theorem gL_law_X8_sort : GoodIn wsL_law (wsV RL 52 RX8 yX8_sort wsX8_sort) := goodIn_app (goodIn_of _ (by decide +kernel)) ggL_law_X8_sort
set_option maxRecDepth 20000 in
theorem ggL_law_X7_terminal : GoodIn wsL_law wsX7_terminal := goodIn_r _ [670, 19, 671, 24, 672, 673, 674, 675, 29, 676, 677, 654, 599, 600, 601, 2, 602, 603, 678, 517, 518, 28, 519, 101, 366, 359, 102, 361, 679, 680, 681, 85, 682, 90, 91, 838, 839, 840, 841, 842, 843, 844, 845, 846, 847, 848, 849, 850, 889, 890, 891, 892, 893, 894, 895, 896, 897, 898, 899, 900, 901, 902, 903, 904, 905, 906, 907, 908, 909, 910, 911, 912, 913, 914, 915, 916, 917, 923, 924, 925, 926, 927, 928] (by decide +kernel) (by decide +kernel)
set_option maxRecDepth 20000 in
theorem gL_law_X7_terminal : GoodIn wsL_law (wsV RL 53 RX7 yX7_terminal wsX7_terminal) := goodIn_app (goodIn_of _ (by decide +kernel)) ggL_law_X7_terminal
set_option maxRecDepth 20000 in
theorem ggL_law_X8_terminal : GoodIn wsL_law wsX8_terminal := goodIn_r _ [686, 190, 140, 144, 614, 615, 616, 5, 617, 167, 192, 193, 194, 394, 395, 396, 591, 592, 593, 594, 168, 141, 379, 380, 381, 687, 688, 689, 690, 552, 553, 554, 851, 852, 853, 854, 855, 856, 857, 858, 859, 860, 861, 862, 863, 864, 865, 866, 867, 868, 869, 870, 871, 872, 873, 874, 875, 876, 877, 878, 879, 880, 881, 882] (by decide +kernel) (by decide +kernel)
set_option maxRecDepth 20000 in
theorem gL_law_X8_terminal : GoodIn wsL_law (wsV RL 56 RX8 yX8_terminal wsX8_terminal) := goodIn_app (goodIn_of _ (by decide +kernel)) ggL_law_X8_terminal
set_option maxRecDepth 20000 in
theorem ggL_law_X7_block : GoodIn wsL_law wsX7_block := goodIn_r _ [694, 24, 654, 179, 180, 2, 181, 695, 696, 697, 85, 698, 90, 699, 700, 701, 702, 92, 91, 703, 704, 705, 706, 93, 94, 707, 447, 448, 449, 450, 451, 452, 453, 95, 454, 455, 456, 457, 838, 839, 840, 841, 842, 843, 844, 845, 846, 847, 848, 849, 850, 900, 901, 902, 903, 904, 905, 906, 907, 908, 909, 910, 911, 912, 913, 914, 923, 924, 925, 926, 927, 928] (by decide +kernel) (by decide +kernel)
set_option maxRecDepth 20000 in
theorem gL_law_X7_block : GoodIn wsL_law (wsV RL 57 RX7 yX7_block wsX7_block) := goodIn_app (goodIn_of _ (by decide +kernel)) ggL_law_X7_block
set_option maxRecDepth 20000 in
theorem ggL_law_X8_block : GoodIn wsL_law wsX8_block := goodIn_r _ [711, 190, 144, 192, 193, 5, 194, 712, 713, 714, 715, 552, 553, 554, 555, 556, 557, 558, 559, 560, 561, 562, 168, 851, 852, 853, 854, 855, 856, 857, 858, 859, 860, 861, 862, 863, 864, 865, 866, 867, 868, 869, 870, 871, 872, 873, 874, 875, 876, 877, 878, 879, 880, 881, 882] (by decide +kernel) (by decide +kernel)
set_option maxRecDepth 20000 in
theorem gL_law_X8_block : GoodIn wsL_law (wsV RL 60 RX8 yX8_block wsX8_block) := goodIn_app (goodIn_of _ (by decide +kernel)) ggL_law_X8_block
set_option maxRecDepth 20000 in
theorem ggL_law_X7_deaf : GoodIn wsL_law wsX7_deaf := goodIn_r _ [719, 24, 599, 600, 601, 2, 602, 19, 603, 179, 180, 181, 720, 472, 473, 23, 474, 82, 838, 839, 840, 841, 842, 843, 844, 845, 846, 847, 848, 849, 850, 889, 890, 891, 892, 893, 894, 895, 896, 897, 898, 899, 900, 901, 902, 903, 904, 905, 906, 907, 908, 909, 910, 911, 912, 913, 914] (by decide +kernel) (by decide +kernel)
set_option maxRecDepth 20000 in
theorem gL_law_X7_deaf : GoodIn wsL_law (wsV RL 61 RX7 yX7_deaf wsX7_deaf) := goodIn_app (goodIn_of _ (by decide +kernel)) ggL_law_X7_deaf
set_option maxRecDepth 20000 in
theorem ggL_law_X8_deaf : GoodIn wsL_law wsX8_deaf := goodIn_r _ [724, 190, 614, 615, 616, 5, 617, 167, 192, 193, 194, 567, 568, 569, 570, 144, 394, 395, 396, 851, 852, 853, 854, 855, 856, 857, 858, 859, 860, 861, 862, 863, 864, 865, 866, 867, 868, 869, 870, 871, 872, 873, 874, 875, 876, 877, 878, 879, 880, 881, 882] (by decide +kernel) (by decide +kernel)
set_option maxRecDepth 20000 in
theorem gL_law_X8_deaf : GoodIn wsL_law (wsV RL 64 RX8 yX8_deaf wsX8_deaf) := goodIn_app (goodIn_of _ (by decide +kernel)) ggL_law_X8_deaf
set_option maxRecDepth 20000 in
theorem ggL_law_X7_drain : GoodIn wsL_law wsX7_drain := goodIn_r _ [728, 25, 24, 30, 729, 348, 349, 23, 350, 128, 129, 130, 72, 73, 74, 75, 76, 77, 78, 79, 80, 81, 82, 86, 285, 2, 286, 287, 236, 237, 238, 288, 289, 290, 291, 351, 352, 353, 85, 354, 90, 91, 92, 93, 94, 95, 730, 731, 732, 28, 733, 102, 734, 735, 736, 737, 131, 738, 403, 404, 405, 406, 100, 407, 408, 409, 410, 411, 412, 413, 414, 415, 416, 101, 366, 417, 418, 419, 420, 421, 422, 423, 424, 425, 426, 360, 427, 428, 429, 430, 431, 432, 18, 433, 54, 434, 435, 436, 437, 438, 439, 440, 441, 442, 443, 444, 445, 446, 447, 448, 449, 450, 451, 452, 453, 454, 455, 456, 457, 458, 459, 460, 461, 462, 463, 464, 465, 466, 467, 468, 469, 470, 471, 472, 473, 474, 475, 476, 477, 478, 479, 480, 481, 482, 483, 484, 485, 486, 487, 488, 489, 490, 491, 492, 493, 494, 495, 496, 497, 498, 499, 500, 501, 502, 503, 504, 505, 506, 507, 508, 509, 510, 359, 511, 361, 512, 513, 514, 515, 516, 517, 518, 519, 520, 521, 522, 523, 524, 525, 526, 527, 528, 529, 530, 531, 838, 839, 840, 841, 842, 843, 844, 845, 846, 847, 848, 849, 850, 900, 901, 902, 903, 904, 905, 906, 907, 908, 909, 910, 911, 912, 913, 914, 923, 924, 925, 926, 927, 928, 915, 916, 917, 889, 890, 891, 892, 893, 894, 895, 896, 897, 898, 899] (by decide +kernel) (by decide +kernel)
set_option maxRecDepth 20000 in
theorem gL_law_X7_drain : GoodIn wsL_law (wsV RL 65 RX7 yX7_drain wsX7_drain) := goodIn_app (goodIn_of _ (by decide +kernel)) ggL_law_X7_drain
set_option maxRecDepth 20000 in
theorem ggL_law_X8_drain : GoodIn wsL_law wsX8_drain := goodIn_r _ [742, 190, 144, 149, 386, 387, 388, 5, 389, 743, 744, 745, 746, 747, 748, 749, 750, 168, 379, 380, 381, 537, 538, 539, 540, 141, 167, 541, 542, 543, 544, 545, 546, 547, 140, 169, 394, 395, 396, 548, 549, 550, 551, 552, 553, 554, 555, 556, 557, 558, 559, 560, 561, 562, 563, 564, 565, 566, 171, 170, 536, 567, 568, 569, 570, 571, 572, 573, 574, 575, 576, 577, 578, 579, 580, 581, 582, 583, 584, 585, 586, 587, 588, 589, 590, 390, 391, 392, 393, 591, 592, 593, 594, 851, 852, 853, 854, 855, 856, 857, 858, 859, 860, 861, 862, 863, 864, 865, 866, 867, 868, 869, 870, 871, 872, 873, 874, 875, 876, 877, 878, 879, 880, 881, 882] (by decide +kernel) (by decide +kernel)
set_option maxRecDepth 20000 in
theorem gL_law_X8_drain : GoodIn wsL_law (wsV RL 68 RX8 yX8_drain wsX8_drain) := goodIn_app (goodIn_of _ (by decide +kernel)) ggL_law_X8_drain
set_option maxRecDepth 20000 in
theorem ggL_law_X7_enough : GoodIn wsL_law wsX7_enough := goodIn_r _ [754, 25, 24, 626, 30, 179, 180, 2, 181, 729, 348, 349, 23, 350, 128, 129, 130, 72, 73, 74, 75, 76, 77, 78, 79, 80, 81, 82, 86, 285, 286, 287, 236, 237, 238, 288, 289, 290, 291, 351, 352, 353, 85, 354, 90, 91, 92, 93, 94, 95, 730, 731, 732, 28, 733, 102, 734, 735, 736, 737, 131, 738, 403, 404, 405, 406, 100, 407, 408, 409, 410, 411, 412, 413, 414, 415, 416, 101, 366, 417, 418, 419, 420, 421, 422, 423, 424, 425, 426, 360, 427, 428, 429, 430, 431, 432, 18, 433, 54, 434, 435, 436, 437, 438, 439, 440, 441, 442, 443, 444, 445, 446, 447, 448, 449, 450, 451, 452, 453, 454, 455, 456, 457, 458, 459, 460, 461, 462, 463, 464, 465, 466, 467, 468, 469, 470, 471, 472, 473, 474, 475, 476, 477, 478, 479, 480, 481, 482, 483, 484, 485, 486, 487, 488, 489, 490, 491, 492, 493, 494, 495, 496, 497, 498, 499, 500, 501, 502, 503, 504, 505, 506, 507, 508, 509, 510, 359, 511, 361, 512, 513, 514, 515, 516, 517, 518, 519, 520, 521, 522, 523, 524, 525, 526, 527, 528, 529, 530, 531, 838, 839, 840, 841, 842, 843, 844, 845, 846, 847, 848, 849, 850, 900, 901, 902, 903, 904, 905, 906, 907, 908, 909, 910, 911, 912, 913, 914, 923, 924, 925, 926, 927, 928, 915, 916, 917, 889, 890, 891, 892, 893, 894, 895, 896, 897, 898, 899] (by decide +kernel) (by decide +kernel)
set_option maxRecDepth 20000 in
theorem gL_law_X7_enough : GoodIn wsL_law (wsV RL 69 RX7 yX7_enough wsX7_enough) := goodIn_app (goodIn_of _ (by decide +kernel)) ggL_law_X7_enough
set_option maxRecDepth 20000 in
theorem ggL_law_X8_enough : GoodIn wsL_law wsX8_enough := goodIn_r _ [758, 190, 144, 149, 192, 193, 5, 194, 386, 387, 388, 389, 743, 744, 745, 746, 747, 748, 749, 750, 168, 379, 380, 381, 537, 538, 539, 540, 141, 167, 541, 542, 543, 544, 545, 546, 547, 140, 169, 394, 395, 396, 548, 549, 550, 551, 552, 553, 554, 555, 556, 557, 558, 559, 560, 561, 562, 563, 564, 565, 566, 171, 170, 536, 567, 568, 569, 570, 571, 572, 573, 574, 575, 576, 577, 578, 579, 580, 581, 582, 583, 584, 585, 586, 587, 588, 589, 590, 390, 391, 392, 393, 591, 592, 593, 594, 851, 852, 853, 854, 855, 856, 857, 858, 859, 860, 861, 862, 863, 864, 865, 866, 867, 868, 869, 870, 871, 872, 873, 874, 875, 876, 877, 878, 879, 880, 881, 882] (by decide +kernel) (by decide +kernel)
set_option maxRecDepth 20000 in
theorem gL_law_X8_enough : GoodIn wsL_law (wsV RL 72 RX8 yX8_enough wsX8_enough) := goodIn_app (goodIn_of _ (by decide +kernel)) ggL_law_X8_enough
set_option maxRecDepth 20000 in
theorem ggL_law_X7_ahead : GoodIn wsL_law wsX7_ahead := goodIn_r _ [762, 25, 24, 30, 652, 333, 334, 335, 2, 336, 19, 337, 179, 180, 181, 729, 348, 349, 23, 350, 128, 129, 130, 72, 73, 74, 75, 76, 77, 78, 79, 80, 81, 82, 86, 285, 286, 287, 236, 237, 238, 288, 289, 290, 291, 351, 352, 353, 85, 354, 90, 91, 92, 93, 94, 95, 402, 403, 404, 28, 405, 102, 406, 100, 407, 408, 409, 410, 411, 412, 413, 414, 415, 416, 101, 366, 417, 418, 419, 420, 421, 422, 423, 424, 425, 426, 360, 427, 428, 429, 430, 431, 432, 18, 433, 54, 434, 435, 436, 437, 438, 439, 440, 441, 442, 443, 444, 445, 446, 447, 448, 449, 450, 451, 452, 453, 454, 455, 456, 457, 458, 459, 460, 461, 462, 463, 464, 465, 466, 467, 468, 469, 470, 471, 472, 473, 474, 475, 476, 477, 478, 479, 480, 481, 482, 483, 484, 485, 486, 487, 488, 489, 490, 491, 492, 493, 494, 495, 496, 497, 498, 499, 500, 501, 502, 503, 504, 505, 506, 507, 508, 509, 510, 359, 511, 361, 512, 513, 514, 515, 516, 517, 518, 519, 520, 521, 522, 523, 524, 525, 526, 527, 528, 529, 530, 531, 838, 839, 840, 841, 842, 843, 844, 845, 846, 847, 848, 849, 850, 900, 901, 902, 903, 904, 905, 906, 907, 908, 909, 910, 911, 912, 913, 914, 889, 890, 891, 892, 893, 894, 895, 896, 897, 898, 899, 923, 924, 925, 926, 927, 928, 915, 916, 917] (by decide +kernel) (by decide +kernel)
set_option maxRecDepth 20000 in
theorem gL_law_X7_ahead : GoodIn wsL_law (wsV RL 73 RX7 yX7_ahead wsX7_ahead) := goodIn_app (goodIn_of _ (by decide +kernel)) ggL_law_X7_ahead
set_option maxRecDepth 20000 in
theorem ggL_law_X8_ahead : GoodIn wsL_law wsX8_ahead := goodIn_r _ [766, 190, 144, 149, 375, 376, 377, 5, 378, 168, 192, 193, 194, 386, 387, 388, 389, 537, 538, 539, 540, 141, 167, 379, 380, 381, 541, 542, 543, 544, 545, 546, 547, 140, 169, 394, 395, 396, 548, 549, 550, 551, 552, 553, 554, 555, 556, 557, 558, 559, 560, 561, 562, 563, 564, 565, 566, 171, 170, 536, 567, 568, 569, 570, 571, 572, 573, 574, 575, 576, 577, 578, 579, 580, 581, 582, 583, 584, 585, 586, 587, 588, 589, 590, 390, 391, 392, 393, 591, 592, 593, 594, 851, 852, 853, 854, 855, 856, 857, 858, 859, 860, 861, 862, 863, 864, 865, 866, 867, 868, 869, 870, 871, 872, 873, 874, 875, 876, 877, 878, 879, 880, 881, 882] (by decide +kernel) (by decide +kernel)
set_option maxRecDepth 20000 in
theorem gL_law_X8_ahead : GoodIn wsL_law (wsV RL 76 RX8 yX8_ahead wsX8_ahead) := goodIn_app (goodIn_of _ (by decide +kernel)) ggL_law_X8_ahead
set_option maxRecDepth 20000 in
theorem ggL_law_X7_sees : GoodIn wsL_law wsX7_sees := goodIn_r _ [770, 43, 41, 42, 179, 180, 2, 181, 838, 839, 840, 841, 842, 843, 844, 845, 846, 847, 848, 849, 850] (by decide +kernel) (by decide +kernel)
set_option maxRecDepth 20000 in
theorem gL_law_X7_sees : GoodIn wsL_law (wsV RL 77 RX7 yX7_sees wsX7_sees) := goodIn_app (goodIn_of _ (by decide +kernel)) ggL_law_X7_sees
set_option maxRecDepth 20000 in
theorem ggL_law_X8_sees : GoodIn wsL_law wsX8_sees := goodIn_r _ [774, 190, 173, 150, 151, 192, 193, 5, 194, 851, 852, 853, 854, 855, 856, 857, 858, 859, 860, 861, 862, 863, 864, 865, 866, 867, 868, 869, 870, 871, 872, 873, 874, 875, 876, 877, 878, 879, 880, 881, 882] (by decide +kernel) (by decide +kernel)
set_option maxRecDepth 20000 in
theorem gL_law_X8_sees : GoodIn wsL_law (wsV RL 80 RX8 yX8_sees wsX8_sees) := goodIn_app (goodIn_of _ (by decide +kernel)) ggL_law_X8_sees
set_option maxRecDepth 20000 in
theorem ggL_law_X7_forget : GoodIn wsL_law wsX7_forget := goodIn_r _ [778, 43, 838, 839, 840, 841, 842, 843, 844, 845, 846, 847, 848, 849, 850] (by decide +kernel) (by decide +kernel)
set_option maxRecDepth 20000 in
theorem gL_law_X7_forget : GoodIn wsL_law (wsV RL 81 RX7 yX7_forget wsX7_forget) := goodIn_app (goodIn_of _ (by decide +kernel)) ggL_law_X7_forget
set_option maxRecDepth 20000 in
theorem ggL_law_X8_forget : GoodIn wsL_law wsX8_forget := goodIn_r _ [782, 190, 173, 851, 852, 853, 854, 855, 856, 857, 858, 859, 860, 861, 862, 863, 864, 865, 866, 867, 868, 869, 870, 871, 872, 873, 874, 875, 876, 877, 878, 879, 880, 881, 882] (by decide +kernel) (by decide +kernel)
set_option maxRecDepth 20000 in
theorem gL_law_X8_forget : GoodIn wsL_law (wsV RL 84 RX8 yX8_forget wsX8_forget) := goodIn_app (goodIn_of _ (by decide +kernel)) ggL_law_X8_forget
set_option maxRecDepth 20000 in
theorem ggL_law_X7_unseen : GoodIn wsL_law wsX7_unseen := goodIn_r _ [786, 19, 603, 787, 788, 789, 2, 790, 43, 25, 24, 401, 41, 30, 42, 729, 348, 349, 23, 350, 128, 129, 130, 72, 73, 74, 75, 76, 77, 78, 79, 80, 81, 82, 86, 285, 286, 287, 236, 237, 238, 288, 289, 290, 291, 351, 352, 353, 85, 354, 90, 91, 92, 93, 94, 95, 604, 605, 606, 607, 608, 440, 441, 609, 472, 473, 474, 402, 403, 404, 28, 405, 102, 406, 100, 407, 408, 409, 410, 411, 412, 413, 414, 415, 416, 101, 366, 417, 418, 419, 420, 421, 422, 423, 424, 425, 426, 360, 427, 428, 429, 430, 431, 432, 18, 433, 54, 434, 435, 436, 437, 438, 439, 442, 443, 444, 445, 446, 447, 448, 449, 450, 451, 452, 453, 454, 455, 456, 457, 458, 459, 460, 461, 462, 463, 464, 465, 466, 467, 468, 469, 470, 471, 475, 476, 477, 478, 479, 480, 481, 482, 483, 484, 485, 486, 487, 488, 489, 490, 491, 492, 493, 494, 495, 496, 497, 498, 499, 500, 501, 502, 503, 504, 505, 506, 507, 508, 509, 510, 359, 511, 361, 512, 513, 514, 515, 516, 517, 518, 519, 520, 521, 522, 523, 524, 525, 526, 527, 528, 529, 530, 531, 838, 839, 840, 841, 842, 843, 844, 845, 846, 847, 848, 849, 850, 889, 890, 891, 892, 893, 894, 895, 896, 897, 898, 899, 900, 901, 902, 903, 904, 905, 906, 907, 908, 909, 910, 911, 912, 913, 914, 923, 924, 925, 926, 927, 928, 915, 916, 917] (by decide +kernel) (by decide +kernel)
set_option maxRecDepth 20000 in
theorem gL_law_X7_unseen : GoodIn wsL_law (wsV RL 85 RX7 yX7_unseen wsX7_unseen) := goodIn_app (goodIn_of _ (by decide +kernel)) ggL_law_X7_unseen
set_option maxRecDepth 20000 in
theorem ggL_law_X8_unseen : GoodIn wsL_law wsX8_unseen := goodIn_r _ [794, 190, 167, 173, 795, 796, 797, 5, 798, 144, 149, 150, 536, 151, 386, 387, 388, 389, 618, 619, 620, 621, 567, 568, 569, 570, 394, 395, 396, 537, 538, 539, 540, 168, 141, 379, 380, 381, 541, 542, 543, 544, 545, 546, 547, 140, 169, 548, 549, 550, 551, 552, 553, 554, 555, 556, 557, 558, 559, 560, 561, 562, 563, 564, 565, 566, 171, 170, 571, 572, 573, 574, 575, 576, 577, 578, 579, 580, 581, 582, 583, 584, 585, 586, 587, 588, 589, 590, 390, 391, 392, 393, 591, 592, 593, 594, 851, 852, 853, 854, 855, 856, 857, 858, 859, 860, 861, 862, 863, 864, 865, 866, 867, 868, 869, 870, 871, 872, 873, 874, 875, 876, 877, 878, 879, 880, 881, 882] (by decide +kernel) (by decide +kernel)
set_option maxRecDepth 20000 in
theorem gL_law_X8_unseen : GoodIn wsL_law (wsV RL 88 RX8 yX8_unseen wsX8_unseen) := goodIn_app (goodIn_of _ (by decide +kernel)) ggL_law_X8_unseen
set_option maxRecDepth 20000 in
theorem ggL_law_X7_keep : GoodIn wsL_law wsX7_keep := goodIn_r _ [802, 24, 401, 179, 180, 2, 181, 803, 804, 805, 806, 38, 39, 807, 808, 809, 37, 810, 116, 114, 811, 348, 349, 23, 350, 128, 129, 130, 72, 73, 74, 75, 76, 77, 78, 79, 80, 81, 82, 86, 285, 286, 287, 236, 237, 238, 288, 289, 290, 291, 351, 352, 353, 85, 354, 90, 91, 92, 93, 94, 95, 838, 839, 840, 841, 842, 843, 844, 845, 846, 847, 848, 849, 850, 900, 901, 902, 903, 904, 905, 906, 907, 908, 909, 910, 911, 912, 913, 914, 921, 922, 923, 924, 925, 926, 927, 928] (by decide +kernel) (by decide +kernel)
set_option maxRecDepth 20000 in
theorem gL_law_X7_keep : GoodIn wsL_law (wsV RL 89 RX7 yX7_keep wsX7_keep) := goodIn_app (goodIn_of _ (by decide +kernel)) ggL_law_X7_keep
set_option maxRecDepth 20000 in
theorem ggL_law_X8_keep : GoodIn wsL_law wsX8_keep := goodIn_r _ [815, 190, 144, 146, 148, 192, 193, 5, 194, 386, 387, 388, 389, 851, 852, 853, 854, 855, 856, 857, 858, 859, 860, 861, 862, 863, 864, 865, 866, 867, 868, 869, 870, 871, 872, 873, 874, 875, 876, 877, 878, 879, 880, 881, 882] (by decide +kernel) (by decide +kernel)
set_option maxRecDepth 20000 in
theorem gL_law_X8_keep : GoodIn wsL_law (wsV RL 92 RX8 yX8_keep wsX8_keep) := goodIn_app (goodIn_of _ (by decide +kernel)) ggL_law_X8_keep
set_option maxRecDepth 20000 in
theorem ggL_law_X7_back : GoodIn wsL_law wsX7_back := goodIn_r _ [819, 123, 24, 820, 34, 122, 401, 179, 180, 2, 181, 803, 804, 805, 806, 38, 39, 729, 348, 349, 23, 350, 128, 129, 130, 72, 73, 74, 75, 76, 77, 78, 79, 80, 81, 82, 86, 285, 286, 287, 236, 237, 238, 288, 289, 290, 291, 351, 352, 353, 85, 354, 90, 91, 92, 93, 94, 95, 921, 922, 838, 839, 840, 841, 842, 843, 844, 845, 846, 847, 848, 849, 850, 918, 919, 920, 900, 901, 902, 903, 904, 905, 906, 907, 908, 909, 910, 911, 912, 913, 914, 923, 924, 925, 926, 927, 928] (by decide +kernel) (by decide +kernel)
set_option maxRecDepth 20000 in
theorem gL_law_X7_back : GoodIn wsL_law (wsV RL 93 RX7 yX7_back wsX7_back) := goodIn_app (goodIn_of _ (by decide +kernel)) ggL_law_X7_back
set_option maxRecDepth 20000 in
theorem ggL_law_X8_back : GoodIn wsL_law wsX8_back := goodIn_r _ [824, 190, 148, 146, 144, 172, 192, 193, 5, 194, 386, 387, 388, 389, 851, 852, 853, 854, 855, 856, 857, 858, 859, 860, 861, 862, 863, 864, 865, 866, 867, 868, 869, 870, 871, 872, 873, 874, 875, 876, 877, 878, 879, 880, 881, 882] (by decide +kernel) (by decide +kernel)
set_option maxRecDepth 20000 in
theorem gL_law_X8_back : GoodIn wsL_law (wsV RL 96 RX8 yX8_back wsX8_back) := goodIn_app (goodIn_of _ (by decide +kernel)) ggL_law_X8_back
set_option maxRecDepth 20000 in
theorem ggL_law_X7_count : GoodIn wsL_law wsX7_count := goodIn_r _ [828, 19, 603, 337, 24, 626, 829, 830, 831, 401, 654, 832, 833, 43, 15, 178, 34, 122, 838, 839, 840, 841, 842, 843, 844, 845, 846, 847, 848, 849, 850, 889, 890, 891, 892, 893, 894, 895, 896, 897, 898, 899, 900, 901, 902, 903, 904, 905, 906, 907, 908, 909, 910, 911, 912, 913, 914, 923, 924, 925, 926, 927, 928, 883, 884, 885, 886, 887, 888, 918, 919, 920] (by decide +kernel) (by decide +kernel)
set_option maxRecDepth 20000 in
theorem gL_law_X7_count : GoodIn wsL_law (wsV RL 97 RX7 yX7_count wsX7_count) := goodIn_app (goodIn_of _ (by decide +kernel)) ggL_law_X7_count
set_option maxRecDepth 20000 in
theorem ggL_law_X8_count : GoodIn wsL_law wsX8_count := goodIn_r _ [837, 190, 167, 168, 144, 169, 170, 171, 173, 191, 172, 851, 852, 853, 854, 855, 856, 857, 858, 859, 860, 861, 862, 863, 864, 865, 866, 867, 868, 869, 870, 871, 872, 873, 874, 875, 876, 877, 878, 879, 880, 881, 882] (by decide +kernel) (by decide +kernel)
set_option maxRecDepth 20000 in
theorem gL_law_X8_count : GoodIn wsL_law (wsV RL 100 RX8 yX8_count wsX8_count) := goodIn_app (goodIn_of _ (by decide +kernel)) ggL_law_X8_count
