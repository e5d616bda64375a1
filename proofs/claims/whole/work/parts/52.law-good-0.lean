set_option maxRecDepth 20000 in
theorem ggL_law_X10_init : GoodIn wsL_law wsX10_init := goodIn_r _ [8, 9, 10, 11, 12, 13, 14, 15, 16, 17, 18, 19, 20, 21, 22, 23, 24, 25, 26, 27, 28, 29, 30, 31, 32, 33, 34, 35, 36, 37, 38, 39, 40, 41, 42, 43, 44, 45, 46, 47, 48, 49, 50, 51, 52, 53, 54, 55, 56, 57, 58, 59, 60, 61, 62, 63, 64, 65, 66, 67, 68, 69, 70, 71, 868, 869, 870, 871, 872, 873, 908, 909, 910, 911, 912, 913, 914, 915, 916, 917, 918, 919, 920, 921, 922, 923, 924, 925, 926, 927, 928] (by decide +kernel) (by decide +kernel)
set_option maxRecDepth 20000 in
theorem gL_law_X10_init : GoodIn wsL_law (wsX10_init) := ggL_law_X10_init
set_option maxRecDepth 20000 in
theorem ggL_law_X11_init : GoodIn wsL_law wsX11_init := goodIn_r _ [74, 75, 10, 11, 41, 76, 77, 78, 79, 80, 81, 82, 83, 84, 85, 86, 87, 88, 89, 90, 91, 92, 93, 94, 95, 96, 874, 875, 876, 877, 878, 879, 880, 881, 882, 883, 884, 885, 886, 887, 888, 889, 890, 891, 892, 893, 894, 895, 896, 897, 898, 899, 900, 901, 902, 903, 904, 905, 906, 907] (by decide +kernel) (by decide +kernel)
set_option maxRecDepth 20000 in
theorem gL_law_X11_init : GoodIn wsL_law (wsX11_init) := ggL_law_X11_init
set_option maxRecDepth 20000 in
theorem ggL_law_X10_town : GoodIn wsL_law wsX10_town := goodIn_r _ [100, 30, 101, 102, 103, 17, 25, 104, 105, 106, 107, 108, 2, 109, 13, 110, 111, 112, 113, 114, 115, 32, 116, 70, 117, 118, 119, 120, 121, 122, 123, 124, 71, 125, 126, 127, 128, 129, 130, 131, 132, 10, 11, 133, 134, 135, 136, 137, 138, 139, 140, 141, 142, 143, 144, 145, 146, 147, 148, 149, 150, 151, 152, 153, 69, 154, 155, 156, 157, 158, 159, 160, 161, 162, 163, 164, 165, 166, 167, 168, 169, 170, 171, 172, 173, 16, 174, 175, 36, 37, 176, 38, 39, 177, 178, 40, 179, 180, 181, 182, 183, 184, 185, 186, 187, 188, 189, 190, 191, 192, 193, 194, 195, 196, 197, 198, 199, 200, 201, 202, 203, 204, 205, 206, 207, 208, 209, 210, 211, 212, 213, 214, 215, 216, 217, 218, 219, 220, 221, 222, 223, 224, 868, 869, 870, 871, 872, 873, 929, 930, 931, 932, 933, 922, 923, 924, 908, 909, 910, 911, 912, 913, 926, 927, 928, 934, 935, 936, 937, 938, 939, 940, 941, 942, 943, 944, 945] (by decide +kernel) (by decide +kernel)
set_option maxRecDepth 20000 in
theorem gL_law_X10_town : GoodIn wsL_law (wsV RL 13 RX10 yX10_town wsX10_town) := goodIn_app (goodIn_of _ (by decide +kernel)) ggL_law_X10_town
set_option maxRecDepth 20000 in
theorem ggL_law_X11_town : GoodIn wsL_law wsX11_town := goodIn_r _ [228, 229, 230, 231, 232, 233, 234, 235, 79, 86, 80, 81, 82, 87, 83, 84, 236, 237, 238, 5, 239, 240, 241, 242, 243, 244, 245, 246, 247, 248, 249, 76, 77, 250, 251, 252, 253, 254, 255, 256, 257, 258, 259, 260, 261, 78, 262, 263, 264, 265, 266, 267, 268, 269, 270, 271, 272, 273, 874, 875, 876, 877, 878, 879, 880, 881, 882, 883, 884, 885, 886, 887, 888, 889, 890, 891, 892, 893, 894, 895, 896, 897, 898, 899, 900, 901, 902, 903, 904, 905, 906, 907] (by decide +kernel) (by decide +kernel)
set_option maxRecDepth 20000 in
theorem gL_law_X11_town : GoodIn wsL_law (wsV RL 17 RX11 yX11_town wsX11_town) := goodIn_app (goodIn_of _ (by decide +kernel)) ggL_law_X11_town
set_option maxRecDepth 20000 in
theorem ggL_law_X10_ofGate : GoodIn wsL_law wsX10_ofGate := goodIn_r _ [277, 17, 278, 279, 280, 281, 282, 16, 283, 37, 284, 285, 286, 197, 287, 288, 289, 290, 291, 292, 195, 293, 294, 295, 192, 296, 868, 869, 870, 871, 872, 873, 943, 944, 945, 940, 941, 942, 937, 938, 939, 908, 909, 910, 911, 912, 913] (by decide +kernel) (by decide +kernel)
set_option maxRecDepth 20000 in
theorem gL_law_X10_ofGate : GoodIn wsL_law (wsV RL 18 RX10 yX10_ofGate wsX10_ofGate) := goodIn_app (goodIn_of _ (by decide +kernel)) ggL_law_X10_ofGate
set_option maxRecDepth 20000 in
theorem ggL_law_X11_ofGate : GoodIn wsL_law wsX11_ofGate := goodIn_r _ [300, 79, 80, 81, 301, 302, 303, 5, 304, 232, 874, 875, 876, 877, 878, 879, 880, 881, 882, 883, 884, 885, 886, 887, 888, 889, 890, 891, 892, 893, 894, 895, 896, 897, 898, 899, 900, 901, 902, 903, 904, 905, 906, 907] (by decide +kernel) (by decide +kernel)
set_option maxRecDepth 20000 in
theorem gL_law_X11_ofGate : GoodIn wsL_law (wsV RL 22 RX11 yX11_ofGate wsX11_ofGate) := goodIn_app (goodIn_of _ (by decide +kernel)) ggL_law_X11_ofGate
set_option maxRecDepth 20000 in
theorem ggL_law_X10_ofStory : GoodIn wsL_law wsX10_ofStory := goodIn_r _ [308, 17, 309, 310, 311, 312, 313, 314, 16, 315, 39, 316, 317, 318, 178, 319, 222, 868, 869, 870, 871, 872, 873, 934, 935, 936, 908, 909, 910, 911, 912, 913] (by decide +kernel) (by decide +kernel)
set_option maxRecDepth 20000 in
theorem gL_law_X10_ofStory : GoodIn wsL_law (wsV RL 23 RX10 yX10_ofStory wsX10_ofStory) := goodIn_app (goodIn_of _ (by decide +kernel)) ggL_law_X10_ofStory
set_option maxRecDepth 20000 in
theorem ggL_law_X11_ofStory : GoodIn wsL_law wsX11_ofStory := goodIn_r _ [323, 82, 83, 84, 324, 325, 326, 5, 327, 234, 328, 329, 330, 331, 874, 875, 876, 877, 878, 879, 880, 881, 882, 883, 884, 885, 886, 887, 888, 889, 890, 891, 892, 893, 894, 895, 896, 897, 898, 899, 900, 901, 902, 903, 904, 905, 906, 907] (by decide +kernel) (by decide +kernel)
set_option maxRecDepth 20000 in
theorem gL_law_X11_ofStory : GoodIn wsL_law (wsV RL 26 RX11 yX11_ofStory wsX11_ofStory) := goodIn_app (goodIn_of _ (by decide +kernel)) ggL_law_X11_ofStory
