set_option maxRecDepth 20000 in
theorem ggL_law_X10_harmless : GoodIn wsL_law wsX10_harmless := goodIn_r _ [335, 17, 336, 110, 111, 2, 112, 337, 338, 339, 16, 340, 39, 868, 869, 870, 871, 872, 873, 908, 909, 910, 911, 912, 913] (by decide +kernel) (by decide +kernel)
set_option maxRecDepth 20000 in
theorem gL_law_X10_harmless : GoodIn wsL_law (wsV RL 27 RX10 yX10_harmless wsX10_harmless) := goodIn_app (goodIn_of _ (by decide +kernel)) ggL_law_X10_harmless
set_option maxRecDepth 20000 in
theorem ggL_law_X11_harmless : GoodIn wsL_law wsX11_harmless := goodIn_r _ [344, 232, 235, 240, 241, 5, 242, 874, 875, 876, 877, 878, 879, 880, 881, 882, 883, 884, 885, 886, 887, 888, 889, 890, 891, 892, 893, 894, 895, 896, 897, 898, 899, 900, 901, 902, 903, 904, 905, 906, 907] (by decide +kernel) (by decide +kernel)
set_option maxRecDepth 20000 in
theorem gL_law_X11_harmless : GoodIn wsL_law (wsV RL 31 RX11 yX11_harmless wsX11_harmless) := goodIn_app (goodIn_of _ (by decide +kernel)) ggL_law_X11_harmless
set_option maxRecDepth 20000 in
theorem ggL_law_X10_rate : GoodIn wsL_law wsX10_rate := goodIn_r _ [348, 17, 278, 280, 281, 282, 16, 283, 37, 110, 111, 2, 112, 868, 869, 870, 871, 872, 873, 943, 944, 945, 940, 941, 942, 937, 938, 939, 908, 909, 910, 911, 912, 913] (by decide +kernel) (by decide +kernel)
set_option maxRecDepth 20000 in
theorem gL_law_X10_rate : GoodIn wsL_law (wsV RL 32 RX10 yX10_rate wsX10_rate) := goodIn_app (goodIn_of _ (by decide +kernel)) ggL_law_X10_rate
set_option maxRecDepth 20000 in
theorem ggL_law_X11_rate : GoodIn wsL_law wsX11_rate := goodIn_r _ [352, 80, 301, 302, 303, 5, 304, 232, 240, 241, 242, 874, 875, 876, 877, 878, 879, 880, 881, 882, 883, 884, 885, 886, 887, 888, 889, 890, 891, 892, 893, 894, 895, 896, 897, 898, 899, 900, 901, 902, 903, 904, 905, 906, 907] (by decide +kernel) (by decide +kernel)
set_option maxRecDepth 20000 in
theorem gL_law_X11_rate : GoodIn wsL_law (wsV RL 35 RX11 yX11_rate wsX11_rate) := goodIn_app (goodIn_of _ (by decide +kernel)) ggL_law_X11_rate
set_option maxRecDepth 20000 in
theorem ggL_law_X10_fresh : GoodIn wsL_law wsX10_fresh := goodIn_r _ [356, 17, 312, 313, 314, 16, 315, 39, 357, 358, 2, 359, 110, 111, 112, 360, 361, 362, 178, 363, 224, 364, 365, 366, 367, 368, 369, 370, 371, 868, 869, 870, 871, 872, 873, 908, 909, 910, 911, 912, 913, 934, 935, 936] (by decide +kernel) (by decide +kernel)
set_option maxRecDepth 20000 in
theorem gL_law_X10_fresh : GoodIn wsL_law (wsV RL 36 RX10 yX10_fresh wsX10_fresh) := goodIn_app (goodIn_of _ (by decide +kernel)) ggL_law_X10_fresh
set_option maxRecDepth 20000 in
theorem ggL_law_X11_fresh : GoodIn wsL_law wsX11_fresh := goodIn_r _ [375, 324, 325, 326, 5, 327, 234, 376, 377, 378, 240, 241, 242, 379, 380, 381, 382, 84, 874, 875, 876, 877, 878, 879, 880, 881, 882, 883, 884, 885, 886, 887, 888, 889, 890, 891, 892, 893, 894, 895, 896, 897, 898, 899, 900, 901, 902, 903, 904, 905, 906, 907] (by decide +kernel) (by decide +kernel)
set_option maxRecDepth 20000 in
theorem gL_law_X11_fresh : GoodIn wsL_law (wsV RL 39 RX11 yX11_fresh wsX11_fresh) := goodIn_app (goodIn_of _ (by decide +kernel)) ggL_law_X11_fresh
set_option maxRecDepth 20000 in
theorem ggL_law_X10_duty : GoodIn wsL_law wsX10_duty := goodIn_r _ [386, 17, 280, 281, 282, 16, 283, 37, 312, 313, 314, 315, 39, 357, 358, 2, 359, 110, 111, 112, 360, 361, 362, 178, 363, 224, 387, 388, 389, 390, 40, 391, 392, 393, 394, 395, 396, 397, 317, 318, 319, 222, 398, 365, 366, 367, 368, 369, 370, 371, 399, 400, 401, 197, 402, 403, 404, 405, 406, 206, 407, 408, 409, 410, 411, 412, 413, 414, 415, 195, 416, 417, 418, 419, 420, 421, 192, 422, 423, 424, 868, 869, 870, 871, 872, 873, 908, 909, 910, 911, 912, 913, 934, 935, 936, 943, 944, 945, 940, 941, 942, 937, 938, 939] (by decide +kernel) (by decide +kernel)
set_option maxRecDepth 20000 in
theorem gL_law_X10_duty : GoodIn wsL_law (wsV RL 40 RX10 yX10_duty wsX10_duty) := goodIn_app (goodIn_of _ (by decide +kernel)) ggL_law_X10_duty
set_option maxRecDepth 20000 in
theorem ggL_law_X11_duty : GoodIn wsL_law wsX11_duty := goodIn_r _ [428, 84, 301, 302, 303, 5, 304, 232, 324, 325, 326, 327, 234, 376, 377, 378, 240, 241, 242, 429, 430, 431, 432, 235, 81, 83, 79, 80, 433, 434, 435, 436, 328, 329, 330, 331, 82, 379, 380, 381, 382, 874, 875, 876, 877, 878, 879, 880, 881, 882, 883, 884, 885, 886, 887, 888, 889, 890, 891, 892, 893, 894, 895, 896, 897, 898, 899, 900, 901, 902, 903, 904, 905, 906, 907] (by decide +kernel) (by decide +kernel)
set_option maxRecDepth 20000 in
theorem gL_law_X11_duty : GoodIn wsL_law (wsV RL 43 RX11 yX11_duty wsX11_duty) := goodIn_app (goodIn_of _ (by decide +kernel)) ggL_law_X11_duty
