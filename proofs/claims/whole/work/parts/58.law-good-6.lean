set_option maxRecDepth 20000 in
theorem ggL_law_X10_tell : GoodIn wsL_law wsX10_tell := goodIn_r _ [769, 17, 29, 280, 281, 282, 16, 283, 37, 770, 771, 772, 197, 773, 774, 775, 776, 777, 206, 778, 779, 780, 28, 781, 65, 782, 783, 784, 785, 786, 787, 788, 789, 790, 195, 791, 792, 793, 794, 795, 796, 192, 797, 798, 799, 800, 801, 802, 803, 804, 868, 869, 870, 871, 872, 873, 908, 909, 910, 911, 912, 913, 943, 944, 945, 940, 941, 942, 937, 938, 939, 925] (by decide +kernel) (by decide +kernel)
set_option maxRecDepth 20000 in
theorem gL_law_X10_tell : GoodIn wsL_law (wsV RL 112 RX10 yX10_tell wsX10_tell) := goodIn_app (goodIn_of _ (by decide +kernel)) ggL_law_X10_tell
set_option maxRecDepth 20000 in
theorem ggL_law_X11_tell : GoodIn wsL_law wsX11_tell := goodIn_r _ [808, 80, 79, 301, 302, 303, 5, 304, 232, 809, 810, 811, 812, 813, 874, 875, 876, 877, 878, 879, 880, 881, 882, 883, 884, 885, 886, 887, 888, 889, 890, 891, 892, 893, 894, 895, 896, 897, 898, 899, 900, 901, 902, 903, 904, 905, 906, 907] (by decide +kernel) (by decide +kernel)
set_option maxRecDepth 20000 in
theorem gL_law_X11_tell : GoodIn wsL_law (wsV RL 115 RX11 yX11_tell wsX11_tell) := goodIn_app (goodIn_of _ (by decide +kernel)) ggL_law_X11_tell
set_option maxRecDepth 20000 in
theorem ggL_law_X10_knock : GoodIn wsL_law wsX10_knock := goodIn_r _ [817, 17, 29, 280, 281, 282, 16, 283, 37, 818, 819, 820, 197, 821, 205, 778, 779, 780, 28, 781, 65, 822, 823, 824, 825, 826, 195, 827, 792, 828, 868, 869, 870, 871, 872, 873, 908, 909, 910, 911, 912, 913, 943, 944, 945, 940, 941, 942, 937, 938, 939, 925] (by decide +kernel) (by decide +kernel)
set_option maxRecDepth 20000 in
theorem gL_law_X10_knock : GoodIn wsL_law (wsV RL 116 RX10 yX10_knock wsX10_knock) := goodIn_app (goodIn_of _ (by decide +kernel)) ggL_law_X10_knock
set_option maxRecDepth 20000 in
theorem ggL_law_X11_knock : GoodIn wsL_law wsX11_knock := goodIn_r _ [832, 79, 301, 302, 303, 5, 304, 232, 809, 810, 811, 812, 813, 874, 875, 876, 877, 878, 879, 880, 881, 882, 883, 884, 885, 886, 887, 888, 889, 890, 891, 892, 893, 894, 895, 896, 897, 898, 899, 900, 901, 902, 903, 904, 905, 906, 907] (by decide +kernel) (by decide +kernel)
set_option maxRecDepth 20000 in
theorem gL_law_X11_knock : GoodIn wsL_law (wsV RL 119 RX11 yX11_knock wsX11_knock) := goodIn_app (goodIn_of _ (by decide +kernel)) ggL_law_X11_knock
set_option maxRecDepth 20000 in
theorem ggL_law_X10_as : GoodIn wsL_law wsX10_as := goodIn_r _ [836, 30, 17, 837, 838, 280, 281, 282, 16, 283, 37, 110, 111, 2, 112, 125, 126, 127, 128, 868, 869, 870, 871, 872, 873, 908, 909, 910, 911, 912, 913] (by decide +kernel) (by decide +kernel)
set_option maxRecDepth 20000 in
theorem gL_law_X10_as : GoodIn wsL_law (wsV RL 120 RX10 yX10_as wsX10_as) := goodIn_app (goodIn_of _ (by decide +kernel)) ggL_law_X10_as
set_option maxRecDepth 20000 in
theorem ggL_law_X11_as : GoodIn wsL_law wsX11_as := goodIn_r _ [842, 229, 79, 301, 302, 303, 5, 304, 232, 240, 241, 242, 250, 251, 252, 253, 874, 875, 876, 877, 878, 879, 880, 881, 882, 883, 884, 885, 886, 887, 888, 889, 890, 891, 892, 893, 894, 895, 896, 897, 898, 899, 900, 901, 902, 903, 904, 905, 906, 907] (by decide +kernel) (by decide +kernel)
set_option maxRecDepth 20000 in
theorem gL_law_X11_as : GoodIn wsL_law (wsV RL 123 RX11 yX11_as wsX11_as) := goodIn_app (goodIn_of _ (by decide +kernel)) ggL_law_X11_as
set_option maxRecDepth 20000 in
theorem ggL_law_X10_trace : GoodIn wsL_law wsX10_trace := goodIn_r _ [846, 29, 847, 868, 869, 870, 871, 872, 873, 925] (by decide +kernel) (by decide +kernel)
set_option maxRecDepth 20000 in
theorem gL_law_X10_trace : GoodIn wsL_law (wsV RL 124 RX10 yX10_trace wsX10_trace) := goodIn_app (goodIn_of _ (by decide +kernel)) ggL_law_X10_trace
set_option maxRecDepth 20000 in
theorem ggL_law_X11_trace : GoodIn wsL_law wsX11_trace := goodIn_r _ [851, 813, 874, 875, 876, 877, 878, 879, 880, 881, 882, 883, 884, 885, 886, 887, 888, 889, 890, 891, 892, 893, 894, 895, 896, 897, 898, 899, 900, 901, 902, 903, 904, 905, 906, 907] (by decide +kernel) (by decide +kernel)
set_option maxRecDepth 20000 in
theorem gL_law_X11_trace : GoodIn wsL_law (wsV RL 128 RX11 yX11_trace wsX11_trace) := goodIn_app (goodIn_of _ (by decide +kernel)) ggL_law_X11_trace
