set_option maxRecDepth 20000 in
theorem ggL_law_X5_cell : GoodIn wsL_law wsX5_cell := goodIn_r _ [482, 19, 470, 469, 192, 193, 194, 18, 195, 52, 346, 347, 348, 2, 349, 23, 350, 36, 351, 841, 842, 843, 844, 845, 846, 847, 848, 849, 850, 911, 912, 913, 914, 915, 916, 917, 918, 919, 920, 921, 922, 923, 924, 925, 926, 927, 944, 945, 946, 947, 948, 949, 950, 951, 952, 953] (by decide +kernel) (by decide +kernel)
set_option maxRecDepth 20000 in
theorem gL_law_X5_cell : GoodIn wsL_law (wsV RL 46 RX5 yX5_cell wsX5_cell) := goodIn_app (goodIn_of _ (by decide +kernel)) ggL_law_X5_cell
set_option maxRecDepth 20000 in
theorem ggL_law_X6_cell : GoodIn wsL_law wsX6_cell := goodIn_r _ [486, 137, 138, 144, 364, 365, 366, 5, 367, 368, 851, 852, 853, 854, 855, 856, 857, 858, 859, 860, 861, 862, 863, 864, 865, 866, 867, 868, 869, 870, 871, 872, 873, 874, 875, 876, 877, 878, 879, 880, 881, 882, 883, 884, 885, 886, 887, 888, 889, 890, 891, 892, 893, 894, 895, 896, 897, 898, 899, 900, 901, 902, 903, 904, 905, 906, 907, 908, 909, 910] (by decide +kernel) (by decide +kernel)
set_option maxRecDepth 20000 in
theorem gL_law_X6_cell : GoodIn wsL_law (wsV RL 50 RX6 yX6_cell wsX6_cell) := goodIn_app (goodIn_of _ (by decide +kernel)) ggL_law_X6_cell
set_option maxRecDepth 20000 in
theorem ggL_law_X5_travel : GoodIn wsL_law wsX5_travel := goodIn_r _ [490, 19, 491, 492, 192, 193, 194, 18, 195, 52, 346, 347, 348, 2, 349, 23, 350, 36, 351, 841, 842, 843, 844, 845, 846, 847, 848, 849, 850, 911, 912, 913, 914, 915, 916, 917, 918, 919, 920, 921, 922, 923, 924, 925, 926, 927, 944, 945, 946, 947, 948, 949, 950, 951, 952, 953] (by decide +kernel) (by decide +kernel)
set_option maxRecDepth 20000 in
theorem gL_law_X5_travel : GoodIn wsL_law (wsV RL 51 RX5 yX5_travel wsX5_travel) := goodIn_app (goodIn_of _ (by decide +kernel)) ggL_law_X5_travel
set_option maxRecDepth 20000 in
theorem ggL_law_X6_travel : GoodIn wsL_law wsX6_travel := goodIn_r _ [496, 139, 144, 364, 365, 366, 5, 367, 368, 851, 852, 853, 854, 855, 856, 857, 858, 859, 860, 861, 862, 863, 864, 865, 866, 867, 868, 869, 870, 871, 872, 873, 874, 875, 876, 877, 878, 879, 880, 881, 882, 883, 884, 885, 886, 887, 888, 889, 890, 891, 892, 893, 894, 895, 896, 897, 898, 899, 900, 901, 902, 903, 904, 905, 906, 907, 908, 909, 910] (by decide +kernel) (by decide +kernel)
set_option maxRecDepth 20000 in
theorem gL_law_X6_travel : GoodIn wsL_law (wsV RL 54 RX6 yX6_travel wsX6_travel) := goodIn_app (goodIn_of _ (by decide +kernel)) ggL_law_X6_travel
