set_option maxRecDepth 20000 in
theorem ggL_law_X5_land : GoodIn wsL_law wsX5_land := goodIn_r _ [451, 19, 452, 453, 454, 455, 456, 2, 457, 346, 347, 348, 349, 23, 350, 36, 351, 841, 842, 843, 844, 845, 846, 847, 848, 849, 850, 911, 912, 913, 914, 915, 916, 917, 918, 919, 920, 921, 922, 923, 924, 925, 926, 927, 944, 945, 946, 947, 948, 949, 950, 951, 952, 953] (by decide +kernel) (by decide +kernel)
set_option maxRecDepth 20000 in
theorem gL_law_X5_land : GoodIn wsL_law (wsV RL 36 RX5 yX5_land wsX5_land) := goodIn_app (goodIn_of _ (by decide +kernel)) ggL_law_X5_land
set_option maxRecDepth 20000 in
theorem ggL_law_X6_land : GoodIn wsL_law wsX6_land := goodIn_r _ [461, 368, 135, 136, 144, 462, 463, 5, 464, 851, 852, 853, 854, 855, 856, 857, 858, 859, 860, 861, 862, 863, 864, 865, 866, 867, 868, 869, 870, 871, 872, 873, 874, 875, 876, 877, 878, 879, 880, 881, 882, 883, 884, 885, 886, 887, 888, 889, 890, 891, 892, 893, 894, 895, 896, 897, 898, 899, 900, 901, 902, 903, 904, 905, 906, 907, 908, 909, 910] (by decide +kernel) (by decide +kernel)
set_option maxRecDepth 20000 in
theorem gL_law_X6_land : GoodIn wsL_law (wsV RL 40 RX6 yX6_land wsX6_land) := goodIn_app (goodIn_of _ (by decide +kernel)) ggL_law_X6_land
set_option maxRecDepth 20000 in
theorem ggL_law_X5_table : GoodIn wsL_law wsX5_table := goodIn_r _ [468, 19, 469, 470, 192, 193, 194, 18, 195, 52, 471, 472, 473, 474, 346, 347, 348, 2, 349, 23, 350, 36, 351, 841, 842, 843, 844, 845, 846, 847, 848, 849, 850, 911, 912, 913, 914, 915, 916, 917, 918, 919, 920, 921, 922, 923, 924, 925, 926, 927, 944, 945, 946, 947, 948, 949, 950, 951, 952, 953] (by decide +kernel) (by decide +kernel)
set_option maxRecDepth 20000 in
theorem gL_law_X5_table : GoodIn wsL_law (wsV RL 41 RX5 yX5_table wsX5_table) := goodIn_app (goodIn_of _ (by decide +kernel)) ggL_law_X5_table
set_option maxRecDepth 20000 in
theorem ggL_law_X6_table : GoodIn wsL_law wsX6_table := goodIn_r _ [478, 137, 138, 144, 364, 365, 366, 5, 367, 368, 851, 852, 853, 854, 855, 856, 857, 858, 859, 860, 861, 862, 863, 864, 865, 866, 867, 868, 869, 870, 871, 872, 873, 874, 875, 876, 877, 878, 879, 880, 881, 882, 883, 884, 885, 886, 887, 888, 889, 890, 891, 892, 893, 894, 895, 896, 897, 898, 899, 900, 901, 902, 903, 904, 905, 906, 907, 908, 909, 910] (by decide +kernel) (by decide +kernel)
set_option maxRecDepth 20000 in
theorem gL_law_X6_table : GoodIn wsL_law (wsV RL 45 RX6 yX6_table wsX6_table) := goodIn_app (goodIn_of _ (by decide +kernel)) ggL_law_X6_table
