set_option maxRecDepth 20000 in
theorem ggL_law_X5_cloud : GoodIn wsL_law wsX5_cloud := goodIn_r _ [537, 23, 512, 19, 192, 193, 194, 18, 195, 52, 455, 456, 2, 457, 538, 539, 540, 22, 541, 65, 62, 58, 60, 841, 842, 843, 844, 845, 846, 847, 848, 849, 850, 919, 920, 921, 922, 923, 924, 925, 926, 927, 911, 912, 913, 914, 915, 916, 917, 918] (by decide +kernel) (by decide +kernel)
set_option maxRecDepth 20000 in
theorem gL_law_X5_cloud : GoodIn wsL_law (wsV RL 63 RX5 yX5_cloud wsX5_cloud) := goodIn_app (goodIn_of _ (by decide +kernel)) ggL_law_X5_cloud
set_option maxRecDepth 20000 in
theorem ggL_law_X6_cloud : GoodIn wsL_law wsX6_cloud := goodIn_r _ [545, 525, 364, 365, 366, 5, 367, 368, 462, 463, 464, 530, 531, 532, 533, 141, 142, 143, 851, 852, 853, 854, 855, 856, 857, 858, 859, 860, 861, 862, 863, 864, 865, 866, 867, 868, 869, 870, 871, 872, 873, 874, 875, 876, 877, 878, 879, 880, 881, 882, 883, 884, 885, 886, 887, 888, 889, 890, 891, 892, 893, 894, 895, 896, 897, 898, 899, 900, 901, 902, 903, 904, 905, 906, 907, 908, 909, 910] (by decide +kernel) (by decide +kernel)
set_option maxRecDepth 20000 in
theorem gL_law_X6_cloud : GoodIn wsL_law (wsV RL 66 RX6 yX6_cloud wsX6_cloud) := goodIn_app (goodIn_of _ (by decide +kernel)) ggL_law_X6_cloud
set_option maxRecDepth 20000 in
theorem ggL_law_X5_age : GoodIn wsL_law wsX5_age := goodIn_r _ [549, 19, 192, 193, 194, 18, 195, 52, 455, 456, 2, 457, 550, 551, 552, 553, 44, 51, 43, 841, 842, 843, 844, 845, 846, 847, 848, 849, 850, 911, 912, 913, 914, 915, 916, 917, 918] (by decide +kernel) (by decide +kernel)
set_option maxRecDepth 20000 in
theorem gL_law_X5_age : GoodIn wsL_law (wsV RL 67 RX5 yX5_age wsX5_age) := goodIn_app (goodIn_of _ (by decide +kernel)) ggL_law_X5_age
set_option maxRecDepth 20000 in
theorem ggL_law_X6_age : GoodIn wsL_law wsX6_age := goodIn_r _ [557, 364, 365, 366, 5, 367, 368, 462, 463, 464, 558, 559, 560, 561, 135, 447, 134, 851, 852, 853, 854, 855, 856, 857, 858, 859, 860, 861, 862, 863, 864, 865, 866, 867, 868, 869, 870, 871, 872, 873, 874, 875, 876, 877, 878, 879, 880, 881, 882, 883, 884, 885, 886, 887, 888, 889, 890, 891, 892, 893, 894, 895, 896, 897, 898, 899, 900, 901, 902, 903, 904, 905, 906, 907, 908, 909, 910] (by decide +kernel) (by decide +kernel)
set_option maxRecDepth 20000 in
theorem gL_law_X6_age : GoodIn wsL_law (wsV RL 70 RX6 yX6_age wsX6_age) := goodIn_app (goodIn_of _ (by decide +kernel)) ggL_law_X6_age
