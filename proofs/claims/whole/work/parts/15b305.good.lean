set_option maxRecDepth 20000 in
theorem ggL_law_X5_witness : GoodIn wsL_law wsX5_witness := goodIn_r _ [500, 23, 501, 19, 502, 192, 193, 194, 18, 195, 52, 841, 842, 843, 844, 845, 846, 847, 848, 849, 850, 919, 920, 921, 922, 923, 924, 925, 926, 927, 911, 912, 913, 914, 915, 916, 917, 918] (by decide +kernel) (by decide +kernel)
set_option maxRecDepth 20000 in
theorem gL_law_X5_witness : GoodIn wsL_law (wsV RL 55 RX5 yX5_witness wsX5_witness) := goodIn_app (goodIn_of _ (by decide +kernel)) ggL_law_X5_witness
set_option maxRecDepth 20000 in
theorem ggL_law_X6_witness : GoodIn wsL_law wsX6_witness := goodIn_r _ [506, 507, 140, 364, 365, 366, 5, 367, 368, 851, 852, 853, 854, 855, 856, 857, 858, 859, 860, 861, 862, 863, 864, 865, 866, 867, 868, 869, 870, 871, 872, 873, 874, 875, 876, 877, 878, 879, 880, 881, 882, 883, 884, 885, 886, 887, 888, 889, 890, 891, 892, 893, 894, 895, 896, 897, 898, 899, 900, 901, 902, 903, 904, 905, 906, 907, 908, 909, 910] (by decide +kernel) (by decide +kernel)
set_option maxRecDepth 20000 in
theorem gL_law_X6_witness : GoodIn wsL_law (wsV RL 58 RX6 yX6_witness wsX6_witness) := goodIn_app (goodIn_of _ (by decide +kernel)) ggL_law_X6_witness
set_option maxRecDepth 20000 in
theorem ggL_law_X5_report : GoodIn wsL_law wsX5_report := goodIn_r _ [511, 23, 512, 513, 514, 515, 22, 516, 64, 455, 456, 2, 457, 517, 518, 519, 520, 65, 62, 58, 841, 842, 843, 844, 845, 846, 847, 848, 849, 850, 919, 920, 921, 922, 923, 924, 925, 926, 927] (by decide +kernel) (by decide +kernel)
set_option maxRecDepth 20000 in
theorem gL_law_X5_report : GoodIn wsL_law (wsV RL 59 RX5 yX5_report wsX5_report) := goodIn_app (goodIn_of _ (by decide +kernel)) ggL_law_X5_report
set_option maxRecDepth 20000 in
theorem ggL_law_X6_report : GoodIn wsL_law wsX6_report := goodIn_r _ [524, 525, 526, 527, 528, 5, 529, 507, 462, 463, 464, 530, 531, 532, 533, 141, 142, 143, 851, 852, 853, 854, 855, 856, 857, 858, 859, 860, 861, 862, 863, 864, 865, 866, 867, 868, 869, 870, 871, 872, 873, 874, 875, 876, 877, 878, 879, 880, 881, 882, 883, 884, 885, 886, 887, 888, 889, 890, 891, 892, 893, 894, 895, 896, 897, 898, 899, 900, 901, 902, 903, 904, 905, 906, 907, 908, 909, 910] (by decide +kernel) (by decide +kernel)
set_option maxRecDepth 20000 in
theorem gL_law_X6_report : GoodIn wsL_law (wsV RL 62 RX6 yX6_report wsX6_report) := goodIn_app (goodIn_of _ (by decide +kernel)) ggL_law_X6_report
