set_option maxRecDepth 20000 in
theorem ggL_law_X5_calm : GoodIn wsL_law wsX5_calm := goodIn_r _ [808, 121, 809, 810, 124, 125, 2, 126] (by decide +kernel) (by decide +kernel)
set_option maxRecDepth 20000 in
theorem gL_law_X5_calm : GoodIn wsL_law (wsV RL 134 RX5 yX5_calm wsX5_calm) := goodIn_app (goodIn_of _ (by decide +kernel)) ggL_law_X5_calm
set_option maxRecDepth 20000 in
theorem ggL_law_X6_calm : GoodIn wsL_law wsX6_calm := goodIn_r _ [814, 135, 815, 816, 138, 139, 5, 140] (by decide +kernel) (by decide +kernel)
set_option maxRecDepth 20000 in
theorem gL_law_X6_calm : GoodIn wsL_law (wsV RL 137 RX6 yX6_calm wsX6_calm) := goodIn_app (goodIn_of _ (by decide +kernel)) ggL_law_X6_calm
set_option maxRecDepth 20000 in
theorem ggL_law_X5_hear : GoodIn wsL_law wsX5_hear := goodIn_r _ [820, 367, 33, 291, 123, 678, 679, 680, 2, 681, 19, 394, 395, 396, 18, 397, 59, 821, 822, 823, 32, 824, 84, 81, 82, 86, 922, 923, 924, 925, 926, 927, 928, 929, 930, 931, 932, 998, 999, 1000, 1001, 1002, 1003, 1004, 976, 977, 978, 979, 980, 981, 982, 983, 984, 985, 986, 987] (by decide +kernel) (by decide +kernel)
set_option maxRecDepth 20000 in
theorem gL_law_X5_hear : GoodIn wsL_law (wsV RL 138 RX5 yX5_hear wsX5_hear) := goodIn_app (goodIn_of _ (by decide +kernel)) ggL_law_X5_hear
set_option maxRecDepth 20000 in
theorem ggL_law_X6_hear : GoodIn wsL_law wsX6_hear := goodIn_r _ [828, 384, 232, 137, 107, 108, 110, 698, 699, 700, 5, 701, 403, 404, 405, 406, 226, 138, 139, 140, 933, 934, 935, 936, 937, 938, 939, 940, 941, 942, 943, 944, 945, 946, 947, 948, 949, 950, 951, 952, 953, 954, 955, 956, 957, 958, 959, 960, 961, 962, 963, 964, 965, 966, 967, 968, 969, 970] (by decide +kernel) (by decide +kernel)
set_option maxRecDepth 20000 in
theorem gL_law_X6_hear : GoodIn wsL_law (wsV RL 142 RX6 yX6_hear wsX6_hear) := goodIn_app (goodIn_of _ (by decide +kernel)) ggL_law_X6_hear
set_option maxRecDepth 20000 in
theorem ggL_law_X5_traitor : GoodIn wsL_law wsX5_traitor := goodIn_r _ [832, 24, 289, 33, 19, 312, 302, 2, 303, 313, 314, 315, 316, 833, 834, 835, 32, 836, 84, 81, 82, 86, 837, 691, 692, 18, 693, 304, 305, 306, 307, 59, 308, 309, 310, 311, 60, 52, 922, 923, 924, 925, 926, 927, 928, 929, 930, 931, 932, 988, 989, 990, 991, 992, 993, 994, 998, 999, 1000, 1001, 1002, 1003, 1004, 976, 977, 978, 979, 980, 981, 982, 983, 984, 985, 986, 987] (by decide +kernel) (by decide +kernel)
set_option maxRecDepth 20000 in
theorem gL_law_X5_traitor : GoodIn wsL_law (wsV RL 143 RX5 yX5_traitor wsX5_traitor) := goodIn_app (goodIn_of _ (by decide +kernel)) ggL_law_X5_traitor
set_option maxRecDepth 20000 in
theorem ggL_law_X6_traitor : GoodIn wsL_law wsX6_traitor := goodIn_r _ [841, 842, 843, 844, 5, 845, 104, 232, 107, 108, 110, 340, 341, 342, 846, 847, 848, 849, 347, 348, 349, 350, 226, 351, 352, 353, 354, 228, 99, 933, 934, 935, 936, 937, 938, 939, 940, 941, 942, 943, 944, 945, 946, 947, 948, 949, 950, 951, 952, 953, 954, 955, 956, 957, 958, 959, 960, 961, 962, 963, 964, 965, 966, 967, 968, 969, 970] (by decide +kernel) (by decide +kernel)
set_option maxRecDepth 20000 in
theorem gL_law_X6_traitor : GoodIn wsL_law (wsV RL 146 RX6 yX6_traitor wsX6_traitor) := goodIn_app (goodIn_of _ (by decide +kernel)) ggL_law_X6_traitor
set_option maxRecDepth 20000 in
theorem ggL_law_X5_ask : GoodIn wsL_law wsX5_ask := goodIn_r _ [853, 19, 284, 854, 830, 831, 2, 832, 24, 289, 33, 312, 302, 303, 313, 314, 315, 316, 833, 834, 835, 32, 836, 84, 81, 82, 86, 837, 691, 692, 18, 693, 304, 305, 306, 307, 59, 308, 309, 310, 311, 60, 52, 496, 326, 327, 328, 329, 330, 331, 855, 856, 857, 858, 859, 462, 441, 463, 690, 922, 923, 924, 925, 926, 927, 928, 929, 930, 931, 932, 976, 977, 978, 979, 980, 981, 982, 983, 984, 985, 986, 987, 988, 989, 990, 991, 992, 993, 994, 998, 999, 1000, 1001, 1002, 1003, 1004] (by decide +kernel) (by decide +kernel)
set_option maxRecDepth 20000 in
theorem gL_law_X5_ask : GoodIn wsL_law (wsV RL 147 RX5 yX5_ask wsX5_ask) := goodIn_app (goodIn_of _ (by decide +kernel)) ggL_law_X5_ask
set_option maxRecDepth 20000 in
theorem ggL_law_X6_ask : GoodIn wsL_law wsX6_ask := goodIn_r _ [863, 226, 842, 843, 844, 5, 845, 104, 232, 107, 108, 110, 340, 341, 342, 846, 847, 848, 849, 347, 348, 349, 350, 351, 352, 353, 354, 228, 99, 501, 502, 503, 933, 934, 935, 936, 937, 938, 939, 940, 941, 942, 943, 944, 945, 946, 947, 948, 949, 950, 951, 952, 953, 954, 955, 956, 957, 958, 959, 960, 961, 962, 963, 964, 965, 966, 967, 968, 969, 970] (by decide +kernel) (by decide +kernel)
set_option maxRecDepth 20000 in
theorem gL_law_X6_ask : GoodIn wsL_law (wsV RL 150 RX6 yX6_ask wsX6_ask) := goodIn_app (goodIn_of _ (by decide +kernel)) ggL_law_X6_ask
set_option maxRecDepth 20000 in
theorem ggL_law_X5_write : GoodIn wsL_law wsX5_write := goodIn_r _ [867, 19, 367, 121, 33, 292, 123, 376, 377, 378, 18, 379, 60, 124, 125, 2, 126, 868, 869, 870, 32, 871, 85, 83, 87, 922, 923, 924, 925, 926, 927, 928, 929, 930, 931, 932, 998, 999, 1000, 1001, 1002, 1003, 1004, 976, 977, 978, 979, 980, 981, 982, 983, 984, 985, 986, 987] (by decide +kernel) (by decide +kernel)
set_option maxRecDepth 20000 in
theorem gL_law_X5_write : GoodIn wsL_law (wsV RL 151 RX5 yX5_write wsX5_write) := goodIn_app (goodIn_of _ (by decide +kernel)) ggL_law_X5_write
set_option maxRecDepth 20000 in
theorem ggL_law_X6_write : GoodIn wsL_law wsX6_write := goodIn_r _ [875, 384, 135, 233, 137, 111, 112, 385, 386, 387, 5, 388, 228, 138, 139, 140, 933, 934, 935, 936, 937, 938, 939, 940, 941, 942, 943, 944, 945, 946, 947, 948, 949, 950, 951, 952, 953, 954, 955, 956, 957, 958, 959, 960, 961, 962, 963, 964, 965, 966, 967, 968, 969, 970] (by decide +kernel) (by decide +kernel)
set_option maxRecDepth 20000 in
theorem gL_law_X6_write : GoodIn wsL_law (wsV RL 154 RX6 yX6_write wsX6_write) := goodIn_app (goodIn_of _ (by decide +kernel)) ggL_law_X6_write
set_option maxRecDepth 20000 in
theorem ggL_law_X5_judge : GoodIn wsL_law wsX5_judge := goodIn_r _ [879, 33, 24, 289, 880, 881, 882, 32, 883, 85, 83, 87, 302, 2, 303, 922, 923, 924, 925, 926, 927, 928, 929, 930, 931, 932, 988, 989, 990, 991, 992, 993, 994, 998, 999, 1000, 1001, 1002, 1003, 1004] (by decide +kernel) (by decide +kernel)
set_option maxRecDepth 20000 in
theorem gL_law_X5_judge : GoodIn wsL_law (wsV RL 155 RX5 yX5_judge wsX5_judge) := goodIn_app (goodIn_of _ (by decide +kernel)) ggL_law_X5_judge
set_option maxRecDepth 20000 in
theorem ggL_law_X6_judge : GoodIn wsL_law wsX6_judge := goodIn_r _ [887, 233, 104, 111, 112, 933, 934, 935, 936, 937, 938, 939, 940, 941, 942, 943, 944, 945, 946, 947, 948, 949, 950, 951, 952, 953, 954, 955, 956, 957, 958, 959, 960, 961, 962, 963, 964, 965, 966, 967, 968, 969, 970] (by decide +kernel) (by decide +kernel)
set_option maxRecDepth 20000 in
theorem gL_law_X6_judge : GoodIn wsL_law (wsV RL 158 RX6 yX6_judge wsX6_judge) := goodIn_app (goodIn_of _ (by decide +kernel)) ggL_law_X6_judge
set_option maxRecDepth 20000 in
theorem ggL_law_X5_tear : GoodIn wsL_law wsX5_tear := goodIn_r _ [891, 33, 291, 292, 215, 216, 217, 32, 218, 84, 85, 86, 87, 922, 923, 924, 925, 926, 927, 928, 929, 930, 931, 932, 998, 999, 1000, 1001, 1002, 1003, 1004] (by decide +kernel) (by decide +kernel)
set_option maxRecDepth 20000 in
theorem gL_law_X5_tear : GoodIn wsL_law (wsV RL 159 RX5 yX5_tear wsX5_tear) := goodIn_app (goodIn_of _ (by decide +kernel)) ggL_law_X5_tear
set_option maxRecDepth 20000 in
theorem ggL_law_X6_tear : GoodIn wsL_law wsX6_tear := goodIn_r _ [895, 232, 233, 933, 934, 935, 936, 937, 938, 939, 940, 941, 942, 943, 944, 945, 946, 947, 948, 949, 950, 951, 952, 953, 954, 955, 956, 957, 958, 959, 960, 961, 962, 963, 964, 965, 966, 967, 968, 969, 970] (by decide +kernel) (by decide +kernel)
set_option maxRecDepth 20000 in
theorem gL_law_X6_tear : GoodIn wsL_law (wsV RL 162 RX6 yX6_tear wsX6_tear) := goodIn_app (goodIn_of _ (by decide +kernel)) ggL_law_X6_tear
set_option maxRecDepth 20000 in
theorem ggL_law_X5_seed : GoodIn wsL_law wsX5_seed := goodIn_r _ [899, 121, 38, 922, 923, 924, 925, 926, 927, 928, 929, 930, 931, 932] (by decide +kernel) (by decide +kernel)
set_option maxRecDepth 20000 in
theorem gL_law_X5_seed : GoodIn wsL_law (wsV RL 163 RX5 yX5_seed wsX5_seed) := goodIn_app (goodIn_of _ (by decide +kernel)) ggL_law_X5_seed
set_option maxRecDepth 20000 in
theorem ggL_law_X6_seed : GoodIn wsL_law wsX6_seed := goodIn_r _ [903, 135, 581, 933, 934, 935, 936, 937, 938, 939, 940, 941, 942, 943, 944, 945, 946, 947, 948, 949, 950, 951, 952, 953, 954, 955, 956, 957, 958, 959, 960, 961, 962, 963, 964, 965, 966, 967, 968, 969, 970] (by decide +kernel) (by decide +kernel)
set_option maxRecDepth 20000 in
theorem gL_law_X6_seed : GoodIn wsL_law (wsV RL 166 RX6 yX6_seed wsX6_seed) := goodIn_app (goodIn_of _ (by decide +kernel)) ggL_law_X6_seed
set_option maxRecDepth 20000 in
theorem ggL_law_X5_keep : GoodIn wsL_law wsX5_keep := goodIn_r _ [907, 367, 24, 35, 36, 38, 37, 29, 124, 125, 2, 126, 908, 444, 445, 23, 446, 65, 447, 448, 449, 450, 66, 67, 68, 69, 70, 71, 211, 212, 213, 28, 214, 76, 77, 922, 923, 924, 925, 926, 927, 928, 929, 930, 931, 932, 988, 989, 990, 991, 992, 993, 994, 995, 996, 997] (by decide +kernel) (by decide +kernel)
set_option maxRecDepth 20000 in
theorem gL_law_X5_keep : GoodIn wsL_law (wsV RL 167 RX5 yX5_keep wsX5_keep) := goodIn_app (goodIn_of _ (by decide +kernel)) ggL_law_X5_keep
set_option maxRecDepth 20000 in
theorem ggL_law_X6_keep : GoodIn wsL_law wsX6_keep := goodIn_r _ [912, 384, 113, 116, 581, 231, 114, 104, 138, 139, 5, 140, 933, 934, 935, 936, 937, 938, 939, 940, 941, 942, 943, 944, 945, 946, 947, 948, 949, 950, 951, 952, 953, 954, 955, 956, 957, 958, 959, 960, 961, 962, 963, 964, 965, 966, 967, 968, 969, 970] (by decide +kernel) (by decide +kernel)
set_option maxRecDepth 20000 in
theorem gL_law_X6_keep : GoodIn wsL_law (wsV RL 170 RX6 yX6_keep wsX6_keep) := goodIn_app (goodIn_of _ (by decide +kernel)) ggL_law_X6_keep
set_option maxRecDepth 20000 in
theorem ggL_law_X5_goBack : GoodIn wsL_law wsX5_goBack := goodIn_r _ [916, 367, 37, 411, 24, 35, 36, 38, 29, 124, 125, 2, 126, 312, 302, 303, 917, 595, 596, 23, 597, 65, 447, 448, 449, 450, 66, 67, 68, 69, 70, 71, 211, 212, 213, 28, 214, 76, 77, 922, 923, 924, 925, 926, 927, 928, 929, 930, 931, 932, 988, 989, 990, 991, 992, 993, 994, 995, 996, 997] (by decide +kernel) (by decide +kernel)
set_option maxRecDepth 20000 in
theorem gL_law_X5_goBack : GoodIn wsL_law (wsV RL 171 RX5 yX5_goBack wsX5_goBack) := goodIn_app (goodIn_of _ (by decide +kernel)) ggL_law_X5_goBack
set_option maxRecDepth 20000 in
theorem ggL_law_X6_goBack : GoodIn wsL_law wsX6_goBack := goodIn_r _ [921, 384, 113, 421, 116, 581, 231, 104, 114, 138, 139, 5, 140, 933, 934, 935, 936, 937, 938, 939, 940, 941, 942, 943, 944, 945, 946, 947, 948, 949, 950, 951, 952, 953, 954, 955, 956, 957, 958, 959, 960, 961, 962, 963, 964, 965, 966, 967, 968, 969, 970] (by decide +kernel) (by decide +kernel)
set_option maxRecDepth 20000 in
theorem gL_law_X6_goBack : GoodIn wsL_law (wsV RL 174 RX6 yX6_goBack wsX6_goBack) := goodIn_app (goodIn_of _ (by decide +kernel)) ggL_law_X6_goBack
