set_option maxRecDepth 20000 in
theorem ggL_law_X5_parts : GoodIn wsL_law wsX5_parts := goodIn_r _ [660, 121, 19, 124, 125, 2, 126, 626, 627, 628, 629, 25, 24, 610, 611, 612, 23, 613, 65, 447, 448, 449, 450, 66, 67, 68, 69, 70, 71, 630, 631, 632, 633, 289, 451, 452, 453, 454, 209, 455, 456, 440, 441, 442, 457, 414, 415, 18, 416, 61, 57, 302, 303, 458, 459, 460, 461, 462, 463, 464, 465, 466, 467, 468, 469, 326, 327, 328, 329, 330, 331, 298, 299, 300, 301, 59, 304, 305, 306, 307, 308, 309, 310, 311, 60, 52, 922, 923, 924, 925, 926, 927, 928, 929, 930, 931, 932, 988, 989, 990, 991, 992, 993, 994, 976, 977, 978, 979, 980, 981, 982, 983, 984, 985, 986, 987] (by decide +kernel) (by decide +kernel)
set_option maxRecDepth 20000 in
theorem gL_law_X5_parts : GoodIn wsL_law (wsV RL 93 RX5 yX5_parts wsX5_parts) := goodIn_app (goodIn_of _ (by decide +kernel)) ggL_law_X5_parts
set_option maxRecDepth 20000 in
theorem ggL_law_X6_parts : GoodIn wsL_law wsX6_parts := goodIn_r _ [664, 135, 138, 139, 5, 140, 653, 654, 655, 656, 105, 618, 619, 620, 621, 104, 484, 485, 486, 487, 228, 101, 422, 423, 424, 425, 230, 103, 340, 341, 342, 488, 489, 490, 491, 100, 343, 344, 345, 346, 226, 347, 348, 349, 350, 351, 352, 353, 354, 99, 933, 934, 935, 936, 937, 938, 939, 940, 941, 942, 943, 944, 945, 946, 947, 948, 949, 950, 951, 952, 953, 954, 955, 956, 957, 958, 959, 960, 961, 962, 963, 964, 965, 966, 967, 968, 969, 970] (by decide +kernel) (by decide +kernel)
set_option maxRecDepth 20000 in
theorem gL_law_X6_parts : GoodIn wsL_law (wsV RL 96 RX6 yX6_parts wsX6_parts) := goodIn_app (goodIn_of _ (by decide +kernel)) ggL_law_X6_parts
set_option maxRecDepth 20000 in
theorem ggL_law_X5_together : GoodIn wsL_law wsX5_together := goodIn_r _ [668, 19, 367, 24, 289, 394, 395, 396, 18, 397, 59, 669, 305, 306, 307, 308, 309, 310, 311, 60, 52, 302, 2, 303, 922, 923, 924, 925, 926, 927, 928, 929, 930, 931, 932, 988, 989, 990, 991, 992, 993, 994, 976, 977, 978, 979, 980, 981, 982, 983, 984, 985, 986, 987] (by decide +kernel) (by decide +kernel)
set_option maxRecDepth 20000 in
theorem gL_law_X5_together : GoodIn wsL_law (wsV RL 97 RX5 yX5_together wsX5_together) := goodIn_app (goodIn_of _ (by decide +kernel)) ggL_law_X5_together
set_option maxRecDepth 20000 in
theorem ggL_law_X6_together : GoodIn wsL_law wsX6_together := goodIn_r _ [673, 104, 384, 403, 404, 405, 5, 406, 226, 138, 139, 140, 347, 348, 349, 350, 351, 352, 353, 354, 228, 99, 340, 341, 342, 933, 934, 935, 936, 937, 938, 939, 940, 941, 942, 943, 944, 945, 946, 947, 948, 949, 950, 951, 952, 953, 954, 955, 956, 957, 958, 959, 960, 961, 962, 963, 964, 965, 966, 967, 968, 969, 970] (by decide +kernel) (by decide +kernel)
set_option maxRecDepth 20000 in
theorem gL_law_X6_together : GoodIn wsL_law (wsV RL 100 RX6 yX6_together wsX6_together) := goodIn_app (goodIn_of _ (by decide +kernel)) ggL_law_X6_together
set_option maxRecDepth 20000 in
theorem ggL_law_X5_between : GoodIn wsL_law wsX5_between := goodIn_r _ [677, 367, 121, 678, 679, 680, 2, 681, 19, 394, 395, 396, 18, 397, 59, 124, 125, 126, 682, 683, 684, 685, 24, 289, 686, 687, 688, 689, 496, 326, 327, 328, 329, 330, 331, 690, 691, 692, 693, 304, 305, 306, 307, 308, 309, 310, 311, 60, 52, 302, 303, 922, 923, 924, 925, 926, 927, 928, 929, 930, 931, 932, 976, 977, 978, 979, 980, 981, 982, 983, 984, 985, 986, 987, 988, 989, 990, 991, 992, 993, 994] (by decide +kernel) (by decide +kernel)
set_option maxRecDepth 20000 in
theorem gL_law_X5_between : GoodIn wsL_law (wsV RL 101 RX5 yX5_between wsX5_between) := goodIn_app (goodIn_of _ (by decide +kernel)) ggL_law_X5_between
set_option maxRecDepth 20000 in
theorem ggL_law_X6_between : GoodIn wsL_law wsX6_between := goodIn_r _ [697, 384, 135, 104, 698, 699, 700, 5, 701, 403, 404, 405, 406, 226, 138, 139, 140, 501, 502, 503, 347, 348, 349, 350, 351, 352, 353, 354, 228, 99, 340, 341, 342, 933, 934, 935, 936, 937, 938, 939, 940, 941, 942, 943, 944, 945, 946, 947, 948, 949, 950, 951, 952, 953, 954, 955, 956, 957, 958, 959, 960, 961, 962, 963, 964, 965, 966, 967, 968, 969, 970] (by decide +kernel) (by decide +kernel)
set_option maxRecDepth 20000 in
theorem gL_law_X6_between : GoodIn wsL_law (wsV RL 105 RX6 yX6_between wsX6_between) := goodIn_app (goodIn_of _ (by decide +kernel)) ggL_law_X6_between
set_option maxRecDepth 20000 in
theorem ggL_law_X5_way : GoodIn wsL_law wsX5_way := goodIn_r _ [705, 367, 121, 19, 24, 289, 678, 679, 680, 2, 681, 394, 395, 396, 18, 397, 59, 124, 125, 126, 706, 707, 708, 709, 302, 303, 308, 309, 310, 311, 60, 52, 710, 711, 712, 713, 145, 393, 368, 369, 312, 922, 923, 924, 925, 926, 927, 928, 929, 930, 931, 932, 988, 989, 990, 991, 992, 993, 994, 976, 977, 978, 979, 980, 981, 982, 983, 984, 985, 986, 987] (by decide +kernel) (by decide +kernel)
set_option maxRecDepth 20000 in
theorem gL_law_X5_way : GoodIn wsL_law (wsV RL 106 RX5 yX5_way wsX5_way) := goodIn_app (goodIn_of _ (by decide +kernel)) ggL_law_X5_way
set_option maxRecDepth 20000 in
theorem ggL_law_X6_way : GoodIn wsL_law wsX6_way := goodIn_r _ [717, 384, 135, 228, 99, 104, 698, 699, 700, 5, 701, 403, 404, 405, 406, 226, 138, 139, 140, 718, 719, 720, 721, 340, 341, 342, 351, 352, 353, 354, 933, 934, 935, 936, 937, 938, 939, 940, 941, 942, 943, 944, 945, 946, 947, 948, 949, 950, 951, 952, 953, 954, 955, 956, 957, 958, 959, 960, 961, 962, 963, 964, 965, 966, 967, 968, 969, 970] (by decide +kernel) (by decide +kernel)
set_option maxRecDepth 20000 in
theorem gL_law_X6_way : GoodIn wsL_law (wsV RL 109 RX6 yX6_way wsX6_way) := goodIn_app (goodIn_of _ (by decide +kernel)) ggL_law_X6_way
set_option maxRecDepth 20000 in
theorem ggL_law_X5_widest : GoodIn wsL_law wsX5_widest := goodIn_r _ [725, 367, 19, 145, 24, 289, 678, 679, 680, 2, 681, 394, 395, 396, 18, 397, 59, 726, 465, 466, 23, 467, 468, 65, 312, 302, 303, 727, 728, 729, 730, 690, 691, 692, 693, 304, 305, 306, 307, 308, 309, 310, 311, 60, 52, 922, 923, 924, 925, 926, 927, 928, 929, 930, 931, 932, 976, 977, 978, 979, 980, 981, 982, 983, 984, 985, 986, 987, 988, 989, 990, 991, 992, 993, 994] (by decide +kernel) (by decide +kernel)
set_option maxRecDepth 20000 in
theorem gL_law_X5_widest : GoodIn wsL_law (wsV RL 110 RX5 yX5_widest wsX5_widest) := goodIn_app (goodIn_of _ (by decide +kernel)) ggL_law_X5_widest
set_option maxRecDepth 20000 in
theorem ggL_law_X6_widest : GoodIn wsL_law wsX6_widest := goodIn_r _ [734, 384, 228, 104, 101, 698, 699, 700, 5, 701, 403, 404, 405, 406, 226, 138, 139, 140, 340, 341, 342, 347, 348, 349, 350, 351, 352, 353, 354, 99, 933, 934, 935, 936, 937, 938, 939, 940, 941, 942, 943, 944, 945, 946, 947, 948, 949, 950, 951, 952, 953, 954, 955, 956, 957, 958, 959, 960, 961, 962, 963, 964, 965, 966, 967, 968, 969, 970] (by decide +kernel) (by decide +kernel)
set_option maxRecDepth 20000 in
theorem gL_law_X6_widest : GoodIn wsL_law (wsV RL 113 RX6 yX6_widest wsX6_widest) := goodIn_app (goodIn_of _ (by decide +kernel)) ggL_law_X6_widest
set_option maxRecDepth 20000 in
theorem ggL_law_X5_farthest : GoodIn wsL_law wsX5_farthest := goodIn_r _ [738, 19, 367, 121, 284, 24, 289, 394, 395, 396, 18, 397, 59, 124, 125, 2, 126, 706, 707, 708, 709, 302, 303, 308, 309, 310, 311, 60, 52, 922, 923, 924, 925, 926, 927, 928, 929, 930, 931, 932, 976, 977, 978, 979, 980, 981, 982, 983, 984, 985, 986, 987, 988, 989, 990, 991, 992, 993, 994] (by decide +kernel) (by decide +kernel)
set_option maxRecDepth 20000 in
theorem gL_law_X5_farthest : GoodIn wsL_law (wsV RL 114 RX5 yX5_farthest wsX5_farthest) := goodIn_app (goodIn_of _ (by decide +kernel)) ggL_law_X5_farthest
set_option maxRecDepth 20000 in
theorem ggL_law_X6_farthest : GoodIn wsL_law wsX6_farthest := goodIn_r _ [742, 384, 135, 226, 403, 404, 405, 5, 406, 138, 139, 140, 718, 719, 720, 721, 104, 340, 341, 342, 351, 352, 353, 354, 228, 99, 933, 934, 935, 936, 937, 938, 939, 940, 941, 942, 943, 944, 945, 946, 947, 948, 949, 950, 951, 952, 953, 954, 955, 956, 957, 958, 959, 960, 961, 962, 963, 964, 965, 966, 967, 968, 969, 970] (by decide +kernel) (by decide +kernel)
set_option maxRecDepth 20000 in
theorem gL_law_X6_farthest : GoodIn wsL_law (wsV RL 117 RX6 yX6_farthest wsX6_farthest) := goodIn_app (goodIn_of _ (by decide +kernel)) ggL_law_X6_farthest
set_option maxRecDepth 20000 in
theorem ggL_law_X5_keepUp : GoodIn wsL_law wsX5_keepUp := goodIn_r _ [746, 121, 124, 125, 2, 126, 747, 748, 749, 750, 19, 24, 289, 298, 299, 300, 18, 301, 59, 302, 303, 304, 305, 306, 307, 308, 309, 310, 311, 60, 52, 626, 627, 628, 629, 25, 610, 611, 612, 23, 613, 65, 447, 448, 449, 450, 66, 67, 68, 69, 70, 71, 630, 631, 632, 633, 451, 452, 453, 454, 209, 455, 456, 440, 441, 442, 457, 414, 415, 416, 61, 57, 458, 459, 460, 461, 462, 463, 464, 465, 466, 467, 468, 469, 326, 327, 328, 329, 330, 331, 751, 752, 753, 754, 372, 686, 687, 688, 689, 496, 922, 923, 924, 925, 926, 927, 928, 929, 930, 931, 932, 988, 989, 990, 991, 992, 993, 994, 976, 977, 978, 979, 980, 981, 982, 983, 984, 985, 986, 987] (by decide +kernel) (by decide +kernel)
set_option maxRecDepth 20000 in
theorem gL_law_X5_keepUp : GoodIn wsL_law (wsV RL 118 RX5 yX5_keepUp wsX5_keepUp) := goodIn_app (goodIn_of _ (by decide +kernel)) ggL_law_X5_keepUp
set_option maxRecDepth 20000 in
theorem ggL_law_X6_keepUp : GoodIn wsL_law wsX6_keepUp := goodIn_r _ [758, 135, 104, 228, 105, 138, 139, 5, 140, 501, 502, 503, 618, 619, 620, 621, 340, 341, 342, 484, 485, 486, 487, 101, 422, 423, 424, 425, 230, 103, 488, 489, 490, 491, 100, 343, 344, 345, 346, 226, 347, 348, 349, 350, 351, 352, 353, 354, 99, 933, 934, 935, 936, 937, 938, 939, 940, 941, 942, 943, 944, 945, 946, 947, 948, 949, 950, 951, 952, 953, 954, 955, 956, 957, 958, 959, 960, 961, 962, 963, 964, 965, 966, 967, 968, 969, 970] (by decide +kernel) (by decide +kernel)
set_option maxRecDepth 20000 in
theorem gL_law_X6_keepUp : GoodIn wsL_law (wsV RL 121 RX6 yX6_keepUp wsX6_keepUp) := goodIn_app (goodIn_of _ (by decide +kernel)) ggL_law_X6_keepUp
set_option maxRecDepth 20000 in
theorem ggL_law_X5_agree : GoodIn wsL_law wsX5_agree := goodIn_r _ [762, 121, 124, 125, 2, 126, 763, 764, 765, 766, 24, 289, 767, 768, 769, 770, 19, 290, 317, 318, 319, 18, 320, 59, 58, 60, 50, 51, 302, 303, 321, 322, 323, 324, 55, 56, 325, 326, 327, 328, 329, 330, 331, 496, 686, 687, 688, 689, 922, 923, 924, 925, 926, 927, 928, 929, 930, 931, 932, 988, 989, 990, 991, 992, 993, 994, 976, 977, 978, 979, 980, 981, 982, 983, 984, 985, 986, 987] (by decide +kernel) (by decide +kernel)
set_option maxRecDepth 20000 in
theorem gL_law_X5_agree : GoodIn wsL_law (wsV RL 122 RX5 yX5_agree wsX5_agree) := goodIn_app (goodIn_of _ (by decide +kernel)) ggL_law_X5_agree
set_option maxRecDepth 20000 in
theorem ggL_law_X6_agree : GoodIn wsL_law wsX6_agree := goodIn_r _ [774, 135, 775, 104, 138, 139, 5, 140, 355, 356, 357, 358, 226, 228, 359, 360, 361, 362, 99, 102, 340, 341, 342, 501, 502, 503, 933, 934, 935, 936, 937, 938, 939, 940, 941, 942, 943, 944, 945, 946, 947, 948, 949, 950, 951, 952, 953, 954, 955, 956, 957, 958, 959, 960, 961, 962, 963, 964, 965, 966, 967, 968, 969, 970] (by decide +kernel) (by decide +kernel)
set_option maxRecDepth 20000 in
theorem gL_law_X6_agree : GoodIn wsL_law (wsV RL 125 RX6 yX6_agree wsX6_agree) := goodIn_app (goodIn_of _ (by decide +kernel)) ggL_law_X6_agree
set_option maxRecDepth 20000 in
theorem ggL_law_X5_fold : GoodIn wsL_law wsX5_fold := goodIn_r _ [779, 19, 284, 780, 781, 782, 2, 783, 24, 289, 784, 309, 310, 18, 311, 60, 52, 302, 303, 922, 923, 924, 925, 926, 927, 928, 929, 930, 931, 932, 976, 977, 978, 979, 980, 981, 982, 983, 984, 985, 986, 987, 988, 989, 990, 991, 992, 993, 994] (by decide +kernel) (by decide +kernel)
set_option maxRecDepth 20000 in
theorem gL_law_X5_fold : GoodIn wsL_law (wsV RL 126 RX5 yX5_fold wsX5_fold) := goodIn_app (goodIn_of _ (by decide +kernel)) ggL_law_X5_fold
set_option maxRecDepth 20000 in
theorem ggL_law_X6_fold : GoodIn wsL_law wsX6_fold := goodIn_r _ [788, 226, 789, 790, 791, 5, 792, 104, 351, 352, 353, 354, 228, 99, 340, 341, 342, 933, 934, 935, 936, 937, 938, 939, 940, 941, 942, 943, 944, 945, 946, 947, 948, 949, 950, 951, 952, 953, 954, 955, 956, 957, 958, 959, 960, 961, 962, 963, 964, 965, 966, 967, 968, 969, 970] (by decide +kernel) (by decide +kernel)
set_option maxRecDepth 20000 in
theorem gL_law_X6_fold : GoodIn wsL_law (wsV RL 129 RX6 yX6_fold wsX6_fold) := goodIn_app (goodIn_of _ (by decide +kernel)) ggL_law_X6_fold
set_option maxRecDepth 20000 in
theorem ggL_law_X5_share : GoodIn wsL_law wsX5_share := goodIn_r _ [796, 121, 24, 289, 124, 125, 2, 126, 797, 798, 799, 800, 19, 145, 372, 634, 635, 636, 637, 638, 327, 639, 640, 312, 302, 303, 922, 923, 924, 925, 926, 927, 928, 929, 930, 931, 932, 988, 989, 990, 991, 992, 993, 994, 976, 977, 978, 979, 980, 981, 982, 983, 984, 985, 986, 987] (by decide +kernel) (by decide +kernel)
set_option maxRecDepth 20000 in
theorem gL_law_X5_share : GoodIn wsL_law (wsV RL 130 RX5 yX5_share wsX5_share) := goodIn_app (goodIn_of _ (by decide +kernel)) ggL_law_X5_share
set_option maxRecDepth 20000 in
theorem ggL_law_X6_share : GoodIn wsL_law wsX6_share := goodIn_r _ [804, 135, 228, 104, 138, 139, 5, 140, 340, 341, 342, 933, 934, 935, 936, 937, 938, 939, 940, 941, 942, 943, 944, 945, 946, 947, 948, 949, 950, 951, 952, 953, 954, 955, 956, 957, 958, 959, 960, 961, 962, 963, 964, 965, 966, 967, 968, 969, 970] (by decide +kernel) (by decide +kernel)
set_option maxRecDepth 20000 in
theorem gL_law_X6_share : GoodIn wsL_law (wsV RL 133 RX6 yX6_share wsX6_share) := goodIn_app (goodIn_of _ (by decide +kernel)) ggL_law_X6_share
