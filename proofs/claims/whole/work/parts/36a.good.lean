set_option maxRecDepth 20000 in
theorem ggL_law_X5_init : GoodIn wsL_law wsX5_init := goodIn_r _ [8, 9, 10, 11, 12, 13, 14, 15, 16, 17, 18, 19, 20, 21, 22, 23, 24, 25, 26, 27, 28, 29, 30, 31, 32, 33, 34, 35, 36, 37, 38, 39, 40, 41, 42, 43, 44, 45, 46, 47, 48, 49, 50, 51, 52, 53, 54, 55, 56, 57, 58, 59, 60, 61, 62, 63, 64, 65, 66, 67, 68, 69, 70, 71, 72, 73, 74, 75, 76, 77, 78, 79, 80, 81, 82, 83, 84, 85, 86, 87, 971, 972, 973, 974, 975, 922, 923, 924, 925, 926, 927, 928, 929, 930, 931, 932, 976, 977, 978, 979, 980, 981, 982, 983, 984, 985, 986, 987, 988, 989, 990, 991, 992, 993, 994, 995, 996, 997, 998, 999, 1000, 1001, 1002, 1003, 1004] (by decide +kernel) (by decide +kernel)
set_option maxRecDepth 20000 in
theorem gL_law_X5_init : GoodIn wsL_law (wsX5_init) := ggL_law_X5_init
set_option maxRecDepth 20000 in
theorem ggL_law_X6_init : GoodIn wsL_law wsX6_init := goodIn_r _ [90, 91, 10, 11, 34, 92, 93, 94, 95, 96, 97, 98, 99, 100, 101, 102, 103, 104, 105, 106, 107, 108, 109, 110, 111, 112, 113, 114, 115, 116, 933, 934, 935, 936, 937, 938, 939, 940, 941, 942, 943, 944, 945, 946, 947, 948, 949, 950, 951, 952, 953, 954, 955, 956, 957, 958, 959, 960, 961, 962, 963, 964, 965, 966, 967, 968, 969, 970] (by decide +kernel) (by decide +kernel)
set_option maxRecDepth 20000 in
theorem gL_law_X6_init : GoodIn wsL_law (wsX6_init) := ggL_law_X6_init
set_option maxRecDepth 20000 in
theorem ggL_law_X5_feed : GoodIn wsL_law wsX5_feed := goodIn_r _ [120, 121, 15, 122, 123, 124, 125, 2, 126, 127, 128, 129, 14, 130, 43, 42, 922, 923, 924, 925, 926, 927, 928, 929, 930, 931, 932, 971, 972, 973, 974, 975] (by decide +kernel) (by decide +kernel)
set_option maxRecDepth 20000 in
theorem gL_law_X5_feed : GoodIn wsL_law (wsV RL 13 RX5 yX5_feed wsX5_feed) := goodIn_app (goodIn_of _ (by decide +kernel)) ggL_law_X5_feed
set_option maxRecDepth 20000 in
theorem ggL_law_X6_feed : GoodIn wsL_law wsX6_feed := goodIn_r _ [134, 135, 136, 137, 92, 138, 139, 5, 140, 933, 934, 935, 936, 937, 938, 939, 940, 941, 942, 943, 944, 945, 946, 947, 948, 949, 950, 951, 952, 953, 954, 955, 956, 957, 958, 959, 960, 961, 962, 963, 964, 965, 966, 967, 968, 969, 970] (by decide +kernel) (by decide +kernel)
set_option maxRecDepth 20000 in
theorem gL_law_X6_feed : GoodIn wsL_law (wsV RL 17 RX6 yX6_feed wsX6_feed) := goodIn_app (goodIn_of _ (by decide +kernel)) ggL_law_X6_feed
set_option maxRecDepth 20000 in
theorem ggL_law_X5_sea : GoodIn wsL_law wsX5_sea := goodIn_r _ [144, 15, 20, 19, 24, 29, 33, 37, 145, 146, 147, 148, 14, 149, 44, 45, 46, 43, 150, 151, 152, 18, 153, 59, 60, 61, 154, 155, 156, 157, 42, 158, 159, 160, 161, 162, 163, 164, 165, 166, 167, 168, 169, 170, 171, 172, 173, 174, 175, 176, 177, 178, 179, 180, 125, 2, 126, 181, 182, 183, 184, 185, 186, 187, 188, 189, 190, 191, 192, 193, 194, 195, 196, 197, 198, 199, 200, 201, 202, 203, 204, 205, 206, 207, 23, 208, 65, 209, 66, 67, 68, 69, 70, 71, 210, 211, 212, 213, 28, 214, 76, 77, 215, 216, 217, 32, 218, 84, 85, 86, 87, 922, 923, 924, 925, 926, 927, 928, 929, 930, 931, 932, 976, 977, 978, 979, 980, 981, 982, 983, 984, 985, 986, 987, 971, 972, 973, 974, 975, 988, 989, 990, 991, 992, 993, 994, 995, 996, 997, 998, 999, 1000, 1001, 1002, 1003, 1004] (by decide +kernel) (by decide +kernel)
set_option maxRecDepth 20000 in
theorem gL_law_X5_sea : GoodIn wsL_law (wsV RL 18 RX5 yX5_sea wsX5_sea) := goodIn_app (goodIn_of _ (by decide +kernel)) ggL_law_X5_sea
set_option maxRecDepth 20000 in
theorem ggL_law_X6_sea : GoodIn wsL_law wsX6_sea := goodIn_r _ [222, 136, 223, 93, 224, 225, 226, 227, 228, 229, 230, 99, 94, 102, 97, 100, 95, 101, 96, 103, 98, 104, 231, 232, 233, 113, 234, 235, 236, 5, 237, 238, 239, 240, 241, 242, 243, 244, 245, 92, 246, 247, 248, 249, 250, 251, 252, 253, 254, 138, 139, 140, 255, 256, 257, 258, 259, 260, 261, 262, 263, 264, 265, 266, 267, 268, 269, 270, 933, 934, 935, 936, 937, 938, 939, 940, 941, 942, 943, 944, 945, 946, 947, 948, 949, 950, 951, 952, 953, 954, 955, 956, 957, 958, 959, 960, 961, 962, 963, 964, 965, 966, 967, 968, 969, 970] (by decide +kernel) (by decide +kernel)
set_option maxRecDepth 20000 in
theorem gL_law_X6_sea : GoodIn wsL_law (wsV RL 22 RX6 yX6_sea wsX6_sea) := goodIn_app (goodIn_of _ (by decide +kernel)) ggL_law_X6_sea
set_option maxRecDepth 20000 in
theorem ggL_law_X5_fault : GoodIn wsL_law wsX5_fault := goodIn_r _ [274, 15, 275, 922, 923, 924, 925, 926, 927, 928, 929, 930, 931, 932, 971, 972, 973, 974, 975] (by decide +kernel) (by decide +kernel)
set_option maxRecDepth 20000 in
theorem gL_law_X5_fault : GoodIn wsL_law (wsV RL 23 RX5 yX5_fault wsX5_fault) := goodIn_app (goodIn_of _ (by decide +kernel)) ggL_law_X5_fault
set_option maxRecDepth 20000 in
theorem ggL_law_X6_fault : GoodIn wsL_law wsX6_fault := goodIn_r _ [279, 93, 933, 934, 935, 936, 937, 938, 939, 940, 941, 942, 943, 944, 945, 946, 947, 948, 949, 950, 951, 952, 953, 954, 955, 956, 957, 958, 959, 960, 961, 962, 963, 964, 965, 966, 967, 968, 969, 970] (by decide +kernel) (by decide +kernel)
set_option maxRecDepth 20000 in
theorem gL_law_X6_fault : GoodIn wsL_law (wsV RL 26 RX6 yX6_fault wsX6_fault) := goodIn_app (goodIn_of _ (by decide +kernel)) ggL_law_X6_fault
set_option maxRecDepth 20000 in
theorem ggL_law_X5_told : GoodIn wsL_law wsX5_told := goodIn_r _ [283, 19, 284, 145, 285, 15, 122, 24, 286, 287, 288, 289, 290, 33, 291, 292, 29, 293, 121, 294, 295, 296, 2, 297, 298, 299, 300, 18, 301, 59, 302, 303, 304, 305, 306, 307, 308, 309, 310, 311, 60, 52, 312, 313, 314, 315, 316, 317, 318, 319, 320, 58, 50, 51, 321, 322, 323, 324, 55, 56, 325, 326, 327, 328, 329, 330, 331, 922, 923, 924, 925, 926, 927, 928, 929, 930, 931, 932, 976, 977, 978, 979, 980, 981, 982, 983, 984, 985, 986, 987, 971, 972, 973, 974, 975, 988, 989, 990, 991, 992, 993, 994, 998, 999, 1000, 1001, 1002, 1003, 1004, 995, 996, 997] (by decide +kernel) (by decide +kernel)
set_option maxRecDepth 20000 in
theorem gL_law_X5_told : GoodIn wsL_law (wsV RL 27 RX5 yX5_told wsX5_told) := goodIn_app (goodIn_of _ (by decide +kernel)) ggL_law_X5_told
set_option maxRecDepth 20000 in
theorem ggL_law_X6_told : GoodIn wsL_law wsX6_told := goodIn_r _ [335, 226, 228, 230, 136, 104, 232, 233, 231, 135, 336, 337, 338, 5, 339, 340, 341, 342, 343, 344, 345, 346, 347, 348, 349, 350, 351, 352, 353, 354, 99, 355, 356, 357, 358, 359, 360, 361, 362, 102, 933, 934, 935, 936, 937, 938, 939, 940, 941, 942, 943, 944, 945, 946, 947, 948, 949, 950, 951, 952, 953, 954, 955, 956, 957, 958, 959, 960, 961, 962, 963, 964, 965, 966, 967, 968, 969, 970] (by decide +kernel) (by decide +kernel)
set_option maxRecDepth 20000 in
theorem gL_law_X6_told : GoodIn wsL_law (wsV RL 30 RX6 yX6_told wsX6_told) := goodIn_app (goodIn_of _ (by decide +kernel)) ggL_law_X6_told
set_option maxRecDepth 20000 in
theorem ggL_law_X5_link : GoodIn wsL_law wsX5_link := goodIn_r _ [366, 19, 367, 368, 369, 370, 371, 24, 372, 289, 290, 373, 374, 375, 121, 376, 377, 378, 18, 379, 60, 312, 302, 2, 303, 922, 923, 924, 925, 926, 927, 928, 929, 930, 931, 932, 976, 977, 978, 979, 980, 981, 982, 983, 984, 985, 986, 987, 988, 989, 990, 991, 992, 993, 994] (by decide +kernel) (by decide +kernel)
set_option maxRecDepth 20000 in
theorem gL_law_X5_link : GoodIn wsL_law (wsV RL 31 RX5 yX5_link wsX5_link) := goodIn_app (goodIn_of _ (by decide +kernel)) ggL_law_X5_link
set_option maxRecDepth 20000 in
theorem ggL_law_X6_link : GoodIn wsL_law wsX6_link := goodIn_r _ [383, 384, 99, 100, 101, 104, 102, 135, 385, 386, 387, 5, 388, 228, 138, 139, 140, 933, 934, 935, 936, 937, 938, 939, 940, 941, 942, 943, 944, 945, 946, 947, 948, 949, 950, 951, 952, 953, 954, 955, 956, 957, 958, 959, 960, 961, 962, 963, 964, 965, 966, 967, 968, 969, 970] (by decide +kernel) (by decide +kernel)
set_option maxRecDepth 20000 in
theorem gL_law_X6_link : GoodIn wsL_law (wsV RL 35 RX6 yX6_link wsX6_link) := goodIn_app (goodIn_of _ (by decide +kernel)) ggL_law_X6_link
set_option maxRecDepth 20000 in
theorem ggL_law_X5_reads : GoodIn wsL_law wsX5_reads := goodIn_r _ [392, 19, 367, 24, 289, 393, 368, 290, 394, 395, 396, 18, 397, 59, 376, 377, 378, 379, 60, 312, 302, 2, 303, 398, 322, 323, 324, 55, 56, 922, 923, 924, 925, 926, 927, 928, 929, 930, 931, 932, 988, 989, 990, 991, 992, 993, 994, 976, 977, 978, 979, 980, 981, 982, 983, 984, 985, 986, 987] (by decide +kernel) (by decide +kernel)
set_option maxRecDepth 20000 in
theorem gL_law_X5_reads : GoodIn wsL_law (wsV RL 36 RX5 yX5_reads wsX5_reads) := goodIn_app (goodIn_of _ (by decide +kernel)) ggL_law_X5_reads
set_option maxRecDepth 20000 in
theorem ggL_law_X6_reads : GoodIn wsL_law wsX6_reads := goodIn_r _ [402, 104, 384, 403, 404, 405, 5, 406, 226, 138, 139, 140, 385, 386, 387, 388, 228, 359, 360, 361, 362, 99, 102, 340, 341, 342, 933, 934, 935, 936, 937, 938, 939, 940, 941, 942, 943, 944, 945, 946, 947, 948, 949, 950, 951, 952, 953, 954, 955, 956, 957, 958, 959, 960, 961, 962, 963, 964, 965, 966, 967, 968, 969, 970] (by decide +kernel) (by decide +kernel)
set_option maxRecDepth 20000 in
theorem gL_law_X6_reads : GoodIn wsL_law (wsV RL 39 RX6 yX6_reads wsX6_reads) := goodIn_app (goodIn_of _ (by decide +kernel)) ggL_law_X6_reads
set_option maxRecDepth 20000 in
theorem ggL_law_X5_wind : GoodIn wsL_law wsX5_wind := goodIn_r _ [410, 121, 19, 411, 24, 286, 124, 125, 2, 126, 412, 165, 166, 18, 167, 59, 413, 414, 415, 416, 61, 57, 922, 923, 924, 925, 926, 927, 928, 929, 930, 931, 932, 988, 989, 990, 991, 992, 993, 994, 976, 977, 978, 979, 980, 981, 982, 983, 984, 985, 986, 987] (by decide +kernel) (by decide +kernel)
set_option maxRecDepth 20000 in
theorem gL_law_X5_wind : GoodIn wsL_law (wsV RL 40 RX5 yX5_wind wsX5_wind) := goodIn_app (goodIn_of _ (by decide +kernel)) ggL_law_X5_wind
set_option maxRecDepth 20000 in
theorem ggL_law_X6_wind : GoodIn wsL_law wsX6_wind := goodIn_r _ [420, 135, 226, 421, 104, 138, 139, 5, 140, 422, 423, 424, 425, 230, 103, 933, 934, 935, 936, 937, 938, 939, 940, 941, 942, 943, 944, 945, 946, 947, 948, 949, 950, 951, 952, 953, 954, 955, 956, 957, 958, 959, 960, 961, 962, 963, 964, 965, 966, 967, 968, 969, 970] (by decide +kernel) (by decide +kernel)
set_option maxRecDepth 20000 in
theorem gL_law_X6_wind : GoodIn wsL_law (wsV RL 43 RX6 yX6_wind wsX6_wind) := goodIn_app (goodIn_of _ (by decide +kernel)) ggL_law_X6_wind
set_option maxRecDepth 20000 in
theorem ggL_law_X5_hour : GoodIn wsL_law wsX5_hour := goodIn_r _ [429, 29, 24, 19, 289, 430, 431, 432, 2, 433, 121, 411, 286, 434, 123, 124, 125, 126, 412, 165, 166, 18, 167, 59, 435, 436, 437, 28, 438, 75, 76, 77, 439, 440, 441, 442, 443, 444, 445, 23, 446, 65, 447, 448, 449, 450, 66, 67, 68, 69, 70, 71, 451, 452, 453, 454, 209, 455, 456, 457, 414, 415, 416, 61, 57, 302, 303, 458, 459, 460, 461, 462, 463, 464, 465, 466, 467, 468, 469, 326, 327, 328, 329, 330, 331, 922, 923, 924, 925, 926, 927, 928, 929, 930, 931, 932, 988, 989, 990, 991, 992, 993, 994, 976, 977, 978, 979, 980, 981, 982, 983, 984, 985, 986, 987, 995, 996, 997] (by decide +kernel) (by decide +kernel)
set_option maxRecDepth 20000 in
theorem gL_law_X5_hour : GoodIn wsL_law (wsV RL 44 RX5 yX5_hour wsX5_hour) := goodIn_app (goodIn_of _ (by decide +kernel)) ggL_law_X5_hour
set_option maxRecDepth 20000 in
theorem ggL_law_X6_hour : GoodIn wsL_law wsX6_hour := goodIn_r _ [473, 104, 474, 475, 476, 5, 477, 135, 226, 421, 478, 137, 138, 139, 140, 479, 480, 481, 482, 106, 483, 231, 484, 485, 486, 487, 228, 101, 422, 423, 424, 425, 230, 103, 340, 341, 342, 488, 489, 490, 491, 100, 933, 934, 935, 936, 937, 938, 939, 940, 941, 942, 943, 944, 945, 946, 947, 948, 949, 950, 951, 952, 953, 954, 955, 956, 957, 958, 959, 960, 961, 962, 963, 964, 965, 966, 967, 968, 969, 970] (by decide +kernel) (by decide +kernel)
set_option maxRecDepth 20000 in
theorem gL_law_X6_hour : GoodIn wsL_law (wsV RL 47 RX6 yX6_hour wsX6_hour) := goodIn_app (goodIn_of _ (by decide +kernel)) ggL_law_X6_hour
set_option maxRecDepth 20000 in
theorem ggL_law_X5_undoLink : GoodIn wsL_law wsX5_undoLink := goodIn_r _ [495, 19, 367, 24, 289, 411, 29, 376, 377, 378, 18, 379, 60, 312, 302, 2, 303, 435, 436, 437, 28, 438, 75, 76, 77, 439, 440, 441, 442, 443, 444, 445, 23, 446, 65, 447, 448, 449, 450, 66, 67, 68, 69, 70, 71, 496, 326, 327, 328, 329, 330, 331, 922, 923, 924, 925, 926, 927, 928, 929, 930, 931, 932, 988, 989, 990, 991, 992, 993, 994, 976, 977, 978, 979, 980, 981, 982, 983, 984, 985, 986, 987, 995, 996, 997] (by decide +kernel) (by decide +kernel)
set_option maxRecDepth 20000 in
theorem gL_law_X5_undoLink : GoodIn wsL_law (wsV RL 48 RX5 yX5_undoLink wsX5_undoLink) := goodIn_app (goodIn_of _ (by decide +kernel)) ggL_law_X5_undoLink
set_option maxRecDepth 20000 in
theorem ggL_law_X6_undoLink : GoodIn wsL_law wsX6_undoLink := goodIn_r _ [500, 384, 104, 421, 385, 386, 387, 5, 388, 228, 138, 139, 140, 340, 341, 342, 479, 480, 481, 482, 106, 483, 231, 501, 502, 503, 933, 934, 935, 936, 937, 938, 939, 940, 941, 942, 943, 944, 945, 946, 947, 948, 949, 950, 951, 952, 953, 954, 955, 956, 957, 958, 959, 960, 961, 962, 963, 964, 965, 966, 967, 968, 969, 970] (by decide +kernel) (by decide +kernel)
set_option maxRecDepth 20000 in
theorem gL_law_X6_undoLink : GoodIn wsL_law (wsV RL 51 RX6 yX6_undoLink wsX6_undoLink) := goodIn_app (goodIn_of _ (by decide +kernel)) ggL_law_X6_undoLink
