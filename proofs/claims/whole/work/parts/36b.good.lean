set_option maxRecDepth 20000 in
theorem ggL_law_X5_doUp : GoodIn wsL_law wsX5_doUp := goodIn_r _ [507, 19, 367, 24, 411, 29, 289, 376, 377, 378, 18, 379, 60, 508, 509, 510, 23, 511, 66, 302, 2, 303, 464, 465, 466, 467, 468, 65, 435, 436, 437, 28, 438, 75, 76, 77, 439, 440, 441, 442, 443, 444, 445, 446, 447, 448, 449, 450, 67, 68, 69, 70, 71, 496, 326, 327, 328, 329, 330, 331, 922, 923, 924, 925, 926, 927, 928, 929, 930, 931, 932, 988, 989, 990, 991, 992, 993, 994, 976, 977, 978, 979, 980, 981, 982, 983, 984, 985, 986, 987, 995, 996, 997] (by decide +kernel) (by decide +kernel)
set_option maxRecDepth 20000 in
theorem gL_law_X5_doUp : GoodIn wsL_law (wsV RL 52 RX5 yX5_doUp wsX5_doUp) := goodIn_app (goodIn_of _ (by decide +kernel)) ggL_law_X5_doUp
set_option maxRecDepth 20000 in
theorem ggL_law_X6_doUp : GoodIn wsL_law wsX6_doUp := goodIn_r _ [515, 384, 421, 104, 385, 386, 387, 5, 388, 228, 138, 139, 140, 516, 517, 518, 519, 101, 340, 341, 342, 479, 480, 481, 482, 106, 483, 231, 501, 502, 503, 933, 934, 935, 936, 937, 938, 939, 940, 941, 942, 943, 944, 945, 946, 947, 948, 949, 950, 951, 952, 953, 954, 955, 956, 957, 958, 959, 960, 961, 962, 963, 964, 965, 966, 967, 968, 969, 970] (by decide +kernel) (by decide +kernel)
set_option maxRecDepth 20000 in
theorem gL_law_X6_doUp : GoodIn wsL_law (wsV RL 55 RX6 yX6_doUp wsX6_doUp) := goodIn_app (goodIn_of _ (by decide +kernel)) ggL_law_X6_doUp
set_option maxRecDepth 20000 in
theorem ggL_law_X5_turn : GoodIn wsL_law wsX5_turn := goodIn_r _ [523, 19, 367, 29, 24, 290, 376, 377, 378, 18, 379, 60, 435, 436, 437, 28, 438, 75, 76, 77, 439, 440, 441, 442, 443, 444, 445, 23, 446, 65, 447, 448, 449, 450, 66, 67, 68, 69, 70, 71, 312, 302, 2, 303, 922, 923, 924, 925, 926, 927, 928, 929, 930, 931, 932, 988, 989, 990, 991, 992, 993, 994, 976, 977, 978, 979, 980, 981, 982, 983, 984, 985, 986, 987, 995, 996, 997] (by decide +kernel) (by decide +kernel)
set_option maxRecDepth 20000 in
theorem gL_law_X5_turn : GoodIn wsL_law (wsV RL 56 RX5 yX5_turn wsX5_turn) := goodIn_app (goodIn_of _ (by decide +kernel)) ggL_law_X5_turn
set_option maxRecDepth 20000 in
theorem ggL_law_X6_turn : GoodIn wsL_law wsX6_turn := goodIn_r _ [527, 384, 104, 385, 386, 387, 5, 388, 228, 138, 139, 140, 479, 480, 481, 482, 106, 483, 231, 933, 934, 935, 936, 937, 938, 939, 940, 941, 942, 943, 944, 945, 946, 947, 948, 949, 950, 951, 952, 953, 954, 955, 956, 957, 958, 959, 960, 961, 962, 963, 964, 965, 966, 967, 968, 969, 970] (by decide +kernel) (by decide +kernel)
set_option maxRecDepth 20000 in
theorem gL_law_X6_turn : GoodIn wsL_law (wsV RL 59 RX6 yX6_turn wsX6_turn) := goodIn_app (goodIn_of _ (by decide +kernel)) ggL_law_X6_turn
set_option maxRecDepth 20000 in
theorem ggL_law_X5_mend : GoodIn wsL_law wsX5_mend := goodIn_r _ [531, 19, 367, 24, 287, 411, 29, 372, 376, 377, 378, 18, 379, 60, 435, 436, 437, 28, 438, 75, 76, 77, 439, 440, 441, 442, 443, 444, 445, 23, 446, 65, 447, 448, 449, 450, 66, 67, 68, 69, 70, 71, 922, 923, 924, 925, 926, 927, 928, 929, 930, 931, 932, 988, 989, 990, 991, 992, 993, 994, 976, 977, 978, 979, 980, 981, 982, 983, 984, 985, 986, 987, 995, 996, 997] (by decide +kernel) (by decide +kernel)
set_option maxRecDepth 20000 in
theorem gL_law_X5_mend : GoodIn wsL_law (wsV RL 60 RX5 yX5_mend wsX5_mend) := goodIn_app (goodIn_of _ (by decide +kernel)) ggL_law_X5_mend
set_option maxRecDepth 20000 in
theorem ggL_law_X6_mend : GoodIn wsL_law wsX6_mend := goodIn_r _ [535, 384, 104, 421, 385, 386, 387, 5, 388, 228, 138, 139, 140, 479, 480, 481, 482, 106, 483, 231, 933, 934, 935, 936, 937, 938, 939, 940, 941, 942, 943, 944, 945, 946, 947, 948, 949, 950, 951, 952, 953, 954, 955, 956, 957, 958, 959, 960, 961, 962, 963, 964, 965, 966, 967, 968, 969, 970] (by decide +kernel) (by decide +kernel)
set_option maxRecDepth 20000 in
theorem gL_law_X6_mend : GoodIn wsL_law (wsV RL 63 RX6 yX6_mend wsX6_mend) := goodIn_app (goodIn_of _ (by decide +kernel)) ggL_law_X6_mend
set_option maxRecDepth 20000 in
theorem ggL_law_X5_hold : GoodIn wsL_law wsX5_hold := goodIn_r _ [539, 19, 367, 370, 411, 24, 373, 29, 376, 377, 378, 18, 379, 60, 312, 302, 2, 303, 435, 436, 437, 28, 438, 75, 76, 77, 439, 440, 441, 442, 443, 444, 445, 23, 446, 65, 447, 448, 449, 450, 66, 67, 68, 69, 70, 71, 922, 923, 924, 925, 926, 927, 928, 929, 930, 931, 932, 976, 977, 978, 979, 980, 981, 982, 983, 984, 985, 986, 987, 988, 989, 990, 991, 992, 993, 994, 995, 996, 997] (by decide +kernel) (by decide +kernel)
set_option maxRecDepth 20000 in
theorem gL_law_X5_hold : GoodIn wsL_law (wsV RL 64 RX5 yX5_hold wsX5_hold) := goodIn_app (goodIn_of _ (by decide +kernel)) ggL_law_X5_hold
set_option maxRecDepth 20000 in
theorem ggL_law_X6_hold : GoodIn wsL_law wsX6_hold := goodIn_r _ [543, 384, 100, 421, 104, 385, 386, 387, 5, 388, 228, 138, 139, 140, 479, 480, 481, 482, 106, 483, 231, 933, 934, 935, 936, 937, 938, 939, 940, 941, 942, 943, 944, 945, 946, 947, 948, 949, 950, 951, 952, 953, 954, 955, 956, 957, 958, 959, 960, 961, 962, 963, 964, 965, 966, 967, 968, 969, 970] (by decide +kernel) (by decide +kernel)
set_option maxRecDepth 20000 in
theorem gL_law_X6_hold : GoodIn wsL_law (wsV RL 68 RX6 yX6_hold wsX6_hold) := goodIn_app (goodIn_of _ (by decide +kernel)) ggL_law_X6_hold
set_option maxRecDepth 20000 in
theorem ggL_law_X5_earn : GoodIn wsL_law wsX5_earn := goodIn_r _ [547, 121, 19, 411, 29, 24, 287, 548, 440, 441, 442, 124, 125, 2, 126, 412, 165, 166, 18, 167, 59, 435, 436, 437, 28, 438, 75, 76, 77, 439, 443, 444, 445, 23, 446, 65, 447, 448, 449, 450, 66, 67, 68, 69, 70, 71, 922, 923, 924, 925, 926, 927, 928, 929, 930, 931, 932, 988, 989, 990, 991, 992, 993, 994, 976, 977, 978, 979, 980, 981, 982, 983, 984, 985, 986, 987, 995, 996, 997] (by decide +kernel) (by decide +kernel)
set_option maxRecDepth 20000 in
theorem gL_law_X5_earn : GoodIn wsL_law (wsV RL 69 RX5 yX5_earn wsX5_earn) := goodIn_app (goodIn_of _ (by decide +kernel)) ggL_law_X5_earn
set_option maxRecDepth 20000 in
theorem ggL_law_X6_earn : GoodIn wsL_law wsX6_earn := goodIn_r _ [552, 135, 226, 421, 104, 138, 139, 5, 140, 479, 480, 481, 482, 106, 483, 231, 933, 934, 935, 936, 937, 938, 939, 940, 941, 942, 943, 944, 945, 946, 947, 948, 949, 950, 951, 952, 953, 954, 955, 956, 957, 958, 959, 960, 961, 962, 963, 964, 965, 966, 967, 968, 969, 970] (by decide +kernel) (by decide +kernel)
set_option maxRecDepth 20000 in
theorem gL_law_X6_earn : GoodIn wsL_law (wsV RL 72 RX6 yX6_earn wsX6_earn) := goodIn_app (goodIn_of _ (by decide +kernel)) ggL_law_X6_earn
set_option maxRecDepth 20000 in
theorem ggL_law_X5_drift : GoodIn wsL_law wsX5_drift := goodIn_r _ [556, 29, 24, 19, 145, 289, 430, 431, 432, 2, 433, 121, 411, 286, 434, 123, 124, 125, 126, 412, 165, 166, 18, 167, 59, 435, 436, 437, 28, 438, 75, 76, 77, 439, 440, 441, 442, 443, 444, 445, 23, 446, 65, 447, 448, 449, 450, 66, 67, 68, 69, 70, 71, 557, 558, 559, 560, 290, 561, 562, 563, 564, 38, 565, 566, 567, 568, 508, 509, 510, 511, 302, 303, 464, 465, 466, 467, 468, 451, 452, 453, 454, 209, 455, 456, 457, 414, 415, 416, 61, 57, 458, 459, 460, 461, 462, 463, 469, 326, 327, 328, 329, 330, 331, 922, 923, 924, 925, 926, 927, 928, 929, 930, 931, 932, 976, 977, 978, 979, 980, 981, 982, 983, 984, 985, 986, 987, 988, 989, 990, 991, 992, 993, 994, 995, 996, 997] (by decide +kernel) (by decide +kernel)
set_option maxRecDepth 20000 in
theorem gL_law_X5_drift : GoodIn wsL_law (wsV RL 73 RX5 yX5_drift wsX5_drift) := goodIn_app (goodIn_of _ (by decide +kernel)) ggL_law_X5_drift
set_option maxRecDepth 20000 in
theorem ggL_law_X6_drift : GoodIn wsL_law wsX6_drift := goodIn_r _ [572, 228, 104, 474, 475, 476, 5, 477, 135, 226, 421, 478, 137, 138, 139, 140, 479, 480, 481, 482, 106, 483, 231, 573, 574, 575, 576, 577, 578, 579, 580, 581, 582, 583, 584, 585, 516, 517, 518, 519, 101, 340, 341, 342, 484, 485, 486, 487, 422, 423, 424, 425, 230, 103, 488, 489, 490, 491, 100, 933, 934, 935, 936, 937, 938, 939, 940, 941, 942, 943, 944, 945, 946, 947, 948, 949, 950, 951, 952, 953, 954, 955, 956, 957, 958, 959, 960, 961, 962, 963, 964, 965, 966, 967, 968, 969, 970] (by decide +kernel) (by decide +kernel)
set_option maxRecDepth 20000 in
theorem gL_law_X6_drift : GoodIn wsL_law (wsV RL 76 RX6 yX6_drift wsX6_drift) := goodIn_app (goodIn_of _ (by decide +kernel)) ggL_law_X6_drift
set_option maxRecDepth 20000 in
theorem ggL_law_X5_undo : GoodIn wsL_law wsX5_undo := goodIn_r _ [589, 121, 29, 293, 411, 24, 286, 124, 125, 2, 126, 590, 591, 592, 28, 593, 76, 77, 75, 594, 595, 596, 23, 597, 65, 447, 448, 449, 450, 66, 67, 68, 69, 70, 71, 922, 923, 924, 925, 926, 927, 928, 929, 930, 931, 932, 995, 996, 997, 988, 989, 990, 991, 992, 993, 994] (by decide +kernel) (by decide +kernel)
set_option maxRecDepth 20000 in
theorem gL_law_X5_undo : GoodIn wsL_law (wsV RL 77 RX5 yX5_undo wsX5_undo) := goodIn_app (goodIn_of _ (by decide +kernel)) ggL_law_X5_undo
set_option maxRecDepth 20000 in
theorem ggL_law_X6_undo : GoodIn wsL_law wsX6_undo := goodIn_r _ [601, 135, 231, 421, 483, 104, 106, 138, 139, 5, 140, 933, 934, 935, 936, 937, 938, 939, 940, 941, 942, 943, 944, 945, 946, 947, 948, 949, 950, 951, 952, 953, 954, 955, 956, 957, 958, 959, 960, 961, 962, 963, 964, 965, 966, 967, 968, 969, 970] (by decide +kernel) (by decide +kernel)
set_option maxRecDepth 20000 in
theorem gL_law_X6_undo : GoodIn wsL_law (wsV RL 80 RX6 yX6_undo wsX6_undo) := goodIn_app (goodIn_of _ (by decide +kernel)) ggL_law_X6_undo
set_option maxRecDepth 20000 in
theorem ggL_law_X5_lasts : GoodIn wsL_law wsX5_lasts := goodIn_r _ [605, 19, 367, 376, 377, 378, 18, 379, 60, 606, 607, 608, 2, 609, 25, 24, 610, 611, 612, 23, 613, 65, 447, 448, 449, 450, 66, 67, 68, 69, 70, 71, 451, 452, 453, 454, 209, 455, 456, 440, 441, 442, 457, 414, 415, 416, 61, 57, 302, 303, 458, 459, 460, 461, 462, 463, 464, 465, 466, 467, 468, 469, 326, 327, 328, 329, 330, 331, 922, 923, 924, 925, 926, 927, 928, 929, 930, 931, 932, 976, 977, 978, 979, 980, 981, 982, 983, 984, 985, 986, 987, 988, 989, 990, 991, 992, 993, 994] (by decide +kernel) (by decide +kernel)
set_option maxRecDepth 20000 in
theorem gL_law_X5_lasts : GoodIn wsL_law (wsV RL 81 RX5 yX5_lasts wsX5_lasts) := goodIn_app (goodIn_of _ (by decide +kernel)) ggL_law_X5_lasts
set_option maxRecDepth 20000 in
theorem ggL_law_X6_lasts : GoodIn wsL_law wsX6_lasts := goodIn_r _ [617, 384, 104, 105, 385, 386, 387, 5, 388, 228, 138, 139, 140, 618, 619, 620, 621, 340, 341, 342, 484, 485, 486, 487, 101, 422, 423, 424, 425, 230, 103, 488, 489, 490, 491, 100, 933, 934, 935, 936, 937, 938, 939, 940, 941, 942, 943, 944, 945, 946, 947, 948, 949, 950, 951, 952, 953, 954, 955, 956, 957, 958, 959, 960, 961, 962, 963, 964, 965, 966, 967, 968, 969, 970] (by decide +kernel) (by decide +kernel)
set_option maxRecDepth 20000 in
theorem gL_law_X6_lasts : GoodIn wsL_law (wsV RL 84 RX6 yX6_lasts wsX6_lasts) := goodIn_app (goodIn_of _ (by decide +kernel)) ggL_law_X6_lasts
set_option maxRecDepth 20000 in
theorem ggL_law_X5_first : GoodIn wsL_law wsX5_first := goodIn_r _ [625, 121, 24, 289, 124, 125, 2, 126, 606, 607, 608, 609, 25, 19, 610, 611, 612, 23, 613, 65, 447, 448, 449, 450, 66, 67, 68, 69, 70, 71, 451, 452, 453, 454, 209, 455, 456, 440, 441, 442, 457, 414, 415, 18, 416, 61, 57, 302, 303, 458, 459, 460, 461, 462, 463, 464, 465, 466, 467, 468, 469, 326, 327, 328, 329, 330, 331, 626, 627, 628, 629, 630, 631, 632, 633, 634, 635, 636, 637, 638, 639, 640, 922, 923, 924, 925, 926, 927, 928, 929, 930, 931, 932, 988, 989, 990, 991, 992, 993, 994, 976, 977, 978, 979, 980, 981, 982, 983, 984, 985, 986, 987] (by decide +kernel) (by decide +kernel)
set_option maxRecDepth 20000 in
theorem gL_law_X5_first : GoodIn wsL_law (wsV RL 85 RX5 yX5_first wsX5_first) := goodIn_app (goodIn_of _ (by decide +kernel)) ggL_law_X5_first
set_option maxRecDepth 20000 in
theorem ggL_law_X6_first : GoodIn wsL_law wsX6_first := goodIn_r _ [644, 135, 105, 138, 139, 5, 140, 618, 619, 620, 621, 104, 484, 485, 486, 487, 228, 101, 422, 423, 424, 425, 230, 103, 340, 341, 342, 488, 489, 490, 491, 100, 933, 934, 935, 936, 937, 938, 939, 940, 941, 942, 943, 944, 945, 946, 947, 948, 949, 950, 951, 952, 953, 954, 955, 956, 957, 958, 959, 960, 961, 962, 963, 964, 965, 966, 967, 968, 969, 970] (by decide +kernel) (by decide +kernel)
set_option maxRecDepth 20000 in
theorem gL_law_X6_first : GoodIn wsL_law (wsV RL 88 RX6 yX6_first wsX6_first) := goodIn_app (goodIn_of _ (by decide +kernel)) ggL_law_X6_first
set_option maxRecDepth 20000 in
theorem ggL_law_X5_still : GoodIn wsL_law wsX5_still := goodIn_r _ [648, 121, 124, 125, 2, 126, 626, 627, 628, 629, 25, 24, 610, 611, 612, 23, 613, 65, 447, 448, 449, 450, 66, 67, 68, 69, 70, 71, 630, 631, 632, 633, 19, 289, 451, 452, 453, 454, 209, 455, 456, 440, 441, 442, 457, 414, 415, 18, 416, 61, 57, 302, 303, 458, 459, 460, 461, 462, 463, 464, 465, 466, 467, 468, 469, 326, 327, 328, 329, 330, 331, 922, 923, 924, 925, 926, 927, 928, 929, 930, 931, 932, 988, 989, 990, 991, 992, 993, 994, 976, 977, 978, 979, 980, 981, 982, 983, 984, 985, 986, 987] (by decide +kernel) (by decide +kernel)
set_option maxRecDepth 20000 in
theorem gL_law_X5_still : GoodIn wsL_law (wsV RL 89 RX5 yX5_still wsX5_still) := goodIn_app (goodIn_of _ (by decide +kernel)) ggL_law_X5_still
set_option maxRecDepth 20000 in
theorem ggL_law_X6_still : GoodIn wsL_law wsX6_still := goodIn_r _ [652, 135, 138, 139, 5, 140, 653, 654, 655, 656, 105, 618, 619, 620, 621, 104, 484, 485, 486, 487, 228, 101, 422, 423, 424, 425, 230, 103, 340, 341, 342, 488, 489, 490, 491, 100, 933, 934, 935, 936, 937, 938, 939, 940, 941, 942, 943, 944, 945, 946, 947, 948, 949, 950, 951, 952, 953, 954, 955, 956, 957, 958, 959, 960, 961, 962, 963, 964, 965, 966, 967, 968, 969, 970] (by decide +kernel) (by decide +kernel)
set_option maxRecDepth 20000 in
theorem gL_law_X6_still : GoodIn wsL_law (wsV RL 92 RX6 yX6_still wsX6_still) := goodIn_app (goodIn_of _ (by decide +kernel)) ggL_law_X6_still
