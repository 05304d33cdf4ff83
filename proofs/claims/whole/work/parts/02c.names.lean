set_option maxRecDepth 20000 in
theorem gX4_tell_X4_readClause : GoodIn wsX4_tell (wsV RX4 36 RX4 yX4_readClause wsX4_readClause) := goodIn_app (goodIn_of _ (by decide +kernel)) ggX4_tell_X4_readClause
theorem dX4_tell_0 : decode cX4_tell 0 = .ok (.aload_n 1, 1) := by decide +kernel
theorem dX4_tell_1 : decode cX4_tell 1 = .ok (.invokevirtual 28, 3) := by decide +kernel
theorem dX4_tell_4 : decode cX4_tell 4 = .ok (.aload_n 0, 1) := by decide +kernel
theorem dX4_tell_5 : decode cX4_tell 5 = .ok (.iconst 0, 1) := by decide +kernel
theorem dX4_tell_6 : decode cX4_tell 6 = .ok (.putfield 19, 3) := by decide +kernel
theorem dX4_tell_9 : decode cX4_tell 9 = .ok (.aload_n 0, 1) := by decide +kernel
theorem dX4_tell_10 : decode cX4_tell 10 = .ok (.iconst 0, 1) := by decide +kernel
theorem dX4_tell_11 : decode cX4_tell 11 = .ok (.putfield 22, 3) := by decide +kernel
theorem dX4_tell_14 : decode cX4_tell 14 = .ok (.aload_n 0, 1) := by decide +kernel
theorem dX4_tell_15 : decode cX4_tell 15 = .ok (.iconst (-1), 1) := by decide +kernel
theorem dX4_tell_16 : decode cX4_tell 16 = .ok (.putfield 25, 3) := by decide +kernel
theorem dX4_tell_19 : decode cX4_tell 19 = .ok (.iconst 0, 1) := by decide +kernel
theorem dX4_tell_20 : decode cX4_tell 20 = .ok (.istore_n 2, 1) := by decide +kernel
theorem dX4_tell_21 : decode cX4_tell 21 = .ok (.iload_n 2, 1) := by decide +kernel
theorem dX4_tell_22 : decode cX4_tell 22 = .ok (.sipush 240, 3) := by decide +kernel
theorem dX4_tell_25 : decode cX4_tell 25 = .ok (.if_icmp .ge 39, 3) := by decide +kernel
theorem dX4_tell_28 : decode cX4_tell 28 = .ok (.aload_n 0, 1) := by decide +kernel
theorem dX4_tell_29 : decode cX4_tell 29 = .ok (.getfield 22, 3) := by decide +kernel
theorem dX4_tell_32 : decode cX4_tell 32 = .ok (.ifCond .ne 32, 3) := by decide +kernel
theorem dX4_tell_35 : decode cX4_tell 35 = .ok (.aload_n 0, 1) := by decide +kernel
theorem dX4_tell_36 : decode cX4_tell 36 = .ok (.invokevirtual 33, 3) := by decide +kernel
theorem dX4_tell_39 : decode cX4_tell 39 = .ok (.aload_n 0, 1) := by decide +kernel
theorem dX4_tell_40 : decode cX4_tell 40 = .ok (.getfield 19, 3) := by decide +kernel
theorem dX4_tell_43 : decode cX4_tell 43 = .ok (.aload_n 0, 1) := by decide +kernel
theorem dX4_tell_44 : decode cX4_tell 44 = .ok (.getfield 15, 3) := by decide +kernel
theorem dX4_tell_47 : decode cX4_tell 47 = .ok (.if_icmp .lt 6, 3) := by decide +kernel
theorem dX4_tell_50 : decode cX4_tell 50 = .ok (.goto 14, 3) := by decide +kernel
theorem dX4_tell_53 : decode cX4_tell 53 = .ok (.aload_n 0, 1) := by decide +kernel
theorem dX4_tell_54 : decode cX4_tell 54 = .ok (.aload_n 1, 1) := by decide +kernel
theorem dX4_tell_55 : decode cX4_tell 55 = .ok (.invokevirtual 36, 3) := by decide +kernel
theorem dX4_tell_58 : decode cX4_tell 58 = .ok (.iinc 2 1, 3) := by decide +kernel
theorem dX4_tell_61 : decode cX4_tell 61 = .ok (.goto (-40), 3) := by decide +kernel
theorem dX4_tell_64 : decode cX4_tell 64 = .ok (.aload_n 0, 1) := by decide +kernel
theorem dX4_tell_65 : decode cX4_tell 65 = .ok (.iconst 0, 1) := by decide +kernel
theorem dX4_tell_66 : decode cX4_tell 66 = .ok (.putfield 15, 3) := by decide +kernel
theorem dX4_tell_69 : decode cX4_tell 69 = .ok (.aload_n 0, 1) := by decide +kernel
theorem dX4_tell_70 : decode cX4_tell 70 = .ok (.getfield 22, 3) := by decide +kernel
theorem dX4_tell_73 : decode cX4_tell 73 = .ok (.ireturn, 1) := by decide +kernel
set_option maxRecDepth 20000 in
theorem ggX4_readClause_X1_isThere : GoodIn wsX4_readClause wsX1_isThere := goodIn_r _ [9, 10, 64, 65, 66, 67, 68, 69, 70, 71, 72, 73, 74, 75] (by decide +kernel) (by decide +kernel)
set_option maxRecDepth 20000 in
theorem gX4_readClause_X1_isThere : GoodIn wsX4_readClause (wsV RX4 40 RX1 yX1_isThere wsX1_isThere) := goodIn_app (goodIn_of _ (by decide +kernel)) ggX4_readClause_X1_isThere
set_option maxRecDepth 20000 in
theorem ggX4_readClause_X4_readIslands : GoodIn wsX4_readClause wsX4_readIslands := goodIn_r _ [15, 16, 17, 18, 19, 20, 14, 21, 1, 22, 2, 23, 24, 25, 26, 27, 28, 29, 30, 31, 32, 33, 34, 35, 36, 37, 38, 39, 40, 41, 42, 59, 60, 61, 62, 63, 64, 65, 66, 67, 68, 69, 70, 71, 72, 73, 74, 75] (by decide +kernel) (by decide +kernel)
set_option maxRecDepth 20000 in
theorem gX4_readClause_X4_readIslands : GoodIn wsX4_readClause (wsV RX4 44 RX4 yX4_readIslands wsX4_readIslands) := goodIn_app (goodIn_of _ (by decide +kernel)) ggX4_readClause_X4_readIslands
set_option maxRecDepth 20000 in
theorem ggX4_readClause_X4_fail : GoodIn wsX4_readClause wsX4_fail := goodIn_r _ [30, 16, 31, 59, 60, 61, 62, 63] (by decide +kernel) (by decide +kernel)
set_option maxRecDepth 20000 in
theorem gX4_readClause_X4_fail : GoodIn wsX4_readClause (wsV RX4 47 RX4 yX4_fail wsX4_fail) := goodIn_app (goodIn_of _ (by decide +kernel)) ggX4_readClause_X4_fail
set_option maxRecDepth 20000 in
theorem ggX4_readClause_X4_readLink : GoodIn wsX4_readClause wsX4_readLink := goodIn_r _ [46, 17, 1, 16, 3, 47, 48, 49, 50, 51, 52, 53, 18, 19, 20, 14, 21, 22, 2, 23, 24, 25, 26, 27, 28, 29, 30, 31, 32, 33, 34, 35, 36, 37, 38, 39, 40, 41, 42, 64, 65, 66, 67, 68, 69, 70, 71, 72, 73, 74, 75, 59, 60, 61, 62, 63] (by decide +kernel) (by decide +kernel)
set_option maxRecDepth 20000 in
theorem gX4_readClause_X4_readLink : GoodIn wsX4_readClause (wsV RX4 54 RX4 yX4_readLink wsX4_readLink) := goodIn_app (goodIn_of _ (by decide +kernel)) ggX4_readClause_X4_readLink
set_option maxRecDepth 20000 in
theorem ggX4_readClause_X4_readWinds : GoodIn wsX4_readClause wsX4_readWinds := goodIn_r _ [57, 58, 4, 18, 19, 20, 14, 21, 1, 22, 2, 23, 24, 25, 26, 27, 28, 29, 30, 16, 31, 32, 33, 34, 39, 40, 41, 42, 35, 36, 37, 38, 64, 65, 66, 67, 68, 69, 70, 71, 72, 73, 74, 75, 59, 60, 61, 62, 63] (by decide +kernel) (by decide +kernel)
set_option maxRecDepth 20000 in
theorem gX4_readClause_X4_readWinds : GoodIn wsX4_readClause (wsV RX4 60 RX4 yX4_readWinds wsX4_readWinds) := goodIn_app (goodIn_of _ (by decide +kernel)) ggX4_readClause_X4_readWinds
theorem dX4_readClause_0 : decode cX4_readClause 0 = .ok (.aload_n 0, 1) := by decide +kernel
theorem dX4_readClause_1 : decode cX4_readClause 1 = .ok (.getfield 19, 3) := by decide +kernel
theorem dX4_readClause_4 : decode cX4_readClause 4 = .ok (.istore_n 2, 1) := by decide +kernel
theorem dX4_readClause_5 : decode cX4_readClause 5 = .ok (.aload_n 0, 1) := by decide +kernel
theorem dX4_readClause_6 : decode cX4_readClause 6 = .ok (.getfield 9, 3) := by decide +kernel
theorem dX4_readClause_9 : decode cX4_readClause 9 = .ok (.aload_n 0, 1) := by decide +kernel
theorem dX4_readClause_10 : decode cX4_readClause 10 = .ok (.getfield 19, 3) := by decide +kernel
theorem dX4_readClause_13 : decode cX4_readClause 13 = .ok (.iaload, 1) := by decide +kernel
theorem dX4_readClause_14 : decode cX4_readClause 14 = .ok (.istore_n 3, 1) := by decide +kernel
theorem dX4_readClause_15 : decode cX4_readClause 15 = .ok (.aload_n 0, 1) := by decide +kernel
theorem dX4_readClause_16 : decode cX4_readClause 16 = .ok (.dup, 1) := by decide +kernel
theorem dX4_readClause_17 : decode cX4_readClause 17 = .ok (.getfield 19, 3) := by decide +kernel
theorem dX4_readClause_20 : decode cX4_readClause 20 = .ok (.iconst 1, 1) := by decide +kernel
theorem dX4_readClause_21 : decode cX4_readClause 21 = .ok (.iadd, 1) := by decide +kernel
theorem dX4_readClause_22 : decode cX4_readClause 22 = .ok (.putfield 19, 3) := by decide +kernel
theorem dX4_readClause_25 : decode cX4_readClause 25 = .ok (.aload_n 1, 1) := by decide +kernel
theorem dX4_readClause_26 : decode cX4_readClause 26 = .ok (.invokevirtual 40, 3) := by decide +kernel
theorem dX4_readClause_29 : decode cX4_readClause 29 = .ok (.ifCond .ne 26, 3) := by decide +kernel
theorem dX4_readClause_32 : decode cX4_readClause 32 = .ok (.iload_n 3, 1) := by decide +kernel
theorem dX4_readClause_33 : decode cX4_readClause 33 = .ok (.bipush 115, 2) := by decide +kernel
theorem dX4_readClause_35 : decode cX4_readClause 35 = .ok (.if_icmp .ne 11, 3) := by decide +kernel
theorem dX4_readClause_38 : decode cX4_readClause 38 = .ok (.aload_n 0, 1) := by decide +kernel
theorem dX4_readClause_39 : decode cX4_readClause 39 = .ok (.aload_n 1, 1) := by decide +kernel
theorem dX4_readClause_40 : decode cX4_readClause 40 = .ok (.invokevirtual 44, 3) := by decide +kernel
theorem dX4_readClause_43 : decode cX4_readClause 43 = .ok (.goto 84, 3) := by decide +kernel
theorem dX4_readClause_46 : decode cX4_readClause 46 = .ok (.aload_n 0, 1) := by decide +kernel
theorem dX4_readClause_47 : decode cX4_readClause 47 = .ok (.iconst 1, 1) := by decide +kernel
theorem dX4_readClause_48 : decode cX4_readClause 48 = .ok (.iload_n 2, 1) := by decide +kernel
theorem dX4_readClause_49 : decode cX4_readClause 49 = .ok (.invokevirtual 47, 3) := by decide +kernel
theorem dX4_readClause_52 : decode cX4_readClause 52 = .ok (.goto 75, 3) := by decide +kernel
theorem dX4_readClause_55 : decode cX4_readClause 55 = .ok (.iload_n 3, 1) := by decide +kernel
theorem dX4_readClause_56 : decode cX4_readClause 56 = .ok (.bipush 108, 2) := by decide +kernel
theorem dX4_readClause_58 : decode cX4_readClause 58 = .ok (.if_icmp .ne 20, 3) := by decide +kernel
theorem dX4_readClause_61 : decode cX4_readClause 61 = .ok (.aload_n 1, 1) := by decide +kernel
theorem dX4_readClause_62 : decode cX4_readClause 62 = .ok (.getfield 51, 3) := by decide +kernel
theorem dX4_readClause_65 : decode cX4_readClause 65 = .ok (.bipush 10, 2) := by decide +kernel
theorem dX4_readClause_67 : decode cX4_readClause 67 = .ok (.if_icmp .ge 11, 3) := by decide +kernel
theorem dX4_readClause_70 : decode cX4_readClause 70 = .ok (.aload_n 0, 1) := by decide +kernel
theorem dX4_readClause_71 : decode cX4_readClause 71 = .ok (.aload_n 1, 1) := by decide +kernel
theorem dX4_readClause_72 : decode cX4_readClause 72 = .ok (.invokevirtual 54, 3) := by decide +kernel
theorem dX4_readClause_75 : decode cX4_readClause 75 = .ok (.goto 52, 3) := by decide +kernel
theorem dX4_readClause_78 : decode cX4_readClause 78 = .ok (.iload_n 3, 1) := by decide +kernel
theorem dX4_readClause_79 : decode cX4_readClause 79 = .ok (.bipush 119, 2) := by decide +kernel
theorem dX4_readClause_81 : decode cX4_readClause 81 = .ok (.if_icmp .ne 18, 3) := by decide +kernel
theorem dX4_readClause_84 : decode cX4_readClause 84 = .ok (.aload_n 1, 1) := by decide +kernel
theorem dX4_readClause_85 : decode cX4_readClause 85 = .ok (.getfield 57, 3) := by decide +kernel
theorem dX4_readClause_88 : decode cX4_readClause 88 = .ok (.ifCond .ne 11, 3) := by decide +kernel
theorem dX4_readClause_91 : decode cX4_readClause 91 = .ok (.aload_n 0, 1) := by decide +kernel
theorem dX4_readClause_92 : decode cX4_readClause 92 = .ok (.aload_n 1, 1) := by decide +kernel
theorem dX4_readClause_93 : decode cX4_readClause 93 = .ok (.invokevirtual 60, 3) := by decide +kernel
theorem dX4_readClause_96 : decode cX4_readClause 96 = .ok (.goto 31, 3) := by decide +kernel
theorem dX4_readClause_99 : decode cX4_readClause 99 = .ok (.aload_n 0, 1) := by decide +kernel
theorem dX4_readClause_100 : decode cX4_readClause 100 = .ok (.iload_n 3, 1) := by decide +kernel
theorem dX4_readClause_101 : decode cX4_readClause 101 = .ok (.bipush 115, 2) := by decide +kernel
theorem dX4_readClause_103 : decode cX4_readClause 103 = .ok (.if_icmp .eq 15, 3) := by decide +kernel
theorem dX4_readClause_106 : decode cX4_readClause 106 = .ok (.iload_n 3, 1) := by decide +kernel
theorem dX4_readClause_107 : decode cX4_readClause 107 = .ok (.bipush 108, 2) := by decide +kernel
theorem dX4_readClause_109 : decode cX4_readClause 109 = .ok (.if_icmp .eq 9, 3) := by decide +kernel
theorem dX4_readClause_112 : decode cX4_readClause 112 = .ok (.iload_n 3, 1) := by decide +kernel
theorem dX4_readClause_113 : decode cX4_readClause 113 = .ok (.bipush 119, 2) := by decide +kernel
theorem dX4_readClause_115 : decode cX4_readClause 115 = .ok (.if_icmp .ne 7, 3) := by decide +kernel
theorem dX4_readClause_118 : decode cX4_readClause 118 = .ok (.iconst 3, 1) := by decide +kernel
theorem dX4_readClause_119 : decode cX4_readClause 119 = .ok (.goto 4, 3) := by decide +kernel
theorem dX4_readClause_122 : decode cX4_readClause 122 = .ok (.iconst 1, 1) := by decide +kernel
theorem dX4_readClause_123 : decode cX4_readClause 123 = .ok (.iload_n 2, 1) := by decide +kernel
theorem dX4_readClause_124 : decode cX4_readClause 124 = .ok (.invokevirtual 47, 3) := by decide +kernel
theorem dX4_readClause_127 : decode cX4_readClause 127 = .ok (.return_, 1) := by decide +kernel
set_option maxRecDepth 20000 in
theorem ggX4_readIslands_X4_number : GoodIn wsX4_readIslands wsX4_number := goodIn_r _ [7, 8, 9, 10, 11, 12, 13, 6, 14, 15, 16, 17, 18, 1, 19, 20, 21, 22, 31, 32, 33, 34, 35] (by decide +kernel) (by decide +kernel)
set_option maxRecDepth 20000 in
theorem gX4_readIslands_X4_number : GoodIn wsX4_readIslands (wsV RX4 63 RX4 yX4_number wsX4_number) := goodIn_app (goodIn_of _ (by decide +kernel)) ggX4_readIslands_X4_number
set_option maxRecDepth 20000 in
theorem ggX4_readIslands_X4_expect : GoodIn wsX4_readIslands wsX4_expect := goodIn_r _ [26, 8, 27, 28, 29, 6, 30, 9, 10, 11, 12, 13, 14, 15, 16, 17, 18, 1, 19, 31, 32, 33, 34, 35] (by decide +kernel) (by decide +kernel)
set_option maxRecDepth 20000 in
theorem gX4_readIslands_X4_expect : GoodIn wsX4_readIslands (wsV RX4 67 RX4 yX4_expect wsX4_expect) := goodIn_app (goodIn_of _ (by decide +kernel)) ggX4_readIslands_X4_expect
theorem dX4_readIslands_0 : decode cX4_readIslands 0 = .ok (.aload_n 0, 1) := by decide +kernel
theorem dX4_readIslands_1 : decode cX4_readIslands 1 = .ok (.iconst 2, 1) := by decide +kernel
theorem dX4_readIslands_2 : decode cX4_readIslands 2 = .ok (.bipush 8, 2) := by decide +kernel
theorem dX4_readIslands_4 : decode cX4_readIslands 4 = .ok (.invokevirtual 63, 3) := by decide +kernel
theorem dX4_readIslands_7 : decode cX4_readIslands 7 = .ok (.istore_n 2, 1) := by decide +kernel
theorem dX4_readIslands_8 : decode cX4_readIslands 8 = .ok (.aload_n 0, 1) := by decide +kernel
theorem dX4_readIslands_9 : decode cX4_readIslands 9 = .ok (.bipush 59, 2) := by decide +kernel
theorem dX4_readIslands_11 : decode cX4_readIslands 11 = .ok (.invokevirtual 67, 3) := by decide +kernel
theorem dX4_readIslands_14 : decode cX4_readIslands 14 = .ok (.aload_n 0, 1) := by decide +kernel
theorem dX4_readIslands_15 : decode cX4_readIslands 15 = .ok (.getfield 22, 3) := by decide +kernel
theorem dX4_readIslands_18 : decode cX4_readIslands 18 = .ok (.ifCond .ne 8, 3) := by decide +kernel
theorem dX4_readIslands_21 : decode cX4_readIslands 21 = .ok (.aload_n 1, 1) := by decide +kernel
theorem dX4_readIslands_22 : decode cX4_readIslands 22 = .ok (.iload_n 2, 1) := by decide +kernel
theorem dX4_readIslands_23 : decode cX4_readIslands 23 = .ok (.putfield 71, 3) := by decide +kernel
theorem dX4_readIslands_26 : decode cX4_readIslands 26 = .ok (.return_, 1) := by decide +kernel
set_option maxRecDepth 20000 in
theorem ggX4_readLink_X4_number : GoodIn wsX4_readLink wsX4_number := goodIn_r _ [16, 2, 17, 18, 19, 20, 21, 15, 22, 23, 24, 25, 26, 3, 27, 28, 29, 30, 51, 52, 53, 54, 55] (by decide +kernel) (by decide +kernel)
set_option maxRecDepth 20000 in
theorem gX4_readLink_X4_number : GoodIn wsX4_readLink (wsV RX4 63 RX4 yX4_number wsX4_number) := goodIn_app (goodIn_of _ (by decide +kernel)) ggX4_readLink_X4_number
set_option maxRecDepth 20000 in
theorem ggX4_readLink_X4_skipBlanks : GoodIn wsX4_readLink wsX4_skipBlanks := goodIn_r _ [22, 2, 17, 18, 51, 52, 53, 54, 55] (by decide +kernel) (by decide +kernel)
set_option maxRecDepth 20000 in
theorem gX4_readLink_X4_skipBlanks : GoodIn wsX4_readLink (wsV RX4 33 RX4 yX4_skipBlanks wsX4_skipBlanks) := goodIn_app (goodIn_of _ (by decide +kernel)) ggX4_readLink_X4_skipBlanks
set_option maxRecDepth 20000 in
theorem ggX4_readLink_X4_fail : GoodIn wsX4_readLink wsX4_fail := goodIn_r _ [26, 3, 27, 51, 52, 53, 54, 55] (by decide +kernel) (by decide +kernel)
set_option maxRecDepth 20000 in
theorem gX4_readLink_X4_fail : GoodIn wsX4_readLink (wsV RX4 47 RX4 yX4_fail wsX4_fail) := goodIn_app (goodIn_of _ (by decide +kernel)) ggX4_readLink_X4_fail
set_option maxRecDepth 20000 in
theorem ggX4_readLink_X4_expect : GoodIn wsX4_readLink wsX4_expect := goodIn_r _ [34, 2, 35, 36, 37, 15, 38, 17, 18, 19, 20, 21, 22, 23, 24, 25, 26, 3, 27, 51, 52, 53, 54, 55] (by decide +kernel) (by decide +kernel)
set_option maxRecDepth 20000 in
theorem gX4_readLink_X4_expect : GoodIn wsX4_readLink (wsV RX4 67 RX4 yX4_expect wsX4_expect) := goodIn_app (goodIn_of _ (by decide +kernel)) ggX4_readLink_X4_expect
theorem dX4_readLink_0 : decode cX4_readLink 0 = .ok (.aload_n 0, 1) := by decide +kernel
theorem dX4_readLink_1 : decode cX4_readLink 1 = .ok (.iconst 0, 1) := by decide +kernel
theorem dX4_readLink_2 : decode cX4_readLink 2 = .ok (.aload_n 1, 1) := by decide +kernel
theorem dX4_readLink_3 : decode cX4_readLink 3 = .ok (.getfield 71, 3) := by decide +kernel
theorem dX4_readLink_6 : decode cX4_readLink 6 = .ok (.iconst 1, 1) := by decide +kernel
theorem dX4_readLink_7 : decode cX4_readLink 7 = .ok (.isub, 1) := by decide +kernel
theorem dX4_readLink_8 : decode cX4_readLink 8 = .ok (.invokevirtual 63, 3) := by decide +kernel
theorem dX4_readLink_11 : decode cX4_readLink 11 = .ok (.istore_n 2, 1) := by decide +kernel
theorem dX4_readLink_12 : decode cX4_readLink 12 = .ok (.aload_n 0, 1) := by decide +kernel
theorem dX4_readLink_13 : decode cX4_readLink 13 = .ok (.invokevirtual 33, 3) := by decide +kernel
theorem dX4_readLink_16 : decode cX4_readLink 16 = .ok (.aload_n 0, 1) := by decide +kernel
theorem dX4_readLink_17 : decode cX4_readLink 17 = .ok (.getfield 19, 3) := by decide +kernel
theorem dX4_readLink_20 : decode cX4_readLink 20 = .ok (.istore_n 3, 1) := by decide +kernel
theorem dX4_readLink_21 : decode cX4_readLink 21 = .ok (.aload_n 0, 1) := by decide +kernel
theorem dX4_readLink_22 : decode cX4_readLink 22 = .ok (.iconst 0, 1) := by decide +kernel
theorem dX4_readLink_23 : decode cX4_readLink 23 = .ok (.aload_n 1, 1) := by decide +kernel
theorem dX4_readLink_24 : decode cX4_readLink 24 = .ok (.getfield 71, 3) := by decide +kernel
theorem dX4_readLink_27 : decode cX4_readLink 27 = .ok (.iconst 1, 1) := by decide +kernel
theorem dX4_readLink_28 : decode cX4_readLink 28 = .ok (.isub, 1) := by decide +kernel
theorem dX4_readLink_29 : decode cX4_readLink 29 = .ok (.invokevirtual 63, 3) := by decide +kernel
theorem dX4_readLink_32 : decode cX4_readLink 32 = .ok (.istore 4, 2) := by decide +kernel
theorem dX4_readLink_34 : decode cX4_readLink 34 = .ok (.iload_n 2, 1) := by decide +kernel
theorem dX4_readLink_35 : decode cX4_readLink 35 = .ok (.iload 4, 2) := by decide +kernel
theorem dX4_readLink_37 : decode cX4_readLink 37 = .ok (.if_icmp .ne 9, 3) := by decide +kernel
theorem dX4_readLink_40 : decode cX4_readLink 40 = .ok (.aload_n 0, 1) := by decide +kernel
theorem dX4_readLink_41 : decode cX4_readLink 41 = .ok (.iconst 4, 1) := by decide +kernel
theorem dX4_readLink_42 : decode cX4_readLink 42 = .ok (.iload_n 3, 1) := by decide +kernel
theorem dX4_readLink_43 : decode cX4_readLink 43 = .ok (.invokevirtual 47, 3) := by decide +kernel
theorem dX4_readLink_46 : decode cX4_readLink 46 = .ok (.aload_n 0, 1) := by decide +kernel
theorem dX4_readLink_47 : decode cX4_readLink 47 = .ok (.iconst 0, 1) := by decide +kernel
theorem dX4_readLink_48 : decode cX4_readLink 48 = .ok (.iconst 3, 1) := by decide +kernel
theorem dX4_readLink_49 : decode cX4_readLink 49 = .ok (.invokevirtual 63, 3) := by decide +kernel
theorem dX4_readLink_52 : decode cX4_readLink 52 = .ok (.istore 5, 2) := by decide +kernel
theorem dX4_readLink_54 : decode cX4_readLink 54 = .ok (.aload_n 0, 1) := by decide +kernel
theorem dX4_readLink_55 : decode cX4_readLink 55 = .ok (.iconst 1, 1) := by decide +kernel
theorem dX4_readLink_56 : decode cX4_readLink 56 = .ok (.bipush 99, 2) := by decide +kernel
theorem dX4_readLink_58 : decode cX4_readLink 58 = .ok (.invokevirtual 63, 3) := by decide +kernel
theorem dX4_readLink_61 : decode cX4_readLink 61 = .ok (.istore 6, 2) := by decide +kernel
theorem dX4_readLink_63 : decode cX4_readLink 63 = .ok (.aload_n 0, 1) := by decide +kernel
theorem dX4_readLink_64 : decode cX4_readLink 64 = .ok (.iconst 0, 1) := by decide +kernel
theorem dX4_readLink_65 : decode cX4_readLink 65 = .ok (.bipush 9, 2) := by decide +kernel
theorem dX4_readLink_67 : decode cX4_readLink 67 = .ok (.invokevirtual 63, 3) := by decide +kernel
theorem dX4_readLink_70 : decode cX4_readLink 70 = .ok (.istore 7, 2) := by decide +kernel
theorem dX4_readLink_72 : decode cX4_readLink 72 = .ok (.aload_n 0, 1) := by decide +kernel
theorem dX4_readLink_73 : decode cX4_readLink 73 = .ok (.iconst 0, 1) := by decide +kernel
theorem dX4_readLink_74 : decode cX4_readLink 74 = .ok (.bipush 9, 2) := by decide +kernel
theorem dX4_readLink_76 : decode cX4_readLink 76 = .ok (.invokevirtual 63, 3) := by decide +kernel
theorem dX4_readLink_79 : decode cX4_readLink 79 = .ok (.istore 8, 2) := by decide +kernel
theorem dX4_readLink_81 : decode cX4_readLink 81 = .ok (.aload_n 0, 1) := by decide +kernel
theorem dX4_readLink_82 : decode cX4_readLink 82 = .ok (.bipush 59, 2) := by decide +kernel
theorem dX4_readLink_84 : decode cX4_readLink 84 = .ok (.invokevirtual 67, 3) := by decide +kernel
theorem dX4_readLink_87 : decode cX4_readLink 87 = .ok (.aload_n 0, 1) := by decide +kernel
theorem dX4_readLink_88 : decode cX4_readLink 88 = .ok (.getfield 22, 3) := by decide +kernel
theorem dX4_readLink_91 : decode cX4_readLink 91 = .ok (.ifCond .ne 87, 3) := by decide +kernel
theorem dX4_readLink_94 : decode cX4_readLink 94 = .ok (.aload_n 1, 1) := by decide +kernel
theorem dX4_readLink_95 : decode cX4_readLink 95 = .ok (.getfield 51, 3) := by decide +kernel
theorem dX4_readLink_98 : decode cX4_readLink 98 = .ok (.istore 9, 2) := by decide +kernel
theorem dX4_readLink_100 : decode cX4_readLink 100 = .ok (.aload_n 1, 1) := by decide +kernel
theorem dX4_readLink_101 : decode cX4_readLink 101 = .ok (.getfield 74, 3) := by decide +kernel
theorem dX4_readLink_104 : decode cX4_readLink 104 = .ok (.iload 9, 2) := by decide +kernel
theorem dX4_readLink_106 : decode cX4_readLink 106 = .ok (.iload_n 2, 1) := by decide +kernel
theorem dX4_readLink_107 : decode cX4_readLink 107 = .ok (.iastore, 1) := by decide +kernel
theorem dX4_readLink_108 : decode cX4_readLink 108 = .ok (.aload_n 1, 1) := by decide +kernel
theorem dX4_readLink_109 : decode cX4_readLink 109 = .ok (.getfield 77, 3) := by decide +kernel
theorem dX4_readLink_112 : decode cX4_readLink 112 = .ok (.iload 9, 2) := by decide +kernel
theorem dX4_readLink_114 : decode cX4_readLink 114 = .ok (.iload 4, 2) := by decide +kernel
theorem dX4_readLink_116 : decode cX4_readLink 116 = .ok (.iastore, 1) := by decide +kernel
theorem dX4_readLink_117 : decode cX4_readLink 117 = .ok (.aload_n 1, 1) := by decide +kernel
theorem dX4_readLink_118 : decode cX4_readLink 118 = .ok (.getfield 80, 3) := by decide +kernel
theorem dX4_readLink_121 : decode cX4_readLink 121 = .ok (.iload 9, 2) := by decide +kernel
theorem dX4_readLink_123 : decode cX4_readLink 123 = .ok (.iconst 1, 1) := by decide +kernel
theorem dX4_readLink_124 : decode cX4_readLink 124 = .ok (.iload_n 2, 1) := by decide +kernel
theorem dX4_readLink_125 : decode cX4_readLink 125 = .ok (.ishl, 1) := by decide +kernel
theorem dX4_readLink_126 : decode cX4_readLink 126 = .ok (.iconst 1, 1) := by decide +kernel
theorem dX4_readLink_127 : decode cX4_readLink 127 = .ok (.iload 4, 2) := by decide +kernel
theorem dX4_readLink_129 : decode cX4_readLink 129 = .ok (.ishl, 1) := by decide +kernel
theorem dX4_readLink_130 : decode cX4_readLink 130 = .ok (.ior, 1) := by decide +kernel
theorem dX4_readLink_131 : decode cX4_readLink 131 = .ok (.iastore, 1) := by decide +kernel
theorem dX4_readLink_132 : decode cX4_readLink 132 = .ok (.aload_n 1, 1) := by decide +kernel
theorem dX4_readLink_133 : decode cX4_readLink 133 = .ok (.getfield 83, 3) := by decide +kernel
theorem dX4_readLink_136 : decode cX4_readLink 136 = .ok (.iload 9, 2) := by decide +kernel
theorem dX4_readLink_138 : decode cX4_readLink 138 = .ok (.iload 5, 2) := by decide +kernel
theorem dX4_readLink_140 : decode cX4_readLink 140 = .ok (.iastore, 1) := by decide +kernel
theorem dX4_readLink_141 : decode cX4_readLink 141 = .ok (.aload_n 1, 1) := by decide +kernel
theorem dX4_readLink_142 : decode cX4_readLink 142 = .ok (.getfield 86, 3) := by decide +kernel
theorem dX4_readLink_145 : decode cX4_readLink 145 = .ok (.iload 9, 2) := by decide +kernel
theorem dX4_readLink_147 : decode cX4_readLink 147 = .ok (.iload 6, 2) := by decide +kernel
theorem dX4_readLink_149 : decode cX4_readLink 149 = .ok (.iastore, 1) := by decide +kernel
theorem dX4_readLink_150 : decode cX4_readLink 150 = .ok (.aload_n 1, 1) := by decide +kernel
theorem dX4_readLink_151 : decode cX4_readLink 151 = .ok (.getfield 89, 3) := by decide +kernel
theorem dX4_readLink_154 : decode cX4_readLink 154 = .ok (.iload 9, 2) := by decide +kernel
theorem dX4_readLink_156 : decode cX4_readLink 156 = .ok (.iload 7, 2) := by decide +kernel
theorem dX4_readLink_158 : decode cX4_readLink 158 = .ok (.iastore, 1) := by decide +kernel
theorem dX4_readLink_159 : decode cX4_readLink 159 = .ok (.aload_n 1, 1) := by decide +kernel
theorem dX4_readLink_160 : decode cX4_readLink 160 = .ok (.getfield 92, 3) := by decide +kernel
theorem dX4_readLink_163 : decode cX4_readLink 163 = .ok (.iload 9, 2) := by decide +kernel
theorem dX4_readLink_165 : decode cX4_readLink 165 = .ok (.iload 8, 2) := by decide +kernel
theorem dX4_readLink_167 : decode cX4_readLink 167 = .ok (.iastore, 1) := by decide +kernel
theorem dX4_readLink_168 : decode cX4_readLink 168 = .ok (.aload_n 1, 1) := by decide +kernel
theorem dX4_readLink_169 : decode cX4_readLink 169 = .ok (.dup, 1) := by decide +kernel
theorem dX4_readLink_170 : decode cX4_readLink 170 = .ok (.getfield 51, 3) := by decide +kernel
theorem dX4_readLink_173 : decode cX4_readLink 173 = .ok (.iconst 1, 1) := by decide +kernel
theorem dX4_readLink_174 : decode cX4_readLink 174 = .ok (.iadd, 1) := by decide +kernel
theorem dX4_readLink_175 : decode cX4_readLink 175 = .ok (.putfield 51, 3) := by decide +kernel
theorem dX4_readLink_178 : decode cX4_readLink 178 = .ok (.return_, 1) := by decide +kernel
set_option maxRecDepth 20000 in
theorem ggX4_readWinds_X4_number : GoodIn wsX4_readWinds wsX4_number := goodIn_r _ [7, 8, 9, 10, 11, 12, 13, 6, 14, 15, 16, 17, 18, 19, 20, 21, 22, 23, 44, 45, 46, 47, 48] (by decide +kernel) (by decide +kernel)
set_option maxRecDepth 20000 in
theorem gX4_readWinds_X4_number : GoodIn wsX4_readWinds (wsV RX4 63 RX4 yX4_number wsX4_number) := goodIn_app (goodIn_of _ (by decide +kernel)) ggX4_readWinds_X4_number
set_option maxRecDepth 20000 in
theorem ggX4_readWinds_X4_take : GoodIn wsX4_readWinds wsX4_take := goodIn_r _ [27, 8, 9, 10, 11, 12, 13, 6, 14, 44, 45, 46, 47, 48] (by decide +kernel) (by decide +kernel)
set_option maxRecDepth 20000 in
theorem gX4_readWinds_X4_take : GoodIn wsX4_readWinds (wsV RX4 98 RX4 yX4_take wsX4_take) := goodIn_app (goodIn_of _ (by decide +kernel)) ggX4_readWinds_X4_take
set_option maxRecDepth 20000 in
theorem ggX4_readWinds_X4_expect : GoodIn wsX4_readWinds wsX4_expect := goodIn_r _ [31, 8, 24, 25, 26, 6, 27, 9, 10, 11, 12, 13, 14, 15, 16, 17, 18, 19, 20, 44, 45, 46, 47, 48] (by decide +kernel) (by decide +kernel)
set_option maxRecDepth 20000 in
theorem gX4_readWinds_X4_expect : GoodIn wsX4_readWinds (wsV RX4 67 RX4 yX4_expect wsX4_expect) := goodIn_app (goodIn_of _ (by decide +kernel)) ggX4_readWinds_X4_expect
theorem dX4_readWinds_0 : decode cX4_readWinds 0 = .ok (.iconst 1, 1) := by decide +kernel
theorem dX4_readWinds_1 : decode cX4_readWinds 1 = .ok (.istore_n 2, 1) := by decide +kernel
theorem dX4_readWinds_2 : decode cX4_readWinds 2 = .ok (.iconst 0, 1) := by decide +kernel
theorem dX4_readWinds_3 : decode cX4_readWinds 3 = .ok (.istore_n 3, 1) := by decide +kernel
theorem dX4_readWinds_4 : decode cX4_readWinds 4 = .ok (.iload_n 3, 1) := by decide +kernel
theorem dX4_readWinds_5 : decode cX4_readWinds 5 = .ok (.bipush 12, 2) := by decide +kernel
theorem dX4_readWinds_7 : decode cX4_readWinds 7 = .ok (.if_icmp .ge 56, 3) := by decide +kernel
theorem dX4_readWinds_10 : decode cX4_readWinds 10 = .ok (.iload_n 2, 1) := by decide +kernel
theorem dX4_readWinds_11 : decode cX4_readWinds 11 = .ok (.ifCond .eq 52, 3) := by decide +kernel
theorem dX4_readWinds_14 : decode cX4_readWinds 14 = .ok (.aload_n 1, 1) := by decide +kernel
theorem dX4_readWinds_15 : decode cX4_readWinds 15 = .ok (.getfield 95, 3) := by decide +kernel
theorem dX4_readWinds_18 : decode cX4_readWinds 18 = .ok (.iload_n 3, 1) := by decide +kernel
theorem dX4_readWinds_19 : decode cX4_readWinds 19 = .ok (.aload_n 0, 1) := by decide +kernel
theorem dX4_readWinds_20 : decode cX4_readWinds 20 = .ok (.iconst 0, 1) := by decide +kernel
theorem dX4_readWinds_21 : decode cX4_readWinds 21 = .ok (.bipush 9, 2) := by decide +kernel
theorem dX4_readWinds_23 : decode cX4_readWinds 23 = .ok (.invokevirtual 63, 3) := by decide +kernel
theorem dX4_readWinds_26 : decode cX4_readWinds 26 = .ok (.iastore, 1) := by decide +kernel
theorem dX4_readWinds_27 : decode cX4_readWinds 27 = .ok (.aload_n 1, 1) := by decide +kernel
theorem dX4_readWinds_28 : decode cX4_readWinds 28 = .ok (.iload_n 3, 1) := by decide +kernel
theorem dX4_readWinds_29 : decode cX4_readWinds 29 = .ok (.iconst 1, 1) := by decide +kernel
theorem dX4_readWinds_30 : decode cX4_readWinds 30 = .ok (.iadd, 1) := by decide +kernel
theorem dX4_readWinds_31 : decode cX4_readWinds 31 = .ok (.putfield 57, 3) := by decide +kernel
theorem dX4_readWinds_34 : decode cX4_readWinds 34 = .ok (.iload_n 3, 1) := by decide +kernel
theorem dX4_readWinds_35 : decode cX4_readWinds 35 = .ok (.iconst 1, 1) := by decide +kernel
theorem dX4_readWinds_36 : decode cX4_readWinds 36 = .ok (.iadd, 1) := by decide +kernel
theorem dX4_readWinds_37 : decode cX4_readWinds 37 = .ok (.bipush 12, 2) := by decide +kernel
theorem dX4_readWinds_39 : decode cX4_readWinds 39 = .ok (.if_icmp .ge 16, 3) := by decide +kernel
theorem dX4_readWinds_42 : decode cX4_readWinds 42 = .ok (.aload_n 0, 1) := by decide +kernel
theorem dX4_readWinds_43 : decode cX4_readWinds 43 = .ok (.bipush 44, 2) := by decide +kernel
theorem dX4_readWinds_45 : decode cX4_readWinds 45 = .ok (.invokevirtual 98, 3) := by decide +kernel
theorem dX4_readWinds_48 : decode cX4_readWinds 48 = .ok (.ifCond .eq 7, 3) := by decide +kernel
theorem dX4_readWinds_51 : decode cX4_readWinds 51 = .ok (.iconst 1, 1) := by decide +kernel
theorem dX4_readWinds_52 : decode cX4_readWinds 52 = .ok (.goto 4, 3) := by decide +kernel
theorem dX4_readWinds_55 : decode cX4_readWinds 55 = .ok (.iconst 0, 1) := by decide +kernel
theorem dX4_readWinds_56 : decode cX4_readWinds 56 = .ok (.istore_n 2, 1) := by decide +kernel
theorem dX4_readWinds_57 : decode cX4_readWinds 57 = .ok (.iinc 3 1, 3) := by decide +kernel
theorem dX4_readWinds_60 : decode cX4_readWinds 60 = .ok (.goto (-56), 3) := by decide +kernel
theorem dX4_readWinds_63 : decode cX4_readWinds 63 = .ok (.aload_n 0, 1) := by decide +kernel
theorem dX4_readWinds_64 : decode cX4_readWinds 64 = .ok (.bipush 59, 2) := by decide +kernel
theorem dX4_readWinds_66 : decode cX4_readWinds 66 = .ok (.invokevirtual 67, 3) := by decide +kernel
theorem dX4_readWinds_69 : decode cX4_readWinds 69 = .ok (.return_, 1) := by decide +kernel
theorem dX4_skipBlanks_0 : decode cX4_skipBlanks 0 = .ok (.aload_n 0, 1) := by decide +kernel
theorem dX4_skipBlanks_1 : decode cX4_skipBlanks 1 = .ok (.getfield 19, 3) := by decide +kernel
theorem dX4_skipBlanks_4 : decode cX4_skipBlanks 4 = .ok (.aload_n 0, 1) := by decide +kernel
theorem dX4_skipBlanks_5 : decode cX4_skipBlanks 5 = .ok (.getfield 15, 3) := by decide +kernel
theorem dX4_skipBlanks_8 : decode cX4_skipBlanks 8 = .ok (.if_icmp .ge 30, 3) := by decide +kernel
theorem dX4_skipBlanks_11 : decode cX4_skipBlanks 11 = .ok (.aload_n 0, 1) := by decide +kernel
theorem dX4_skipBlanks_12 : decode cX4_skipBlanks 12 = .ok (.getfield 9, 3) := by decide +kernel
theorem dX4_skipBlanks_15 : decode cX4_skipBlanks 15 = .ok (.aload_n 0, 1) := by decide +kernel
theorem dX4_skipBlanks_16 : decode cX4_skipBlanks 16 = .ok (.getfield 19, 3) := by decide +kernel
theorem dX4_skipBlanks_19 : decode cX4_skipBlanks 19 = .ok (.iaload, 1) := by decide +kernel
theorem dX4_skipBlanks_20 : decode cX4_skipBlanks 20 = .ok (.bipush 32, 2) := by decide +kernel
theorem dX4_skipBlanks_22 : decode cX4_skipBlanks 22 = .ok (.if_icmp .ne 16, 3) := by decide +kernel
theorem dX4_skipBlanks_25 : decode cX4_skipBlanks 25 = .ok (.aload_n 0, 1) := by decide +kernel
theorem dX4_skipBlanks_26 : decode cX4_skipBlanks 26 = .ok (.dup, 1) := by decide +kernel
theorem dX4_skipBlanks_27 : decode cX4_skipBlanks 27 = .ok (.getfield 19, 3) := by decide +kernel
theorem dX4_skipBlanks_30 : decode cX4_skipBlanks 30 = .ok (.iconst 1, 1) := by decide +kernel
theorem dX4_skipBlanks_31 : decode cX4_skipBlanks 31 = .ok (.iadd, 1) := by decide +kernel
theorem dX4_skipBlanks_32 : decode cX4_skipBlanks 32 = .ok (.putfield 19, 3) := by decide +kernel
theorem dX4_skipBlanks_35 : decode cX4_skipBlanks 35 = .ok (.goto (-35), 3) := by decide +kernel
theorem dX4_skipBlanks_38 : decode cX4_skipBlanks 38 = .ok (.return_, 1) := by decide +kernel
set_option maxRecDepth 20000 in
theorem ggX4_take_X4_skipBlanks : GoodIn wsX4_take wsX4_skipBlanks := goodIn_r _ [8, 1, 2, 3, 9, 10, 11, 12, 13] (by decide +kernel) (by decide +kernel)
set_option maxRecDepth 20000 in
theorem gX4_take_X4_skipBlanks : GoodIn wsX4_take (wsV RX4 33 RX4 yX4_skipBlanks wsX4_skipBlanks) := goodIn_app (goodIn_of _ (by decide +kernel)) ggX4_take_X4_skipBlanks
theorem dX4_take_0 : decode cX4_take 0 = .ok (.aload_n 0, 1) := by decide +kernel
theorem dX4_take_1 : decode cX4_take 1 = .ok (.invokevirtual 33, 3) := by decide +kernel
theorem dX4_take_4 : decode cX4_take 4 = .ok (.aload_n 0, 1) := by decide +kernel
theorem dX4_take_5 : decode cX4_take 5 = .ok (.getfield 19, 3) := by decide +kernel
theorem dX4_take_8 : decode cX4_take 8 = .ok (.aload_n 0, 1) := by decide +kernel
theorem dX4_take_9 : decode cX4_take 9 = .ok (.getfield 15, 3) := by decide +kernel
theorem dX4_take_12 : decode cX4_take 12 = .ok (.if_icmp .ge 28, 3) := by decide +kernel
theorem dX4_take_15 : decode cX4_take 15 = .ok (.aload_n 0, 1) := by decide +kernel
theorem dX4_take_16 : decode cX4_take 16 = .ok (.getfield 9, 3) := by decide +kernel
theorem dX4_take_19 : decode cX4_take 19 = .ok (.aload_n 0, 1) := by decide +kernel
theorem dX4_take_20 : decode cX4_take 20 = .ok (.getfield 19, 3) := by decide +kernel
theorem dX4_take_23 : decode cX4_take 23 = .ok (.iaload, 1) := by decide +kernel
theorem dX4_take_24 : decode cX4_take 24 = .ok (.iload_n 1, 1) := by decide +kernel
theorem dX4_take_25 : decode cX4_take 25 = .ok (.if_icmp .ne 15, 3) := by decide +kernel
theorem dX4_take_28 : decode cX4_take 28 = .ok (.aload_n 0, 1) := by decide +kernel
theorem dX4_take_29 : decode cX4_take 29 = .ok (.dup, 1) := by decide +kernel
theorem dX4_take_30 : decode cX4_take 30 = .ok (.getfield 19, 3) := by decide +kernel
theorem dX4_take_33 : decode cX4_take 33 = .ok (.iconst 1, 1) := by decide +kernel
theorem dX4_take_34 : decode cX4_take 34 = .ok (.iadd, 1) := by decide +kernel
theorem dX4_take_35 : decode cX4_take 35 = .ok (.putfield 19, 3) := by decide +kernel
theorem dX4_take_38 : decode cX4_take 38 = .ok (.iconst 1, 1) := by decide +kernel
theorem dX4_take_39 : decode cX4_take 39 = .ok (.ireturn, 1) := by decide +kernel
theorem dX4_take_40 : decode cX4_take 40 = .ok (.iconst 0, 1) := by decide +kernel
theorem dX4_take_41 : decode cX4_take 41 = .ok (.ireturn, 1) := by decide +kernel
set_option maxRecDepth 20000 in
theorem ggX4_expect_X4_take : GoodIn wsX4_expect wsX4_take := goodIn_r _ [6, 1, 7, 8, 9, 10, 11, 5, 12, 19, 20, 21, 22, 23] (by decide +kernel) (by decide +kernel)
set_option maxRecDepth 20000 in
theorem gX4_expect_X4_take : GoodIn wsX4_expect (wsV RX4 98 RX4 yX4_take wsX4_take) := goodIn_app (goodIn_of _ (by decide +kernel)) ggX4_expect_X4_take
set_option maxRecDepth 20000 in
theorem ggX4_expect_X4_fail : GoodIn wsX4_expect wsX4_fail := goodIn_r _ [16, 17, 18, 19, 20, 21, 22, 23] (by decide +kernel) (by decide +kernel)
set_option maxRecDepth 20000 in
theorem gX4_expect_X4_fail : GoodIn wsX4_expect (wsV RX4 47 RX4 yX4_fail wsX4_fail) := goodIn_app (goodIn_of _ (by decide +kernel)) ggX4_expect_X4_fail
theorem dX4_expect_0 : decode cX4_expect 0 = .ok (.aload_n 0, 1) := by decide +kernel
theorem dX4_expect_1 : decode cX4_expect 1 = .ok (.iload_n 1, 1) := by decide +kernel
theorem dX4_expect_2 : decode cX4_expect 2 = .ok (.invokevirtual 98, 3) := by decide +kernel
theorem dX4_expect_5 : decode cX4_expect 5 = .ok (.ifCond .ne 12, 3) := by decide +kernel
theorem dX4_expect_8 : decode cX4_expect 8 = .ok (.aload_n 0, 1) := by decide +kernel
theorem dX4_expect_9 : decode cX4_expect 9 = .ok (.iconst 1, 1) := by decide +kernel
theorem dX4_expect_10 : decode cX4_expect 10 = .ok (.aload_n 0, 1) := by decide +kernel
theorem dX4_expect_11 : decode cX4_expect 11 = .ok (.getfield 19, 3) := by decide +kernel
theorem dX4_expect_14 : decode cX4_expect 14 = .ok (.invokevirtual 47, 3) := by decide +kernel
theorem dX4_expect_17 : decode cX4_expect 17 = .ok (.return_, 1) := by decide +kernel
set_option maxRecDepth 20000 in
theorem ggX4_number_X4_skipBlanks : GoodIn wsX4_number wsX4_skipBlanks := goodIn_r _ [8, 1, 2, 3, 18, 19, 20, 21, 22] (by decide +kernel) (by decide +kernel)
set_option maxRecDepth 20000 in
theorem gX4_number_X4_skipBlanks : GoodIn wsX4_number (wsV RX4 33 RX4 yX4_skipBlanks wsX4_skipBlanks) := goodIn_app (goodIn_of _ (by decide +kernel)) ggX4_number_X4_skipBlanks
set_option maxRecDepth 20000 in
theorem ggX4_number_X4_fail : GoodIn wsX4_number wsX4_fail := goodIn_r _ [12, 13, 14, 18, 19, 20, 21, 22] (by decide +kernel) (by decide +kernel)
set_option maxRecDepth 20000 in
theorem gX4_number_X4_fail : GoodIn wsX4_number (wsV RX4 47 RX4 yX4_fail wsX4_fail) := goodIn_app (goodIn_of _ (by decide +kernel)) ggX4_number_X4_fail
set_option maxRecDepth 20000 in
theorem ggX4_number_X5_isWithin : GoodIn wsX4_number wsX5_isWithin := goodIn_r _ [17] (by decide +kernel) (by decide +kernel)
set_option maxRecDepth 20000 in
theorem gX4_number_X5_isWithin_n102 : GoodIn wsX4_number (wsX5_isWithin) := ggX4_number_X5_isWithin
theorem dX4_number_0 : decode cX4_number 0 = .ok (.aload_n 0, 1) := by decide +kernel
theorem dX4_number_1 : decode cX4_number 1 = .ok (.invokevirtual 33, 3) := by decide +kernel
theorem dX4_number_4 : decode cX4_number 4 = .ok (.aload_n 0, 1) := by decide +kernel
theorem dX4_number_5 : decode cX4_number 5 = .ok (.getfield 19, 3) := by decide +kernel
theorem dX4_number_8 : decode cX4_number 8 = .ok (.istore_n 3, 1) := by decide +kernel
theorem dX4_number_9 : decode cX4_number 9 = .ok (.iconst 0, 1) := by decide +kernel
theorem dX4_number_10 : decode cX4_number 10 = .ok (.istore 4, 2) := by decide +kernel
theorem dX4_number_12 : decode cX4_number 12 = .ok (.aload_n 0, 1) := by decide +kernel
theorem dX4_number_13 : decode cX4_number 13 = .ok (.getfield 19, 3) := by decide +kernel
theorem dX4_number_16 : decode cX4_number 16 = .ok (.aload_n 0, 1) := by decide +kernel
theorem dX4_number_17 : decode cX4_number 17 = .ok (.getfield 15, 3) := by decide +kernel
theorem dX4_number_20 : decode cX4_number 20 = .ok (.if_icmp .ge 74, 3) := by decide +kernel
theorem dX4_number_23 : decode cX4_number 23 = .ok (.aload_n 0, 1) := by decide +kernel
theorem dX4_number_24 : decode cX4_number 24 = .ok (.getfield 9, 3) := by decide +kernel
theorem dX4_number_27 : decode cX4_number 27 = .ok (.aload_n 0, 1) := by decide +kernel
theorem dX4_number_28 : decode cX4_number 28 = .ok (.getfield 19, 3) := by decide +kernel
theorem dX4_number_31 : decode cX4_number 31 = .ok (.iaload, 1) := by decide +kernel
theorem dX4_number_32 : decode cX4_number 32 = .ok (.bipush 48, 2) := by decide +kernel
theorem dX4_number_34 : decode cX4_number 34 = .ok (.if_icmp .lt 60, 3) := by decide +kernel
theorem dX4_number_37 : decode cX4_number 37 = .ok (.aload_n 0, 1) := by decide +kernel
theorem dX4_number_38 : decode cX4_number 38 = .ok (.getfield 9, 3) := by decide +kernel
theorem dX4_number_41 : decode cX4_number 41 = .ok (.aload_n 0, 1) := by decide +kernel
theorem dX4_number_42 : decode cX4_number 42 = .ok (.getfield 19, 3) := by decide +kernel
theorem dX4_number_45 : decode cX4_number 45 = .ok (.iaload, 1) := by decide +kernel
theorem dX4_number_46 : decode cX4_number 46 = .ok (.bipush 57, 2) := by decide +kernel
theorem dX4_number_48 : decode cX4_number 48 = .ok (.if_icmp .gt 46, 3) := by decide +kernel
theorem dX4_number_51 : decode cX4_number 51 = .ok (.aload_n 0, 1) := by decide +kernel
theorem dX4_number_52 : decode cX4_number 52 = .ok (.getfield 19, 3) := by decide +kernel
theorem dX4_number_55 : decode cX4_number 55 = .ok (.iload_n 3, 1) := by decide +kernel
theorem dX4_number_56 : decode cX4_number 56 = .ok (.isub, 1) := by decide +kernel
theorem dX4_number_57 : decode cX4_number 57 = .ok (.iconst 3, 1) := by decide +kernel
theorem dX4_number_58 : decode cX4_number 58 = .ok (.if_icmp .ge 23, 3) := by decide +kernel
theorem dX4_number_61 : decode cX4_number 61 = .ok (.iload 4, 2) := by decide +kernel
theorem dX4_number_63 : decode cX4_number 63 = .ok (.bipush 10, 2) := by decide +kernel
theorem dX4_number_65 : decode cX4_number 65 = .ok (.imul, 1) := by decide +kernel
theorem dX4_number_66 : decode cX4_number 66 = .ok (.aload_n 0, 1) := by decide +kernel
theorem dX4_number_67 : decode cX4_number 67 = .ok (.getfield 9, 3) := by decide +kernel
theorem dX4_number_70 : decode cX4_number 70 = .ok (.aload_n 0, 1) := by decide +kernel
theorem dX4_number_71 : decode cX4_number 71 = .ok (.getfield 19, 3) := by decide +kernel
theorem dX4_number_74 : decode cX4_number 74 = .ok (.iaload, 1) := by decide +kernel
theorem dX4_number_75 : decode cX4_number 75 = .ok (.iadd, 1) := by decide +kernel
theorem dX4_number_76 : decode cX4_number 76 = .ok (.bipush 48, 2) := by decide +kernel
theorem dX4_number_78 : decode cX4_number 78 = .ok (.isub, 1) := by decide +kernel
theorem dX4_number_79 : decode cX4_number 79 = .ok (.istore 4, 2) := by decide +kernel
theorem dX4_number_81 : decode cX4_number 81 = .ok (.aload_n 0, 1) := by decide +kernel
theorem dX4_number_82 : decode cX4_number 82 = .ok (.dup, 1) := by decide +kernel
theorem dX4_number_83 : decode cX4_number 83 = .ok (.getfield 19, 3) := by decide +kernel
theorem dX4_number_86 : decode cX4_number 86 = .ok (.iconst 1, 1) := by decide +kernel
theorem dX4_number_87 : decode cX4_number 87 = .ok (.iadd, 1) := by decide +kernel
theorem dX4_number_88 : decode cX4_number 88 = .ok (.putfield 19, 3) := by decide +kernel
theorem dX4_number_91 : decode cX4_number 91 = .ok (.goto (-79), 3) := by decide +kernel
theorem dX4_number_94 : decode cX4_number 94 = .ok (.aload_n 0, 1) := by decide +kernel
theorem dX4_number_95 : decode cX4_number 95 = .ok (.getfield 19, 3) := by decide +kernel
theorem dX4_number_98 : decode cX4_number 98 = .ok (.iload_n 3, 1) := by decide +kernel
theorem dX4_number_99 : decode cX4_number 99 = .ok (.if_icmp .ne 12, 3) := by decide +kernel
theorem dX4_number_102 : decode cX4_number 102 = .ok (.aload_n 0, 1) := by decide +kernel
theorem dX4_number_103 : decode cX4_number 103 = .ok (.iconst 1, 1) := by decide +kernel
theorem dX4_number_104 : decode cX4_number 104 = .ok (.iload_n 3, 1) := by decide +kernel
theorem dX4_number_105 : decode cX4_number 105 = .ok (.invokevirtual 47, 3) := by decide +kernel
theorem dX4_number_108 : decode cX4_number 108 = .ok (.goto 29, 3) := by decide +kernel
theorem dX4_number_111 : decode cX4_number 111 = .ok (.aload_n 0, 1) := by decide +kernel
theorem dX4_number_112 : decode cX4_number 112 = .ok (.getfield 19, 3) := by decide +kernel
theorem dX4_number_115 : decode cX4_number 115 = .ok (.iload_n 3, 1) := by decide +kernel
theorem dX4_number_116 : decode cX4_number 116 = .ok (.isub, 1) := by decide +kernel
theorem dX4_number_117 : decode cX4_number 117 = .ok (.iconst 3, 1) := by decide +kernel
theorem dX4_number_118 : decode cX4_number 118 = .ok (.if_icmp .gt 13, 3) := by decide +kernel
theorem dX4_number_121 : decode cX4_number 121 = .ok (.iload 4, 2) := by decide +kernel
theorem dX4_number_123 : decode cX4_number 123 = .ok (.iload_n 1, 1) := by decide +kernel
theorem dX4_number_124 : decode cX4_number 124 = .ok (.iload_n 2, 1) := by decide +kernel
theorem dX4_number_125 : decode cX4_number 125 = .ok (.invokestatic 102, 3) := by decide +kernel
theorem dX4_number_128 : decode cX4_number 128 = .ok (.ifCond .ne 9, 3) := by decide +kernel
theorem dX4_number_131 : decode cX4_number 131 = .ok (.aload_n 0, 1) := by decide +kernel
theorem dX4_number_132 : decode cX4_number 132 = .ok (.iconst 2, 1) := by decide +kernel
theorem dX4_number_133 : decode cX4_number 133 = .ok (.iload_n 3, 1) := by decide +kernel
theorem dX4_number_134 : decode cX4_number 134 = .ok (.invokevirtual 47, 3) := by decide +kernel
theorem dX4_number_137 : decode cX4_number 137 = .ok (.iload 4, 2) := by decide +kernel
theorem dX4_number_139 : decode cX4_number 139 = .ok (.ireturn, 1) := by decide +kernel
theorem dX4_fail_0 : decode cX4_fail 0 = .ok (.aload_n 0, 1) := by decide +kernel
theorem dX4_fail_1 : decode cX4_fail 1 = .ok (.getfield 22, 3) := by decide +kernel
theorem dX4_fail_4 : decode cX4_fail 4 = .ok (.ifCond .ne 13, 3) := by decide +kernel
theorem dX4_fail_7 : decode cX4_fail 7 = .ok (.aload_n 0, 1) := by decide +kernel
theorem dX4_fail_8 : decode cX4_fail 8 = .ok (.iload_n 1, 1) := by decide +kernel
theorem dX4_fail_9 : decode cX4_fail 9 = .ok (.putfield 22, 3) := by decide +kernel
theorem dX4_fail_12 : decode cX4_fail 12 = .ok (.aload_n 0, 1) := by decide +kernel
theorem dX4_fail_13 : decode cX4_fail 13 = .ok (.iload_n 2, 1) := by decide +kernel
theorem dX4_fail_14 : decode cX4_fail 14 = .ok (.putfield 25, 3) := by decide +kernel
theorem dX4_fail_17 : decode cX4_fail 17 = .ok (.return_, 1) := by decide +kernel
set_option maxRecDepth 20000 in
theorem ggX5_init_X4_init : GoodIn wsX5_init wsX4_init := goodIn_r _ [32, 33, 2, 3, 26, 34, 35, 36, 37, 38, 80, 81, 82, 83, 84] (by decide +kernel) (by decide +kernel)
set_option maxRecDepth 20000 in
theorem gX5_init_X4_init_n11 : GoodIn wsX5_init (wsX4_init) := ggX5_init_X4_init
set_option maxRecDepth 20000 in
theorem ggX5_init_X1_init : GoodIn wsX5_init wsX1_init := goodIn_r _ [40, 41, 2, 3, 26, 42, 43, 44, 45, 46, 47, 48, 49, 50, 51, 52, 53, 96, 97, 98, 99, 100, 101, 102, 103, 104, 105, 106, 107] (by decide +kernel) (by decide +kernel)
set_option maxRecDepth 20000 in
theorem gX5_init_X1_init_n18 : GoodIn wsX5_init (wsX1_init) := ggX5_init_X1_init
set_option maxRecDepth 20000 in
theorem ggX5_init_X0_init : GoodIn wsX5_init wsX0_init := goodIn_r _ [55, 56, 2, 3, 26, 57, 58, 59, 60, 61, 62, 63, 108, 109, 110, 111, 112, 113, 114] (by decide +kernel) (by decide +kernel)
set_option maxRecDepth 20000 in
theorem gX5_init_X0_init_n28 : GoodIn wsX5_init (wsX0_init) := ggX5_init_X0_init
set_option maxRecDepth 20000 in
theorem ggX5_init_X2_init : GoodIn wsX5_init wsX2_init := goodIn_r _ [65, 66, 2, 3, 26, 67, 68, 69, 115, 116, 117] (by decide +kernel) (by decide +kernel)
set_option maxRecDepth 20000 in
theorem gX5_init_X2_init_n38 : GoodIn wsX5_init (wsX2_init) := ggX5_init_X2_init
set_option maxRecDepth 20000 in
theorem ggX5_init_X3_init : GoodIn wsX5_init wsX3_init := goodIn_r _ [71, 72, 2, 3, 26, 73, 74, 75, 76, 77, 78, 79, 118, 119, 120, 121, 122, 123, 124] (by decide +kernel) (by decide +kernel)
set_option maxRecDepth 20000 in
theorem gX5_init_X3_init_n45 : GoodIn wsX5_init (wsX3_init) := ggX5_init_X3_init
theorem dX5_init_0 : decode cX5_init 0 = .ok (.aload_n 0, 1) := by decide +kernel
theorem dX5_init_1 : decode cX5_init 1 = .ok (.invokespecial 3, 3) := by decide +kernel
theorem dX5_init_4 : decode cX5_init 4 = .ok (.aload_n 0, 1) := by decide +kernel
theorem dX5_init_5 : decode cX5_init 5 = .ok (.new 9, 3) := by decide +kernel
theorem dX5_init_8 : decode cX5_init 8 = .ok (.dup, 1) := by decide +kernel
theorem dX5_init_9 : decode cX5_init 9 = .ok (.invokespecial 11, 3) := by decide +kernel
theorem dX5_init_12 : decode cX5_init 12 = .ok (.putfield 12, 3) := by decide +kernel
theorem dX5_init_15 : decode cX5_init 15 = .ok (.aload_n 0, 1) := by decide +kernel
theorem dX5_init_16 : decode cX5_init 16 = .ok (.new 16, 3) := by decide +kernel
theorem dX5_init_19 : decode cX5_init 19 = .ok (.dup, 1) := by decide +kernel
theorem dX5_init_20 : decode cX5_init 20 = .ok (.invokespecial 18, 3) := by decide +kernel
theorem dX5_init_23 : decode cX5_init 23 = .ok (.putfield 19, 3) := by decide +kernel
theorem dX5_init_26 : decode cX5_init 26 = .ok (.aload_n 0, 1) := by decide +kernel
theorem dX5_init_27 : decode cX5_init 27 = .ok (.new 16, 3) := by decide +kernel
theorem dX5_init_30 : decode cX5_init 30 = .ok (.dup, 1) := by decide +kernel
theorem dX5_init_31 : decode cX5_init 31 = .ok (.invokespecial 18, 3) := by decide +kernel
theorem dX5_init_34 : decode cX5_init 34 = .ok (.putfield 23, 3) := by decide +kernel
theorem dX5_init_37 : decode cX5_init 37 = .ok (.aload_n 0, 1) := by decide +kernel
theorem dX5_init_38 : decode cX5_init 38 = .ok (.new 26, 3) := by decide +kernel
theorem dX5_init_41 : decode cX5_init 41 = .ok (.dup, 1) := by decide +kernel
theorem dX5_init_42 : decode cX5_init 42 = .ok (.invokespecial 28, 3) := by decide +kernel
theorem dX5_init_45 : decode cX5_init 45 = .ok (.putfield 29, 3) := by decide +kernel
theorem dX5_init_48 : decode cX5_init 48 = .ok (.aload_n 0, 1) := by decide +kernel
theorem dX5_init_49 : decode cX5_init 49 = .ok (.new 26, 3) := by decide +kernel
theorem dX5_init_52 : decode cX5_init 52 = .ok (.dup, 1) := by decide +kernel
theorem dX5_init_53 : decode cX5_init 53 = .ok (.invokespecial 28, 3) := by decide +kernel
theorem dX5_init_56 : decode cX5_init 56 = .ok (.putfield 33, 3) := by decide +kernel
theorem dX5_init_59 : decode cX5_init 59 = .ok (.aload_n 0, 1) := by decide +kernel
theorem dX5_init_60 : decode cX5_init 60 = .ok (.new 36, 3) := by decide +kernel
theorem dX5_init_63 : decode cX5_init 63 = .ok (.dup, 1) := by decide +kernel
theorem dX5_init_64 : decode cX5_init 64 = .ok (.invokespecial 38, 3) := by decide +kernel
theorem dX5_init_67 : decode cX5_init 67 = .ok (.putfield 39, 3) := by decide +kernel
theorem dX5_init_70 : decode cX5_init 70 = .ok (.aload_n 0, 1) := by decide +kernel
theorem dX5_init_71 : decode cX5_init 71 = .ok (.new 43, 3) := by decide +kernel
theorem dX5_init_74 : decode cX5_init 74 = .ok (.dup, 1) := by decide +kernel
theorem dX5_init_75 : decode cX5_init 75 = .ok (.invokespecial 45, 3) := by decide +kernel
theorem dX5_init_78 : decode cX5_init 78 = .ok (.putfield 46, 3) := by decide +kernel
theorem dX5_init_81 : decode cX5_init 81 = .ok (.aload_n 0, 1) := by decide +kernel
theorem dX5_init_82 : decode cX5_init 82 = .ok (.bipush 32, 2) := by decide +kernel
theorem dX5_init_84 : decode cX5_init 84 = .ok (.newarray .int, 2) := by decide +kernel
theorem dX5_init_86 : decode cX5_init 86 = .ok (.putfield 50, 3) := by decide +kernel
theorem dX5_init_89 : decode cX5_init 89 = .ok (.aload_n 0, 1) := by decide +kernel
theorem dX5_init_90 : decode cX5_init 90 = .ok (.iconst 2, 1) := by decide +kernel
theorem dX5_init_91 : decode cX5_init 91 = .ok (.newarray .int, 2) := by decide +kernel
theorem dX5_init_93 : decode cX5_init 93 = .ok (.putfield 54, 3) := by decide +kernel
theorem dX5_init_96 : decode cX5_init 96 = .ok (.aload_n 0, 1) := by decide +kernel
theorem dX5_init_97 : decode cX5_init 97 = .ok (.iconst 0, 1) := by decide +kernel
theorem dX5_init_98 : decode cX5_init 98 = .ok (.putfield 57, 3) := by decide +kernel
theorem dX5_init_101 : decode cX5_init 101 = .ok (.aload_n 0, 1) := by decide +kernel
theorem dX5_init_102 : decode cX5_init 102 = .ok (.iconst 0, 1) := by decide +kernel
theorem dX5_init_103 : decode cX5_init 103 = .ok (.putfield 61, 3) := by decide +kernel
theorem dX5_init_106 : decode cX5_init 106 = .ok (.return_, 1) := by decide +kernel
set_option maxRecDepth 20000 in
theorem ggX5_feed_X5_isWithin : GoodIn wsX5_feed wsX5_isWithin := goodIn_r _ [8] (by decide +kernel) (by decide +kernel)
set_option maxRecDepth 20000 in
theorem gX5_feed_X5_isWithin : GoodIn wsX5_feed (va_wsS RX5 64 yX5_isWithin wsX5_isWithin) := goodIn_app (goodIn_of _ (by decide +kernel)) ggX5_feed_X5_isWithin
set_option maxRecDepth 20000 in
theorem ggX5_feed_X4_add : GoodIn wsX5_feed wsX4_add := goodIn_r _ [13, 14, 15, 27, 28, 29, 30, 31] (by decide +kernel) (by decide +kernel)
set_option maxRecDepth 20000 in
theorem gX5_feed_X4_add : GoodIn wsX5_feed (wsV RX5 73 RX4 yX4_add wsX4_add) := goodIn_app (goodIn_of _ (by decide +kernel)) ggX5_feed_X4_add
theorem dX5_feed_0 : decode cX5_feed 0 = .ok (.iload_n 1, 1) := by decide +kernel
theorem dX5_feed_1 : decode cX5_feed 1 = .ok (.iconst 0, 1) := by decide +kernel
theorem dX5_feed_2 : decode cX5_feed 2 = .ok (.sipush 255, 3) := by decide +kernel
theorem dX5_feed_5 : decode cX5_feed 5 = .ok (.invokestatic 64, 3) := by decide +kernel
theorem dX5_feed_8 : decode cX5_feed 8 = .ok (.ifCond .ne 6, 3) := by decide +kernel
theorem dX5_feed_11 : decode cX5_feed 11 = .ok (.ldc 68, 2) := by decide +kernel
theorem dX5_feed_13 : decode cX5_feed 13 = .ok (.ireturn, 1) := by decide +kernel
theorem dX5_feed_14 : decode cX5_feed 14 = .ok (.aload_n 0, 1) := by decide +kernel
theorem dX5_feed_15 : decode cX5_feed 15 = .ok (.getfield 12, 3) := by decide +kernel
theorem dX5_feed_18 : decode cX5_feed 18 = .ok (.getfield 69, 3) := by decide +kernel
theorem dX5_feed_21 : decode cX5_feed 21 = .ok (.sipush 240, 3) := by decide +kernel
theorem dX5_feed_24 : decode cX5_feed 24 = .ok (.if_icmp .lt 6, 3) := by decide +kernel
theorem dX5_feed_27 : decode cX5_feed 27 = .ok (.ldc 72, 2) := by decide +kernel
theorem dX5_feed_29 : decode cX5_feed 29 = .ok (.ireturn, 1) := by decide +kernel
theorem dX5_feed_30 : decode cX5_feed 30 = .ok (.aload_n 0, 1) := by decide +kernel
theorem dX5_feed_31 : decode cX5_feed 31 = .ok (.getfield 12, 3) := by decide +kernel
theorem dX5_feed_34 : decode cX5_feed 34 = .ok (.iload_n 1, 1) := by decide +kernel
theorem dX5_feed_35 : decode cX5_feed 35 = .ok (.invokevirtual 73, 3) := by decide +kernel
theorem dX5_feed_38 : decode cX5_feed 38 = .ok (.ireturn, 1) := by decide +kernel
set_option maxRecDepth 20000 in
theorem ggX5_sea_X4_tell : GoodIn wsX5_sea wsX4_tell := goodIn_r _ [13, 14, 15, 16, 17, 18, 19, 20, 21, 22, 23, 24, 25, 26, 27, 28, 12, 29, 30, 31, 32, 33, 34, 35, 36, 37, 38, 39, 40, 41, 42, 43, 44, 45, 46, 47, 48, 49, 50, 51, 52, 53, 54, 55, 56, 57, 58, 59, 60, 61, 62, 63, 64, 65, 66, 67, 68, 69, 70, 71, 72, 73, 74, 75, 76, 77, 78, 79, 80, 134, 135, 136, 137, 138, 122, 123, 124, 125, 126, 127, 128, 129, 130, 131, 132, 133] (by decide +kernel) (by decide +kernel)
set_option maxRecDepth 20000 in
theorem gX5_sea_X4_tell : GoodIn wsX5_sea (wsV RX5 77 RX4 yX4_tell wsX4_tell) := goodIn_app (goodIn_of _ (by decide +kernel)) ggX5_sea_X4_tell
set_option maxRecDepth 20000 in
theorem ggX5_sea_X0_begin : GoodIn wsX5_sea wsX0_begin := goodIn_r _ [85, 86, 87, 88, 89, 90, 91, 92, 93, 94, 38, 39, 21, 40, 23, 139, 140, 141, 142, 143, 144, 145, 122, 123, 124, 125, 126, 127, 128, 129, 130, 131, 132, 133] (by decide +kernel) (by decide +kernel)
set_option maxRecDepth 20000 in
theorem gX5_sea_X0_begin : GoodIn wsX5_sea (wsV RX5 81 RX0 yX0_begin wsX0_begin) := goodIn_app (goodIn_of _ (by decide +kernel)) ggX5_sea_X0_begin
set_option maxRecDepth 20000 in
theorem ggX5_sea_X2_forget : GoodIn wsX5_sea wsX2_forget := goodIn_r _ [99, 100, 101, 146, 147, 148] (by decide +kernel) (by decide +kernel)
set_option maxRecDepth 20000 in
theorem gX5_sea_X2_forget : GoodIn wsX5_sea (wsV RX5 85 RX2 yX2_forget wsX2_forget) := goodIn_app (goodIn_of _ (by decide +kernel)) ggX5_sea_X2_forget
set_option maxRecDepth 20000 in
theorem ggX5_sea_X3_forget : GoodIn wsX5_sea wsX3_forget := goodIn_r _ [106, 107, 108, 109, 110, 149, 150, 151, 152, 153, 154, 155] (by decide +kernel) (by decide +kernel)
set_option maxRecDepth 20000 in
theorem gX5_sea_X3_forget : GoodIn wsX5_sea (wsV RX5 88 RX3 yX3_forget wsX3_forget) := goodIn_app (goodIn_of _ (by decide +kernel)) ggX5_sea_X3_forget
theorem dX5_sea_0 : decode cX5_sea 0 = .ok (.aload_n 0, 1) := by decide +kernel
theorem dX5_sea_1 : decode cX5_sea 1 = .ok (.getfield 12, 3) := by decide +kernel
theorem dX5_sea_4 : decode cX5_sea 4 = .ok (.aload_n 0, 1) := by decide +kernel
theorem dX5_sea_5 : decode cX5_sea 5 = .ok (.getfield 23, 3) := by decide +kernel
theorem dX5_sea_8 : decode cX5_sea 8 = .ok (.invokevirtual 77, 3) := by decide +kernel
theorem dX5_sea_11 : decode cX5_sea 11 = .ok (.istore_n 1, 1) := by decide +kernel
theorem dX5_sea_12 : decode cX5_sea 12 = .ok (.iload_n 1, 1) := by decide +kernel
theorem dX5_sea_13 : decode cX5_sea 13 = .ok (.ifCond .eq 8, 3) := by decide +kernel
theorem dX5_sea_16 : decode cX5_sea 16 = .ok (.bipush (-10), 2) := by decide +kernel
theorem dX5_sea_18 : decode cX5_sea 18 = .ok (.iload_n 1, 1) := by decide +kernel
theorem dX5_sea_19 : decode cX5_sea 19 = .ok (.isub, 1) := by decide +kernel
theorem dX5_sea_20 : decode cX5_sea 20 = .ok (.ireturn, 1) := by decide +kernel
theorem dX5_sea_21 : decode cX5_sea 21 = .ok (.aload_n 0, 1) := by decide +kernel
theorem dX5_sea_22 : decode cX5_sea 22 = .ok (.getfield 19, 3) := by decide +kernel
theorem dX5_sea_25 : decode cX5_sea 25 = .ok (.astore_n 2, 1) := by decide +kernel
theorem dX5_sea_26 : decode cX5_sea 26 = .ok (.aload_n 0, 1) := by decide +kernel
theorem dX5_sea_27 : decode cX5_sea 27 = .ok (.aload_n 0, 1) := by decide +kernel
theorem dX5_sea_28 : decode cX5_sea 28 = .ok (.getfield 23, 3) := by decide +kernel
theorem dX5_sea_31 : decode cX5_sea 31 = .ok (.putfield 19, 3) := by decide +kernel
theorem dX5_sea_34 : decode cX5_sea 34 = .ok (.aload_n 0, 1) := by decide +kernel
theorem dX5_sea_35 : decode cX5_sea 35 = .ok (.aload_n 2, 1) := by decide +kernel
theorem dX5_sea_36 : decode cX5_sea 36 = .ok (.putfield 23, 3) := by decide +kernel
theorem dX5_sea_39 : decode cX5_sea 39 = .ok (.aload_n 0, 1) := by decide +kernel
theorem dX5_sea_40 : decode cX5_sea 40 = .ok (.getfield 29, 3) := by decide +kernel
theorem dX5_sea_43 : decode cX5_sea 43 = .ok (.aload_n 0, 1) := by decide +kernel
theorem dX5_sea_44 : decode cX5_sea 44 = .ok (.getfield 19, 3) := by decide +kernel
theorem dX5_sea_47 : decode cX5_sea 47 = .ok (.invokevirtual 81, 3) := by decide +kernel
theorem dX5_sea_50 : decode cX5_sea 50 = .ok (.aload_n 0, 1) := by decide +kernel
theorem dX5_sea_51 : decode cX5_sea 51 = .ok (.getfield 39, 3) := by decide +kernel
theorem dX5_sea_54 : decode cX5_sea 54 = .ok (.invokevirtual 85, 3) := by decide +kernel
theorem dX5_sea_57 : decode cX5_sea 57 = .ok (.aload_n 0, 1) := by decide +kernel
theorem dX5_sea_58 : decode cX5_sea 58 = .ok (.getfield 46, 3) := by decide +kernel
theorem dX5_sea_61 : decode cX5_sea 61 = .ok (.invokevirtual 88, 3) := by decide +kernel
theorem dX5_sea_64 : decode cX5_sea 64 = .ok (.aload_n 0, 1) := by decide +kernel
theorem dX5_sea_65 : decode cX5_sea 65 = .ok (.iconst 0, 1) := by decide +kernel
theorem dX5_sea_66 : decode cX5_sea 66 = .ok (.putfield 57, 3) := by decide +kernel
theorem dX5_sea_69 : decode cX5_sea 69 = .ok (.aload_n 0, 1) := by decide +kernel
theorem dX5_sea_70 : decode cX5_sea 70 = .ok (.getfield 19, 3) := by decide +kernel
theorem dX5_sea_73 : decode cX5_sea 73 = .ok (.getfield 89, 3) := by decide +kernel
theorem dX5_sea_76 : decode cX5_sea 76 = .ok (.ireturn, 1) := by decide +kernel
theorem dX5_fault_0 : decode cX5_fault 0 = .ok (.aload_n 0, 1) := by decide +kernel
theorem dX5_fault_1 : decode cX5_fault 1 = .ok (.getfield 12, 3) := by decide +kernel
theorem dX5_fault_4 : decode cX5_fault 4 = .ok (.getfield 92, 3) := by decide +kernel
theorem dX5_fault_7 : decode cX5_fault 7 = .ok (.ireturn, 1) := by decide +kernel
set_option maxRecDepth 20000 in
theorem ggX5_told_X5_linksAlone : GoodIn wsX5_told wsX5_linksAlone := goodIn_r _ [23, 1, 7, 11, 3, 24, 25, 26, 27, 28, 29, 30, 22, 31, 32, 33, 34, 35, 36, 37, 38, 39, 40, 41, 42, 43, 44, 45, 46, 67, 68, 69, 70, 71, 72, 73, 74, 75, 76, 77, 95, 96, 97, 98, 99, 100, 101, 78, 79, 80, 81, 82, 83, 84, 85, 86, 87, 88, 89] (by decide +kernel) (by decide +kernel)
set_option maxRecDepth 20000 in
theorem gX5_told_X5_linksAlone : GoodIn wsX5_told (wsV RX5 113 RX5 yX5_linksAlone wsX5_linksAlone) := goodIn_app (goodIn_of _ (by decide +kernel)) ggX5_told_X5_linksAlone
set_option maxRecDepth 20000 in
theorem ggX5_told_X1_clashing : GoodIn wsX5_told wsX1_clashing := goodIn_r _ [50, 29, 51, 40, 52, 53, 30, 22, 31, 54, 55, 56, 27, 57, 58, 59, 60, 61, 62, 63, 64, 65, 66, 78, 79, 80, 81, 82, 83, 84, 85, 86, 87, 88, 89] (by decide +kernel) (by decide +kernel)
set_option maxRecDepth 20000 in
theorem gX5_told_X1_clashing : GoodIn wsX5_told (wsV RX5 120 RX1 yX1_clashing wsX1_clashing) := goodIn_app (goodIn_of _ (by decide +kernel)) ggX5_told_X1_clashing
theorem dX5_told_0 : decode cX5_told 0 = .ok (.iload_n 1, 1) := by decide +kernel
theorem dX5_told_1 : decode cX5_told 1 = .ok (.tableswitch 182 0 12 #[67, 75, 83, 91, 99, 107, 115, 123, 131, 136, 158, 166, 174], 67) := by decide +kernel
theorem dX5_told_68 : decode cX5_told 68 = .ok (.aload_n 0, 1) := by decide +kernel
theorem dX5_told_69 : decode cX5_told 69 = .ok (.getfield 19, 3) := by decide +kernel
theorem dX5_told_72 : decode cX5_told 72 = .ok (.getfield 95, 3) := by decide +kernel
theorem dX5_told_75 : decode cX5_told 75 = .ok (.ireturn, 1) := by decide +kernel
theorem dX5_told_76 : decode cX5_told 76 = .ok (.aload_n 0, 1) := by decide +kernel
theorem dX5_told_77 : decode cX5_told 77 = .ok (.getfield 19, 3) := by decide +kernel
theorem dX5_told_80 : decode cX5_told 80 = .ok (.getfield 89, 3) := by decide +kernel
theorem dX5_told_83 : decode cX5_told 83 = .ok (.ireturn, 1) := by decide +kernel
theorem dX5_told_84 : decode cX5_told 84 = .ok (.aload_n 0, 1) := by decide +kernel
theorem dX5_told_85 : decode cX5_told 85 = .ok (.getfield 19, 3) := by decide +kernel
theorem dX5_told_88 : decode cX5_told 88 = .ok (.getfield 98, 3) := by decide +kernel
theorem dX5_told_91 : decode cX5_told 91 = .ok (.ireturn, 1) := by decide +kernel
theorem dX5_told_92 : decode cX5_told 92 = .ok (.aload_n 0, 1) := by decide +kernel
theorem dX5_told_93 : decode cX5_told 93 = .ok (.getfield 12, 3) := by decide +kernel
theorem dX5_told_96 : decode cX5_told 96 = .ok (.getfield 69, 3) := by decide +kernel
theorem dX5_told_99 : decode cX5_told 99 = .ok (.ireturn, 1) := by decide +kernel
theorem dX5_told_100 : decode cX5_told 100 = .ok (.aload_n 0, 1) := by decide +kernel
theorem dX5_told_101 : decode cX5_told 101 = .ok (.getfield 29, 3) := by decide +kernel
theorem dX5_told_104 : decode cX5_told 104 = .ok (.getfield 101, 3) := by decide +kernel
theorem dX5_told_107 : decode cX5_told 107 = .ok (.ireturn, 1) := by decide +kernel
theorem dX5_told_108 : decode cX5_told 108 = .ok (.aload_n 0, 1) := by decide +kernel
theorem dX5_told_109 : decode cX5_told 109 = .ok (.getfield 29, 3) := by decide +kernel
theorem dX5_told_112 : decode cX5_told 112 = .ok (.getfield 104, 3) := by decide +kernel
theorem dX5_told_115 : decode cX5_told 115 = .ok (.ireturn, 1) := by decide +kernel
theorem dX5_told_116 : decode cX5_told 116 = .ok (.aload_n 0, 1) := by decide +kernel
theorem dX5_told_117 : decode cX5_told 117 = .ok (.getfield 29, 3) := by decide +kernel
theorem dX5_told_120 : decode cX5_told 120 = .ok (.getfield 107, 3) := by decide +kernel
theorem dX5_told_123 : decode cX5_told 123 = .ok (.ireturn, 1) := by decide +kernel
theorem dX5_told_124 : decode cX5_told 124 = .ok (.aload_n 0, 1) := by decide +kernel
theorem dX5_told_125 : decode cX5_told 125 = .ok (.getfield 29, 3) := by decide +kernel
theorem dX5_told_128 : decode cX5_told 128 = .ok (.getfield 110, 3) := by decide +kernel
theorem dX5_told_131 : decode cX5_told 131 = .ok (.ireturn, 1) := by decide +kernel
theorem dX5_told_132 : decode cX5_told 132 = .ok (.aload_n 0, 1) := by decide +kernel
theorem dX5_told_133 : decode cX5_told 133 = .ok (.invokevirtual 113, 3) := by decide +kernel
theorem dX5_told_136 : decode cX5_told 136 = .ok (.ireturn, 1) := by decide +kernel
theorem dX5_told_137 : decode cX5_told 137 = .ok (.aload_n 0, 1) := by decide +kernel
theorem dX5_told_138 : decode cX5_told 138 = .ok (.getfield 19, 3) := by decide +kernel
theorem dX5_told_141 : decode cX5_told 141 = .ok (.aload_n 0, 1) := by decide +kernel
theorem dX5_told_142 : decode cX5_told 142 = .ok (.getfield 29, 3) := by decide +kernel
theorem dX5_told_145 : decode cX5_told 145 = .ok (.getfield 110, 3) := by decide +kernel
theorem dX5_told_148 : decode cX5_told 148 = .ok (.aload_n 0, 1) := by decide +kernel
theorem dX5_told_149 : decode cX5_told 149 = .ok (.getfield 29, 3) := by decide +kernel
theorem dX5_told_152 : decode cX5_told 152 = .ok (.getfield 117, 3) := by decide +kernel
theorem dX5_told_155 : decode cX5_told 155 = .ok (.invokevirtual 120, 3) := by decide +kernel
theorem dX5_told_158 : decode cX5_told 158 = .ok (.ireturn, 1) := by decide +kernel
theorem dX5_told_159 : decode cX5_told 159 = .ok (.aload_n 0, 1) := by decide +kernel
theorem dX5_told_160 : decode cX5_told 160 = .ok (.getfield 46, 3) := by decide +kernel
theorem dX5_told_163 : decode cX5_told 163 = .ok (.getfield 124, 3) := by decide +kernel
theorem dX5_told_166 : decode cX5_told 166 = .ok (.ireturn, 1) := by decide +kernel
theorem dX5_told_167 : decode cX5_told 167 = .ok (.aload_n 0, 1) := by decide +kernel
theorem dX5_told_168 : decode cX5_told 168 = .ok (.getfield 46, 3) := by decide +kernel
theorem dX5_told_171 : decode cX5_told 171 = .ok (.getfield 127, 3) := by decide +kernel
theorem dX5_told_174 : decode cX5_told 174 = .ok (.ireturn, 1) := by decide +kernel
theorem dX5_told_175 : decode cX5_told 175 = .ok (.aload_n 0, 1) := by decide +kernel
theorem dX5_told_176 : decode cX5_told 176 = .ok (.getfield 39, 3) := by decide +kernel
theorem dX5_told_179 : decode cX5_told 179 = .ok (.getfield 130, 3) := by decide +kernel
theorem dX5_told_182 : decode cX5_told 182 = .ok (.ireturn, 1) := by decide +kernel
theorem dX5_told_183 : decode cX5_told 183 = .ok (.ldc 68, 2) := by decide +kernel
theorem dX5_told_185 : decode cX5_told 185 = .ok (.ireturn, 1) := by decide +kernel
set_option maxRecDepth 20000 in
theorem ggX5_link_X1_hasLink : GoodIn wsX5_link wsX1_hasLink := goodIn_r _ [19, 20, 36, 37, 38, 39, 40, 41, 42, 43, 44, 45, 46, 47] (by decide +kernel) (by decide +kernel)
set_option maxRecDepth 20000 in
theorem gX5_link_X1_hasLink : GoodIn wsX5_link (wsV RX5 131 RX1 yX1_hasLink wsX1_hasLink) := goodIn_app (goodIn_of _ (by decide +kernel)) ggX5_link_X1_hasLink
set_option maxRecDepth 20000 in
theorem ggX5_link_X5_has : GoodIn wsX5_link wsX5_has := goodIn_r _ [24] (by decide +kernel) (by decide +kernel)
set_option maxRecDepth 20000 in
theorem gX5_link_X5_has : GoodIn wsX5_link (va_wsS RX5 151 yX5_has wsX5_has) := goodIn_app (goodIn_of _ (by decide +kernel)) ggX5_link_X5_has
theorem dX5_link_0 : decode cX5_link 0 = .ok (.aload_n 0, 1) := by decide +kernel
theorem dX5_link_1 : decode cX5_link 1 = .ok (.getfield 19, 3) := by decide +kernel
theorem dX5_link_4 : decode cX5_link 4 = .ok (.iload_n 1, 1) := by decide +kernel
theorem dX5_link_5 : decode cX5_link 5 = .ok (.invokevirtual 131, 3) := by decide +kernel
theorem dX5_link_8 : decode cX5_link 8 = .ok (.ifCond .ne 6, 3) := by decide +kernel
theorem dX5_link_11 : decode cX5_link 11 = .ok (.ldc 135, 2) := by decide +kernel
theorem dX5_link_13 : decode cX5_link 13 = .ok (.ireturn, 1) := by decide +kernel
theorem dX5_link_14 : decode cX5_link 14 = .ok (.iload_n 2, 1) := by decide +kernel
theorem dX5_link_15 : decode cX5_link 15 = .ok (.tableswitch 183 0 9 #[53, 63, 73, 83, 93, 103, 123, 143, 163, 173], 53) := by decide +kernel
theorem dX5_link_68 : decode cX5_link 68 = .ok (.aload_n 0, 1) := by decide +kernel
theorem dX5_link_69 : decode cX5_link 69 = .ok (.getfield 19, 3) := by decide +kernel
theorem dX5_link_72 : decode cX5_link 72 = .ok (.getfield 136, 3) := by decide +kernel
theorem dX5_link_75 : decode cX5_link 75 = .ok (.iload_n 1, 1) := by decide +kernel
theorem dX5_link_76 : decode cX5_link 76 = .ok (.iaload, 1) := by decide +kernel
theorem dX5_link_77 : decode cX5_link 77 = .ok (.ireturn, 1) := by decide +kernel
theorem dX5_link_78 : decode cX5_link 78 = .ok (.aload_n 0, 1) := by decide +kernel
theorem dX5_link_79 : decode cX5_link 79 = .ok (.getfield 19, 3) := by decide +kernel
theorem dX5_link_82 : decode cX5_link 82 = .ok (.getfield 139, 3) := by decide +kernel
theorem dX5_link_85 : decode cX5_link 85 = .ok (.iload_n 1, 1) := by decide +kernel
theorem dX5_link_86 : decode cX5_link 86 = .ok (.iaload, 1) := by decide +kernel
theorem dX5_link_87 : decode cX5_link 87 = .ok (.ireturn, 1) := by decide +kernel
theorem dX5_link_88 : decode cX5_link 88 = .ok (.aload_n 0, 1) := by decide +kernel
theorem dX5_link_89 : decode cX5_link 89 = .ok (.getfield 19, 3) := by decide +kernel
theorem dX5_link_92 : decode cX5_link 92 = .ok (.getfield 142, 3) := by decide +kernel
theorem dX5_link_95 : decode cX5_link 95 = .ok (.iload_n 1, 1) := by decide +kernel
theorem dX5_link_96 : decode cX5_link 96 = .ok (.iaload, 1) := by decide +kernel
theorem dX5_link_97 : decode cX5_link 97 = .ok (.ireturn, 1) := by decide +kernel
theorem dX5_link_98 : decode cX5_link 98 = .ok (.aload_n 0, 1) := by decide +kernel
theorem dX5_link_99 : decode cX5_link 99 = .ok (.getfield 19, 3) := by decide +kernel
theorem dX5_link_102 : decode cX5_link 102 = .ok (.getfield 145, 3) := by decide +kernel
theorem dX5_link_105 : decode cX5_link 105 = .ok (.iload_n 1, 1) := by decide +kernel
theorem dX5_link_106 : decode cX5_link 106 = .ok (.iaload, 1) := by decide +kernel
theorem dX5_link_107 : decode cX5_link 107 = .ok (.ireturn, 1) := by decide +kernel
theorem dX5_link_108 : decode cX5_link 108 = .ok (.aload_n 0, 1) := by decide +kernel
theorem dX5_link_109 : decode cX5_link 109 = .ok (.getfield 29, 3) := by decide +kernel
theorem dX5_link_112 : decode cX5_link 112 = .ok (.getfield 148, 3) := by decide +kernel
theorem dX5_link_115 : decode cX5_link 115 = .ok (.iload_n 1, 1) := by decide +kernel
theorem dX5_link_116 : decode cX5_link 116 = .ok (.iaload, 1) := by decide +kernel
theorem dX5_link_117 : decode cX5_link 117 = .ok (.ireturn, 1) := by decide +kernel
theorem dX5_link_118 : decode cX5_link 118 = .ok (.aload_n 0, 1) := by decide +kernel
theorem dX5_link_119 : decode cX5_link 119 = .ok (.getfield 29, 3) := by decide +kernel
theorem dX5_link_122 : decode cX5_link 122 = .ok (.getfield 110, 3) := by decide +kernel
theorem dX5_link_125 : decode cX5_link 125 = .ok (.iload_n 1, 1) := by decide +kernel
theorem dX5_link_126 : decode cX5_link 126 = .ok (.invokestatic 151, 3) := by decide +kernel
theorem dX5_link_129 : decode cX5_link 129 = .ok (.ifCond .eq 7, 3) := by decide +kernel
theorem dX5_link_132 : decode cX5_link 132 = .ok (.iconst 1, 1) := by decide +kernel
theorem dX5_link_133 : decode cX5_link 133 = .ok (.goto 4, 3) := by decide +kernel
theorem dX5_link_136 : decode cX5_link 136 = .ok (.iconst 0, 1) := by decide +kernel
theorem dX5_link_137 : decode cX5_link 137 = .ok (.ireturn, 1) := by decide +kernel
theorem dX5_link_138 : decode cX5_link 138 = .ok (.aload_n 0, 1) := by decide +kernel
theorem dX5_link_139 : decode cX5_link 139 = .ok (.getfield 29, 3) := by decide +kernel
theorem dX5_link_142 : decode cX5_link 142 = .ok (.getfield 117, 3) := by decide +kernel
theorem dX5_link_145 : decode cX5_link 145 = .ok (.iload_n 1, 1) := by decide +kernel
theorem dX5_link_146 : decode cX5_link 146 = .ok (.invokestatic 151, 3) := by decide +kernel
theorem dX5_link_149 : decode cX5_link 149 = .ok (.ifCond .eq 7, 3) := by decide +kernel
theorem dX5_link_152 : decode cX5_link 152 = .ok (.iconst 1, 1) := by decide +kernel
theorem dX5_link_153 : decode cX5_link 153 = .ok (.goto 4, 3) := by decide +kernel
theorem dX5_link_156 : decode cX5_link 156 = .ok (.iconst 0, 1) := by decide +kernel
theorem dX5_link_157 : decode cX5_link 157 = .ok (.ireturn, 1) := by decide +kernel
theorem dX5_link_158 : decode cX5_link 158 = .ok (.aload_n 0, 1) := by decide +kernel
theorem dX5_link_159 : decode cX5_link 159 = .ok (.getfield 29, 3) := by decide +kernel
theorem dX5_link_162 : decode cX5_link 162 = .ok (.getfield 155, 3) := by decide +kernel
theorem dX5_link_165 : decode cX5_link 165 = .ok (.iload_n 1, 1) := by decide +kernel
theorem dX5_link_166 : decode cX5_link 166 = .ok (.invokestatic 151, 3) := by decide +kernel
theorem dX5_link_169 : decode cX5_link 169 = .ok (.ifCond .eq 7, 3) := by decide +kernel
theorem dX5_link_172 : decode cX5_link 172 = .ok (.iconst 1, 1) := by decide +kernel
theorem dX5_link_173 : decode cX5_link 173 = .ok (.goto 4, 3) := by decide +kernel
theorem dX5_link_176 : decode cX5_link 176 = .ok (.iconst 0, 1) := by decide +kernel
theorem dX5_link_177 : decode cX5_link 177 = .ok (.ireturn, 1) := by decide +kernel
theorem dX5_link_178 : decode cX5_link 178 = .ok (.aload_n 0, 1) := by decide +kernel
theorem dX5_link_179 : decode cX5_link 179 = .ok (.getfield 19, 3) := by decide +kernel
theorem dX5_link_182 : decode cX5_link 182 = .ok (.getfield 158, 3) := by decide +kernel
theorem dX5_link_185 : decode cX5_link 185 = .ok (.iload_n 1, 1) := by decide +kernel
theorem dX5_link_186 : decode cX5_link 186 = .ok (.iaload, 1) := by decide +kernel
theorem dX5_link_187 : decode cX5_link 187 = .ok (.ireturn, 1) := by decide +kernel
theorem dX5_link_188 : decode cX5_link 188 = .ok (.aload_n 0, 1) := by decide +kernel
theorem dX5_link_189 : decode cX5_link 189 = .ok (.getfield 19, 3) := by decide +kernel
theorem dX5_link_192 : decode cX5_link 192 = .ok (.getfield 161, 3) := by decide +kernel
theorem dX5_link_195 : decode cX5_link 195 = .ok (.iload_n 1, 1) := by decide +kernel
theorem dX5_link_196 : decode cX5_link 196 = .ok (.iaload, 1) := by decide +kernel
theorem dX5_link_197 : decode cX5_link 197 = .ok (.ireturn, 1) := by decide +kernel
theorem dX5_link_198 : decode cX5_link 198 = .ok (.ldc 68, 2) := by decide +kernel
theorem dX5_link_200 : decode cX5_link 200 = .ok (.ireturn, 1) := by decide +kernel
set_option maxRecDepth 20000 in
theorem ggX5_reads_X1_hasIsland : GoodIn wsX5_reads wsX1_hasIsland := goodIn_r _ [12, 13, 47, 48, 49, 50, 51, 52, 53, 54, 55, 56, 57, 58] (by decide +kernel) (by decide +kernel)
set_option maxRecDepth 20000 in
theorem gX5_reads_X1_hasIsland : GoodIn wsX5_reads (wsV RX5 164 RX1 yX1_hasIsland wsX1_hasIsland) := goodIn_app (goodIn_of _ (by decide +kernel)) ggX5_reads_X1_hasIsland
set_option maxRecDepth 20000 in
theorem ggX5_reads_X1_hasLink : GoodIn wsX5_reads wsX1_hasLink := goodIn_r _ [17, 18, 47, 48, 49, 50, 51, 52, 53, 54, 55, 56, 57, 58] (by decide +kernel) (by decide +kernel)
set_option maxRecDepth 20000 in
theorem gX5_reads_X1_hasLink : GoodIn wsX5_reads (wsV RX5 131 RX1 yX1_hasLink wsX1_hasLink) := goodIn_app (goodIn_of _ (by decide +kernel)) ggX5_reads_X1_hasLink
set_option maxRecDepth 20000 in
theorem ggX5_reads_X5_has : GoodIn wsX5_reads wsX5_has := goodIn_r _ [22] (by decide +kernel) (by decide +kernel)
set_option maxRecDepth 20000 in
theorem gX5_reads_X5_has : GoodIn wsX5_reads (va_wsS RX5 151 yX5_has wsX5_has) := goodIn_app (goodIn_of _ (by decide +kernel)) ggX5_reads_X5_has
set_option maxRecDepth 20000 in
theorem ggX5_reads_X1_sideRead : GoodIn wsX5_reads wsX1_sideRead := goodIn_r _ [26, 27, 28, 47, 48, 49, 50, 51, 52, 53, 54, 55, 56, 57, 58] (by decide +kernel) (by decide +kernel)
set_option maxRecDepth 20000 in
theorem gX5_reads_X1_sideRead : GoodIn wsX5_reads (wsV RX5 170 RX1 yX1_sideRead wsX1_sideRead) := goodIn_app (goodIn_of _ (by decide +kernel)) ggX5_reads_X1_sideRead
theorem dX5_reads_0 : decode cX5_reads 0 = .ok (.aload_n 0, 1) := by decide +kernel
theorem dX5_reads_1 : decode cX5_reads 1 = .ok (.getfield 19, 3) := by decide +kernel
theorem dX5_reads_4 : decode cX5_reads 4 = .ok (.iload_n 1, 1) := by decide +kernel
theorem dX5_reads_5 : decode cX5_reads 5 = .ok (.invokevirtual 164, 3) := by decide +kernel
theorem dX5_reads_8 : decode cX5_reads 8 = .ok (.ifCond .eq 14, 3) := by decide +kernel
theorem dX5_reads_11 : decode cX5_reads 11 = .ok (.aload_n 0, 1) := by decide +kernel
theorem dX5_reads_12 : decode cX5_reads 12 = .ok (.getfield 19, 3) := by decide +kernel
theorem dX5_reads_15 : decode cX5_reads 15 = .ok (.iload_n 2, 1) := by decide +kernel
theorem dX5_reads_16 : decode cX5_reads 16 = .ok (.invokevirtual 131, 3) := by decide +kernel
theorem dX5_reads_19 : decode cX5_reads 19 = .ok (.ifCond .ne 6, 3) := by decide +kernel
theorem dX5_reads_22 : decode cX5_reads 22 = .ok (.ldc 135, 2) := by decide +kernel
theorem dX5_reads_24 : decode cX5_reads 24 = .ok (.ireturn, 1) := by decide +kernel
theorem dX5_reads_25 : decode cX5_reads 25 = .ok (.aload_n 0, 1) := by decide +kernel
theorem dX5_reads_26 : decode cX5_reads 26 = .ok (.getfield 29, 3) := by decide +kernel
theorem dX5_reads_29 : decode cX5_reads 29 = .ok (.getfield 110, 3) := by decide +kernel
theorem dX5_reads_32 : decode cX5_reads 32 = .ok (.iload_n 2, 1) := by decide +kernel
theorem dX5_reads_33 : decode cX5_reads 33 = .ok (.invokestatic 151, 3) := by decide +kernel
theorem dX5_reads_36 : decode cX5_reads 36 = .ok (.ifCond .eq 19, 3) := by decide +kernel
theorem dX5_reads_39 : decode cX5_reads 39 = .ok (.aload_n 0, 1) := by decide +kernel
theorem dX5_reads_40 : decode cX5_reads 40 = .ok (.getfield 19, 3) := by decide +kernel
theorem dX5_reads_43 : decode cX5_reads 43 = .ok (.getfield 167, 3) := by decide +kernel
theorem dX5_reads_46 : decode cX5_reads 46 = .ok (.iload_n 2, 1) := by decide +kernel
theorem dX5_reads_47 : decode cX5_reads 47 = .ok (.iaload, 1) := by decide +kernel
theorem dX5_reads_48 : decode cX5_reads 48 = .ok (.iload_n 1, 1) := by decide +kernel
theorem dX5_reads_49 : decode cX5_reads 49 = .ok (.invokestatic 151, 3) := by decide +kernel
theorem dX5_reads_52 : decode cX5_reads 52 = .ok (.ifCond .ne 5, 3) := by decide +kernel
theorem dX5_reads_55 : decode cX5_reads 55 = .ok (.iconst (-1), 1) := by decide +kernel
theorem dX5_reads_56 : decode cX5_reads 56 = .ok (.ireturn, 1) := by decide +kernel
theorem dX5_reads_57 : decode cX5_reads 57 = .ok (.aload_n 0, 1) := by decide +kernel
theorem dX5_reads_58 : decode cX5_reads 58 = .ok (.getfield 19, 3) := by decide +kernel
theorem dX5_reads_61 : decode cX5_reads 61 = .ok (.iload_n 2, 1) := by decide +kernel
theorem dX5_reads_62 : decode cX5_reads 62 = .ok (.iload_n 1, 1) := by decide +kernel
theorem dX5_reads_63 : decode cX5_reads 63 = .ok (.aload_n 0, 1) := by decide +kernel
theorem dX5_reads_64 : decode cX5_reads 64 = .ok (.getfield 19, 3) := by decide +kernel
theorem dX5_reads_67 : decode cX5_reads 67 = .ok (.getfield 136, 3) := by decide +kernel
theorem dX5_reads_70 : decode cX5_reads 70 = .ok (.iload_n 2, 1) := by decide +kernel
theorem dX5_reads_71 : decode cX5_reads 71 = .ok (.iaload, 1) := by decide +kernel
theorem dX5_reads_72 : decode cX5_reads 72 = .ok (.if_icmp .ne 7, 3) := by decide +kernel
theorem dX5_reads_75 : decode cX5_reads 75 = .ok (.iconst 1, 1) := by decide +kernel
theorem dX5_reads_76 : decode cX5_reads 76 = .ok (.goto 4, 3) := by decide +kernel
theorem dX5_reads_79 : decode cX5_reads 79 = .ok (.iconst 0, 1) := by decide +kernel
theorem dX5_reads_80 : decode cX5_reads 80 = .ok (.aload_n 0, 1) := by decide +kernel
theorem dX5_reads_81 : decode cX5_reads 81 = .ok (.getfield 29, 3) := by decide +kernel
theorem dX5_reads_84 : decode cX5_reads 84 = .ok (.getfield 117, 3) := by decide +kernel
theorem dX5_reads_87 : decode cX5_reads 87 = .ok (.iload_n 2, 1) := by decide +kernel
theorem dX5_reads_88 : decode cX5_reads 88 = .ok (.invokestatic 151, 3) := by decide +kernel
theorem dX5_reads_91 : decode cX5_reads 91 = .ok (.invokevirtual 170, 3) := by decide +kernel
theorem dX5_reads_94 : decode cX5_reads 94 = .ok (.ireturn, 1) := by decide +kernel
set_option maxRecDepth 20000 in
theorem ggX5_wind_X5_isWithin : GoodIn wsX5_wind wsX5_isWithin := goodIn_r _ [9] (by decide +kernel) (by decide +kernel)
set_option maxRecDepth 20000 in
theorem gX5_wind_X5_isWithin : GoodIn wsX5_wind (va_wsS RX5 64 yX5_isWithin wsX5_isWithin) := goodIn_app (goodIn_of _ (by decide +kernel)) ggX5_wind_X5_isWithin
set_option maxRecDepth 20000 in
theorem ggX5_wind_X1_isThere : GoodIn wsX5_wind wsX1_isThere := goodIn_r _ [14, 15, 40, 41, 42, 43, 44, 45, 46, 47, 48, 49, 50, 51] (by decide +kernel) (by decide +kernel)
set_option maxRecDepth 20000 in
theorem gX5_wind_X1_isThere : GoodIn wsX5_wind (wsV RX5 174 RX1 yX1_isThere wsX1_isThere) := goodIn_app (goodIn_of _ (by decide +kernel)) ggX5_wind_X1_isThere
set_option maxRecDepth 20000 in
theorem ggX5_wind_X1_windOf : GoodIn wsX5_wind wsX1_windOf := goodIn_r _ [19, 20, 21, 40, 41, 42, 43, 44, 45, 46, 47, 48, 49, 50, 51] (by decide +kernel) (by decide +kernel)
set_option maxRecDepth 20000 in
theorem gX5_wind_X1_windOf : GoodIn wsX5_wind (wsV RX5 179 RX1 yX1_windOf wsX1_windOf) := goodIn_app (goodIn_of _ (by decide +kernel)) ggX5_wind_X1_windOf
theorem dX5_wind_0 : decode cX5_wind 0 = .ok (.iload_n 1, 1) := by decide +kernel
theorem dX5_wind_1 : decode cX5_wind 1 = .ok (.iconst 0, 1) := by decide +kernel
theorem dX5_wind_2 : decode cX5_wind 2 = .ok (.bipush 60, 2) := by decide +kernel
theorem dX5_wind_4 : decode cX5_wind 4 = .ok (.invokestatic 64, 3) := by decide +kernel
theorem dX5_wind_7 : decode cX5_wind 7 = .ok (.ifCond .ne 6, 3) := by decide +kernel
theorem dX5_wind_10 : decode cX5_wind 10 = .ok (.ldc 68, 2) := by decide +kernel
theorem dX5_wind_12 : decode cX5_wind 12 = .ok (.ireturn, 1) := by decide +kernel
theorem dX5_wind_13 : decode cX5_wind 13 = .ok (.aload_n 0, 1) := by decide +kernel
theorem dX5_wind_14 : decode cX5_wind 14 = .ok (.getfield 19, 3) := by decide +kernel
theorem dX5_wind_17 : decode cX5_wind 17 = .ok (.invokevirtual 174, 3) := by decide +kernel
theorem dX5_wind_20 : decode cX5_wind 20 = .ok (.ifCond .ne 6, 3) := by decide +kernel
theorem dX5_wind_23 : decode cX5_wind 23 = .ok (.ldc 178, 2) := by decide +kernel
theorem dX5_wind_25 : decode cX5_wind 25 = .ok (.ireturn, 1) := by decide +kernel
theorem dX5_wind_26 : decode cX5_wind 26 = .ok (.aload_n 0, 1) := by decide +kernel
theorem dX5_wind_27 : decode cX5_wind 27 = .ok (.getfield 19, 3) := by decide +kernel
theorem dX5_wind_30 : decode cX5_wind 30 = .ok (.aload_n 0, 1) := by decide +kernel
theorem dX5_wind_31 : decode cX5_wind 31 = .ok (.getfield 29, 3) := by decide +kernel
theorem dX5_wind_34 : decode cX5_wind 34 = .ok (.getfield 101, 3) := by decide +kernel
theorem dX5_wind_37 : decode cX5_wind 37 = .ok (.iload_n 1, 1) := by decide +kernel
theorem dX5_wind_38 : decode cX5_wind 38 = .ok (.iadd, 1) := by decide +kernel
theorem dX5_wind_39 : decode cX5_wind 39 = .ok (.invokevirtual 179, 3) := by decide +kernel
theorem dX5_wind_42 : decode cX5_wind 42 = .ok (.ireturn, 1) := by decide +kernel
set_option maxRecDepth 20000 in
theorem ggX5_hour_X5_refusalOfHours : GoodIn wsX5_hour wsX5_refusalOfHours := goodIn_r _ [9, 10, 3, 11, 2, 12, 13, 14, 15, 16, 8, 17, 18, 19, 20, 21, 22, 23, 85, 86, 87, 88, 89, 90, 91, 92, 93, 94, 95, 96, 97, 98, 99, 100, 101, 102, 103, 104, 105, 106, 107, 108, 109, 110, 111, 112, 113, 114] (by decide +kernel) (by decide +kernel)
set_option maxRecDepth 20000 in
theorem gX5_hour_X5_refusalOfHours : GoodIn wsX5_hour (wsV RX5 182 RX5 yX5_refusalOfHours wsX5_refusalOfHours) := goodIn_app (goodIn_of _ (by decide +kernel)) ggX5_hour_X5_refusalOfHours
set_option maxRecDepth 20000 in
theorem ggX5_hour_X2_note : GoodIn wsX5_hour wsX2_note := goodIn_r _ [28, 29, 30, 31, 32, 33, 34, 35, 36, 37, 38, 39, 40, 41, 42, 43, 44, 45, 46, 47, 48, 49, 50, 51, 115, 116, 117, 96, 97, 98, 99, 100, 101, 102] (by decide +kernel) (by decide +kernel)
set_option maxRecDepth 20000 in
theorem gX5_hour_X2_note : GoodIn wsX5_hour (wsV RX5 185 RX2 yX2_note wsX2_note) := goodIn_app (goodIn_of _ (by decide +kernel)) ggX5_hour_X2_note
set_option maxRecDepth 20000 in
theorem ggX5_hour_X0_passHour : GoodIn wsX5_hour wsX0_passHour := goodIn_r _ [55, 49, 56, 46, 41, 57, 48, 58, 33, 34, 35, 51, 59, 60, 61, 21, 62, 63, 64, 65, 8, 66, 67, 68, 39, 69, 70, 71, 72, 73, 74, 75, 76, 77, 78, 79, 80, 81, 82, 83, 84, 96, 97, 98, 99, 100, 101, 102, 103, 104, 105, 106, 107, 108, 109, 110, 111, 112, 113, 114] (by decide +kernel) (by decide +kernel)
set_option maxRecDepth 20000 in
theorem gX5_hour_X0_passHour : GoodIn wsX5_hour (wsV RX5 189 RX0 yX0_passHour wsX0_passHour) := goodIn_app (goodIn_of _ (by decide +kernel)) ggX5_hour_X0_passHour
theorem dX5_hour_0 : decode cX5_hour 0 = .ok (.aload_n 0, 1) := by decide +kernel
theorem dX5_hour_1 : decode cX5_hour 1 = .ok (.iload_n 1, 1) := by decide +kernel
theorem dX5_hour_2 : decode cX5_hour 2 = .ok (.invokevirtual 182, 3) := by decide +kernel
theorem dX5_hour_5 : decode cX5_hour 5 = .ok (.istore_n 2, 1) := by decide +kernel
theorem dX5_hour_6 : decode cX5_hour 6 = .ok (.iload_n 2, 1) := by decide +kernel
theorem dX5_hour_7 : decode cX5_hour 7 = .ok (.ifCond .eq 5, 3) := by decide +kernel
theorem dX5_hour_10 : decode cX5_hour 10 = .ok (.iload_n 2, 1) := by decide +kernel
theorem dX5_hour_11 : decode cX5_hour 11 = .ok (.ireturn, 1) := by decide +kernel
theorem dX5_hour_12 : decode cX5_hour 12 = .ok (.iconst 0, 1) := by decide +kernel
theorem dX5_hour_13 : decode cX5_hour 13 = .ok (.istore_n 3, 1) := by decide +kernel
theorem dX5_hour_14 : decode cX5_hour 14 = .ok (.iload_n 3, 1) := by decide +kernel
theorem dX5_hour_15 : decode cX5_hour 15 = .ok (.iload_n 1, 1) := by decide +kernel
theorem dX5_hour_16 : decode cX5_hour 16 = .ok (.if_icmp .ge 32, 3) := by decide +kernel
theorem dX5_hour_19 : decode cX5_hour 19 = .ok (.aload_n 0, 1) := by decide +kernel
theorem dX5_hour_20 : decode cX5_hour 20 = .ok (.getfield 39, 3) := by decide +kernel
theorem dX5_hour_23 : decode cX5_hour 23 = .ok (.aload_n 0, 1) := by decide +kernel
theorem dX5_hour_24 : decode cX5_hour 24 = .ok (.getfield 29, 3) := by decide +kernel
theorem dX5_hour_27 : decode cX5_hour 27 = .ok (.invokevirtual 185, 3) := by decide +kernel
theorem dX5_hour_30 : decode cX5_hour 30 = .ok (.aload_n 0, 1) := by decide +kernel
theorem dX5_hour_31 : decode cX5_hour 31 = .ok (.getfield 29, 3) := by decide +kernel
theorem dX5_hour_34 : decode cX5_hour 34 = .ok (.aload_n 0, 1) := by decide +kernel
theorem dX5_hour_35 : decode cX5_hour 35 = .ok (.getfield 19, 3) := by decide +kernel
theorem dX5_hour_38 : decode cX5_hour 38 = .ok (.invokevirtual 189, 3) := by decide +kernel
theorem dX5_hour_41 : decode cX5_hour 41 = .ok (.pop, 1) := by decide +kernel
theorem dX5_hour_42 : decode cX5_hour 42 = .ok (.iinc 3 1, 3) := by decide +kernel
theorem dX5_hour_45 : decode cX5_hour 45 = .ok (.goto (-31), 3) := by decide +kernel
theorem dX5_hour_48 : decode cX5_hour 48 = .ok (.aload_n 0, 1) := by decide +kernel
theorem dX5_hour_49 : decode cX5_hour 49 = .ok (.getfield 29, 3) := by decide +kernel
theorem dX5_hour_52 : decode cX5_hour 52 = .ok (.getfield 110, 3) := by decide +kernel
theorem dX5_hour_55 : decode cX5_hour 55 = .ok (.ireturn, 1) := by decide +kernel
set_option maxRecDepth 20000 in
theorem ggX5_undoLink_X1_hasLink : GoodIn wsX5_undoLink wsX1_hasLink := goodIn_r _ [11, 12, 70, 71, 72, 73, 74, 75, 76, 77, 78, 79, 80, 81] (by decide +kernel) (by decide +kernel)
set_option maxRecDepth 20000 in
theorem gX5_undoLink_X1_hasLink : GoodIn wsX5_undoLink (wsV RX5 131 RX1 yX1_hasLink wsX1_hasLink) := goodIn_app (goodIn_of _ (by decide +kernel)) ggX5_undoLink_X1_hasLink
set_option maxRecDepth 20000 in
theorem ggX5_undoLink_X5_has : GoodIn wsX5_undoLink wsX5_has := goodIn_r _ [16] (by decide +kernel) (by decide +kernel)
set_option maxRecDepth 20000 in
theorem gX5_undoLink_X5_has : GoodIn wsX5_undoLink (va_wsS RX5 151 yX5_has wsX5_has) := goodIn_app (goodIn_of _ (by decide +kernel)) ggX5_undoLink_X5_has
set_option maxRecDepth 20000 in
theorem ggX5_undoLink_X2_note : GoodIn wsX5_undoLink wsX2_note := goodIn_r _ [21, 22, 23, 24, 25, 26, 27, 28, 29, 30, 31, 32, 33, 34, 35, 36, 37, 38, 39, 40, 41, 42, 43, 44, 82, 83, 84, 63, 64, 65, 66, 67, 68, 69] (by decide +kernel) (by decide +kernel)
set_option maxRecDepth 20000 in
theorem gX5_undoLink_X2_note : GoodIn wsX5_undoLink (wsV RX5 185 RX2 yX2_note wsX2_note) := goodIn_app (goodIn_of _ (by decide +kernel)) ggX5_undoLink_X2_note
set_option maxRecDepth 20000 in
theorem ggX5_undoLink_J6_bitCount_0f7a4 : GoodIn wsX5_undoLink wsJ6_bitCount_0f7a4 := goodIn_r _ [48, 49, 50, 51] (by decide +kernel) (by decide +kernel)
set_option maxRecDepth 20000 in
theorem gX5_undoLink_J6_bitCount_0f7a4 : GoodIn wsX5_undoLink (va_wsS RX5 192 yJ6_bitCount_0f7a4 wsJ6_bitCount_0f7a4) := goodIn_app (goodIn_of _ (by decide +kernel)) ggX5_undoLink_J6_bitCount_0f7a4
theorem dX5_undoLink_0 : decode cX5_undoLink 0 = .ok (.aload_n 0, 1) := by decide +kernel
theorem dX5_undoLink_1 : decode cX5_undoLink 1 = .ok (.getfield 19, 3) := by decide +kernel
theorem dX5_undoLink_4 : decode cX5_undoLink 4 = .ok (.iload_n 1, 1) := by decide +kernel
theorem dX5_undoLink_5 : decode cX5_undoLink 5 = .ok (.invokevirtual 131, 3) := by decide +kernel
theorem dX5_undoLink_8 : decode cX5_undoLink 8 = .ok (.ifCond .ne 6, 3) := by decide +kernel
theorem dX5_undoLink_11 : decode cX5_undoLink 11 = .ok (.ldc 135, 2) := by decide +kernel
theorem dX5_undoLink_13 : decode cX5_undoLink 13 = .ok (.ireturn, 1) := by decide +kernel
theorem dX5_undoLink_14 : decode cX5_undoLink 14 = .ok (.aload_n 0, 1) := by decide +kernel
theorem dX5_undoLink_15 : decode cX5_undoLink 15 = .ok (.getfield 29, 3) := by decide +kernel
theorem dX5_undoLink_18 : decode cX5_undoLink 18 = .ok (.getfield 110, 3) := by decide +kernel
theorem dX5_undoLink_21 : decode cX5_undoLink 21 = .ok (.iload_n 1, 1) := by decide +kernel
theorem dX5_undoLink_22 : decode cX5_undoLink 22 = .ok (.invokestatic 151, 3) := by decide +kernel
theorem dX5_undoLink_25 : decode cX5_undoLink 25 = .ok (.ifCond .ne 6, 3) := by decide +kernel
theorem dX5_undoLink_28 : decode cX5_undoLink 28 = .ok (.ldc 178, 2) := by decide +kernel
theorem dX5_undoLink_30 : decode cX5_undoLink 30 = .ok (.ireturn, 1) := by decide +kernel
theorem dX5_undoLink_31 : decode cX5_undoLink 31 = .ok (.aload_n 0, 1) := by decide +kernel
theorem dX5_undoLink_32 : decode cX5_undoLink 32 = .ok (.getfield 39, 3) := by decide +kernel
theorem dX5_undoLink_35 : decode cX5_undoLink 35 = .ok (.aload_n 0, 1) := by decide +kernel
theorem dX5_undoLink_36 : decode cX5_undoLink 36 = .ok (.getfield 29, 3) := by decide +kernel
theorem dX5_undoLink_39 : decode cX5_undoLink 39 = .ok (.invokevirtual 185, 3) := by decide +kernel
theorem dX5_undoLink_42 : decode cX5_undoLink 42 = .ok (.aload_n 0, 1) := by decide +kernel
theorem dX5_undoLink_43 : decode cX5_undoLink 43 = .ok (.getfield 29, 3) := by decide +kernel
theorem dX5_undoLink_46 : decode cX5_undoLink 46 = .ok (.dup, 1) := by decide +kernel
theorem dX5_undoLink_47 : decode cX5_undoLink 47 = .ok (.getfield 110, 3) := by decide +kernel
theorem dX5_undoLink_50 : decode cX5_undoLink 50 = .ok (.iconst 1, 1) := by decide +kernel
theorem dX5_undoLink_51 : decode cX5_undoLink 51 = .ok (.iload_n 1, 1) := by decide +kernel
theorem dX5_undoLink_52 : decode cX5_undoLink 52 = .ok (.ishl, 1) := by decide +kernel
theorem dX5_undoLink_53 : decode cX5_undoLink 53 = .ok (.iconst (-1), 1) := by decide +kernel
theorem dX5_undoLink_54 : decode cX5_undoLink 54 = .ok (.ixor, 1) := by decide +kernel
theorem dX5_undoLink_55 : decode cX5_undoLink 55 = .ok (.iand, 1) := by decide +kernel
theorem dX5_undoLink_56 : decode cX5_undoLink 56 = .ok (.putfield 110, 3) := by decide +kernel
theorem dX5_undoLink_59 : decode cX5_undoLink 59 = .ok (.aload_n 0, 1) := by decide +kernel
theorem dX5_undoLink_60 : decode cX5_undoLink 60 = .ok (.getfield 29, 3) := by decide +kernel
theorem dX5_undoLink_63 : decode cX5_undoLink 63 = .ok (.getfield 110, 3) := by decide +kernel
theorem dX5_undoLink_66 : decode cX5_undoLink 66 = .ok (.invokestatic 192, 3) := by decide +kernel
theorem dX5_undoLink_69 : decode cX5_undoLink 69 = .ok (.ireturn, 1) := by decide +kernel
set_option maxRecDepth 20000 in
theorem ggX5_doUp_X1_hasLink : GoodIn wsX5_doUp wsX1_hasLink := goodIn_r _ [11, 12, 78, 79, 80, 81, 82, 83, 84, 85, 86, 87, 88, 89] (by decide +kernel) (by decide +kernel)
set_option maxRecDepth 20000 in
theorem gX5_doUp_X1_hasLink : GoodIn wsX5_doUp (wsV RX5 131 RX1 yX1_hasLink wsX1_hasLink) := goodIn_app (goodIn_of _ (by decide +kernel)) ggX5_doUp_X1_hasLink
set_option maxRecDepth 20000 in
theorem ggX5_doUp_X0_canBeDoneUp : GoodIn wsX5_doUp wsX0_canBeDoneUp := goodIn_r _ [17, 18, 19, 20, 21, 22, 23, 24, 16, 25, 26, 27, 71, 72, 73, 74, 75, 76, 77, 78, 79, 80, 81, 82, 83, 84, 85, 86, 87, 88, 89] (by decide +kernel) (by decide +kernel)
set_option maxRecDepth 20000 in
theorem gX5_doUp_X0_canBeDoneUp : GoodIn wsX5_doUp (wsV RX5 197 RX0 yX0_canBeDoneUp wsX0_canBeDoneUp) := goodIn_app (goodIn_of _ (by decide +kernel)) ggX5_doUp_X0_canBeDoneUp
set_option maxRecDepth 20000 in
theorem ggX5_doUp_X2_note : GoodIn wsX5_doUp wsX2_note := goodIn_r _ [32, 33, 34, 35, 36, 37, 38, 39, 40, 41, 42, 16, 43, 27, 44, 45, 46, 47, 18, 48, 49, 50, 51, 52, 90, 91, 92, 71, 72, 73, 74, 75, 76, 77] (by decide +kernel) (by decide +kernel)
set_option maxRecDepth 20000 in
theorem gX5_doUp_X2_note : GoodIn wsX5_doUp (wsV RX5 185 RX2 yX2_note wsX2_note) := goodIn_app (goodIn_of _ (by decide +kernel)) ggX5_doUp_X2_note
set_option maxRecDepth 20000 in
theorem ggX5_doUp_J6_bitCount_0f7a4 : GoodIn wsX5_doUp wsJ6_bitCount_0f7a4 := goodIn_r _ [56, 57, 58, 59] (by decide +kernel) (by decide +kernel)
set_option maxRecDepth 20000 in
theorem gX5_doUp_J6_bitCount_0f7a4 : GoodIn wsX5_doUp (va_wsS RX5 192 yJ6_bitCount_0f7a4 wsJ6_bitCount_0f7a4) := goodIn_app (goodIn_of _ (by decide +kernel)) ggX5_doUp_J6_bitCount_0f7a4
theorem dX5_doUp_0 : decode cX5_doUp 0 = .ok (.aload_n 0, 1) := by decide +kernel
theorem dX5_doUp_1 : decode cX5_doUp 1 = .ok (.getfield 19, 3) := by decide +kernel
theorem dX5_doUp_4 : decode cX5_doUp 4 = .ok (.iload_n 1, 1) := by decide +kernel
theorem dX5_doUp_5 : decode cX5_doUp 5 = .ok (.invokevirtual 131, 3) := by decide +kernel
theorem dX5_doUp_8 : decode cX5_doUp 8 = .ok (.ifCond .ne 6, 3) := by decide +kernel
theorem dX5_doUp_11 : decode cX5_doUp 11 = .ok (.ldc 135, 2) := by decide +kernel
theorem dX5_doUp_13 : decode cX5_doUp 13 = .ok (.ireturn, 1) := by decide +kernel
theorem dX5_doUp_14 : decode cX5_doUp 14 = .ok (.aload_n 0, 1) := by decide +kernel
theorem dX5_doUp_15 : decode cX5_doUp 15 = .ok (.getfield 29, 3) := by decide +kernel
theorem dX5_doUp_18 : decode cX5_doUp 18 = .ok (.aload_n 0, 1) := by decide +kernel
theorem dX5_doUp_19 : decode cX5_doUp 19 = .ok (.getfield 19, 3) := by decide +kernel
theorem dX5_doUp_22 : decode cX5_doUp 22 = .ok (.iload_n 1, 1) := by decide +kernel
theorem dX5_doUp_23 : decode cX5_doUp 23 = .ok (.invokevirtual 197, 3) := by decide +kernel
theorem dX5_doUp_26 : decode cX5_doUp 26 = .ok (.ifCond .ne 6, 3) := by decide +kernel
theorem dX5_doUp_29 : decode cX5_doUp 29 = .ok (.ldc 178, 2) := by decide +kernel
theorem dX5_doUp_31 : decode cX5_doUp 31 = .ok (.ireturn, 1) := by decide +kernel
theorem dX5_doUp_32 : decode cX5_doUp 32 = .ok (.aload_n 0, 1) := by decide +kernel
theorem dX5_doUp_33 : decode cX5_doUp 33 = .ok (.getfield 39, 3) := by decide +kernel
theorem dX5_doUp_36 : decode cX5_doUp 36 = .ok (.aload_n 0, 1) := by decide +kernel
theorem dX5_doUp_37 : decode cX5_doUp 37 = .ok (.getfield 29, 3) := by decide +kernel
theorem dX5_doUp_40 : decode cX5_doUp 40 = .ok (.invokevirtual 185, 3) := by decide +kernel
theorem dX5_doUp_43 : decode cX5_doUp 43 = .ok (.aload_n 0, 1) := by decide +kernel
theorem dX5_doUp_44 : decode cX5_doUp 44 = .ok (.getfield 29, 3) := by decide +kernel
theorem dX5_doUp_47 : decode cX5_doUp 47 = .ok (.dup, 1) := by decide +kernel
theorem dX5_doUp_48 : decode cX5_doUp 48 = .ok (.getfield 110, 3) := by decide +kernel
theorem dX5_doUp_51 : decode cX5_doUp 51 = .ok (.iconst 1, 1) := by decide +kernel
theorem dX5_doUp_52 : decode cX5_doUp 52 = .ok (.iload_n 1, 1) := by decide +kernel
theorem dX5_doUp_53 : decode cX5_doUp 53 = .ok (.ishl, 1) := by decide +kernel
theorem dX5_doUp_54 : decode cX5_doUp 54 = .ok (.ior, 1) := by decide +kernel
theorem dX5_doUp_55 : decode cX5_doUp 55 = .ok (.putfield 110, 3) := by decide +kernel
theorem dX5_doUp_58 : decode cX5_doUp 58 = .ok (.aload_n 0, 1) := by decide +kernel
theorem dX5_doUp_59 : decode cX5_doUp 59 = .ok (.getfield 29, 3) := by decide +kernel
theorem dX5_doUp_62 : decode cX5_doUp 62 = .ok (.getfield 110, 3) := by decide +kernel
theorem dX5_doUp_65 : decode cX5_doUp 65 = .ok (.invokestatic 192, 3) := by decide +kernel
theorem dX5_doUp_68 : decode cX5_doUp 68 = .ok (.ireturn, 1) := by decide +kernel
set_option maxRecDepth 20000 in
theorem ggX5_turn_X1_hasLink : GoodIn wsX5_turn wsX1_hasLink := goodIn_r _ [10, 11, 62, 63, 64, 65, 66, 67, 68, 69, 70, 71, 72, 73] (by decide +kernel) (by decide +kernel)
set_option maxRecDepth 20000 in
theorem gX5_turn_X1_hasLink : GoodIn wsX5_turn (wsV RX5 131 RX1 yX1_hasLink wsX1_hasLink) := goodIn_app (goodIn_of _ (by decide +kernel)) ggX5_turn_X1_hasLink
set_option maxRecDepth 20000 in
theorem ggX5_turn_X2_note : GoodIn wsX5_turn wsX2_note := goodIn_r _ [16, 17, 18, 19, 20, 21, 22, 23, 24, 25, 26, 27, 28, 29, 30, 31, 32, 33, 34, 35, 36, 37, 38, 39, 74, 75, 76, 55, 56, 57, 58, 59, 60, 61] (by decide +kernel) (by decide +kernel)
set_option maxRecDepth 20000 in
theorem gX5_turn_X2_note : GoodIn wsX5_turn (wsV RX5 185 RX2 yX2_note wsX2_note) := goodIn_app (goodIn_of _ (by decide +kernel)) ggX5_turn_X2_note
set_option maxRecDepth 20000 in
theorem ggX5_turn_X5_has : GoodIn wsX5_turn wsX5_has := goodIn_r _ [43] (by decide +kernel) (by decide +kernel)
set_option maxRecDepth 20000 in
theorem gX5_turn_X5_has : GoodIn wsX5_turn (va_wsS RX5 151 yX5_has wsX5_has) := goodIn_app (goodIn_of _ (by decide +kernel)) ggX5_turn_X5_has
theorem dX5_turn_0 : decode cX5_turn 0 = .ok (.aload_n 0, 1) := by decide +kernel
theorem dX5_turn_1 : decode cX5_turn 1 = .ok (.getfield 19, 3) := by decide +kernel
theorem dX5_turn_4 : decode cX5_turn 4 = .ok (.iload_n 1, 1) := by decide +kernel
theorem dX5_turn_5 : decode cX5_turn 5 = .ok (.invokevirtual 131, 3) := by decide +kernel
theorem dX5_turn_8 : decode cX5_turn 8 = .ok (.ifCond .ne 6, 3) := by decide +kernel
theorem dX5_turn_11 : decode cX5_turn 11 = .ok (.ldc 135, 2) := by decide +kernel
theorem dX5_turn_13 : decode cX5_turn 13 = .ok (.ireturn, 1) := by decide +kernel
theorem dX5_turn_14 : decode cX5_turn 14 = .ok (.aload_n 0, 1) := by decide +kernel
theorem dX5_turn_15 : decode cX5_turn 15 = .ok (.getfield 39, 3) := by decide +kernel
theorem dX5_turn_18 : decode cX5_turn 18 = .ok (.aload_n 0, 1) := by decide +kernel
theorem dX5_turn_19 : decode cX5_turn 19 = .ok (.getfield 29, 3) := by decide +kernel
theorem dX5_turn_22 : decode cX5_turn 22 = .ok (.invokevirtual 185, 3) := by decide +kernel
theorem dX5_turn_25 : decode cX5_turn 25 = .ok (.aload_n 0, 1) := by decide +kernel
theorem dX5_turn_26 : decode cX5_turn 26 = .ok (.getfield 29, 3) := by decide +kernel
theorem dX5_turn_29 : decode cX5_turn 29 = .ok (.dup, 1) := by decide +kernel
theorem dX5_turn_30 : decode cX5_turn 30 = .ok (.getfield 117, 3) := by decide +kernel
theorem dX5_turn_33 : decode cX5_turn 33 = .ok (.iconst 1, 1) := by decide +kernel
theorem dX5_turn_34 : decode cX5_turn 34 = .ok (.iload_n 1, 1) := by decide +kernel
theorem dX5_turn_35 : decode cX5_turn 35 = .ok (.ishl, 1) := by decide +kernel
theorem dX5_turn_36 : decode cX5_turn 36 = .ok (.ixor, 1) := by decide +kernel
theorem dX5_turn_37 : decode cX5_turn 37 = .ok (.putfield 117, 3) := by decide +kernel
theorem dX5_turn_40 : decode cX5_turn 40 = .ok (.aload_n 0, 1) := by decide +kernel
theorem dX5_turn_41 : decode cX5_turn 41 = .ok (.getfield 29, 3) := by decide +kernel
theorem dX5_turn_44 : decode cX5_turn 44 = .ok (.getfield 117, 3) := by decide +kernel
theorem dX5_turn_47 : decode cX5_turn 47 = .ok (.iload_n 1, 1) := by decide +kernel
theorem dX5_turn_48 : decode cX5_turn 48 = .ok (.invokestatic 151, 3) := by decide +kernel
theorem dX5_turn_51 : decode cX5_turn 51 = .ok (.ifCond .eq 7, 3) := by decide +kernel
theorem dX5_turn_54 : decode cX5_turn 54 = .ok (.iconst 1, 1) := by decide +kernel
theorem dX5_turn_55 : decode cX5_turn 55 = .ok (.goto 4, 3) := by decide +kernel
theorem dX5_turn_58 : decode cX5_turn 58 = .ok (.iconst 0, 1) := by decide +kernel
theorem dX5_turn_59 : decode cX5_turn 59 = .ok (.ireturn, 1) := by decide +kernel
set_option maxRecDepth 20000 in
theorem ggX5_mend_X1_hasLink : GoodIn wsX5_mend wsX1_hasLink := goodIn_r _ [12, 13, 60, 61, 62, 63, 64, 65, 66, 67, 68, 69, 70, 71] (by decide +kernel) (by decide +kernel)
set_option maxRecDepth 20000 in
theorem gX5_mend_X1_hasLink : GoodIn wsX5_mend (wsV RX5 131 RX1 yX1_hasLink wsX1_hasLink) := goodIn_app (goodIn_of _ (by decide +kernel)) ggX5_mend_X1_hasLink
set_option maxRecDepth 20000 in
theorem ggX5_mend_X2_note : GoodIn wsX5_mend wsX2_note := goodIn_r _ [18, 19, 20, 21, 22, 23, 24, 25, 26, 27, 28, 29, 30, 31, 32, 33, 34, 35, 36, 37, 38, 39, 40, 41, 72, 73, 74, 53, 54, 55, 56, 57, 58, 59] (by decide +kernel) (by decide +kernel)
set_option maxRecDepth 20000 in
theorem gX5_mend_X2_note : GoodIn wsX5_mend (wsV RX5 185 RX2 yX2_note wsX2_note) := goodIn_app (goodIn_of _ (by decide +kernel)) ggX5_mend_X2_note
theorem dX5_mend_0 : decode cX5_mend 0 = .ok (.aload_n 0, 1) := by decide +kernel
theorem dX5_mend_1 : decode cX5_mend 1 = .ok (.getfield 19, 3) := by decide +kernel
theorem dX5_mend_4 : decode cX5_mend 4 = .ok (.iload_n 1, 1) := by decide +kernel
theorem dX5_mend_5 : decode cX5_mend 5 = .ok (.invokevirtual 131, 3) := by decide +kernel
theorem dX5_mend_8 : decode cX5_mend 8 = .ok (.ifCond .ne 6, 3) := by decide +kernel
theorem dX5_mend_11 : decode cX5_mend 11 = .ok (.ldc 135, 2) := by decide +kernel
theorem dX5_mend_13 : decode cX5_mend 13 = .ok (.ireturn, 1) := by decide +kernel
theorem dX5_mend_14 : decode cX5_mend 14 = .ok (.aload_n 0, 1) := by decide +kernel
theorem dX5_mend_15 : decode cX5_mend 15 = .ok (.getfield 29, 3) := by decide +kernel
theorem dX5_mend_18 : decode cX5_mend 18 = .ok (.getfield 104, 3) := by decide +kernel
theorem dX5_mend_21 : decode cX5_mend 21 = .ok (.iconst 1, 1) := by decide +kernel
theorem dX5_mend_22 : decode cX5_mend 22 = .ok (.if_icmp .ge 6, 3) := by decide +kernel
theorem dX5_mend_25 : decode cX5_mend 25 = .ok (.ldc 178, 2) := by decide +kernel
theorem dX5_mend_27 : decode cX5_mend 27 = .ok (.ireturn, 1) := by decide +kernel
theorem dX5_mend_28 : decode cX5_mend 28 = .ok (.aload_n 0, 1) := by decide +kernel
