theorem dX6_alone_36 : decode cX6_alone 36 = .ok (.iconst (-1), 1) := by decide +kernel
theorem dX6_alone_37 : decode cX6_alone 37 = .ok (.ixor, 1) := by decide +kernel
theorem dX6_alone_38 : decode cX6_alone 38 = .ok (.iand, 1) := by decide +kernel
theorem dX6_alone_39 : decode cX6_alone 39 = .ok (.invokevirtual 188, 3) := by decide +kernel
theorem dX6_alone_42 : decode cX6_alone 42 = .ok (.aload_n 0, 1) := by decide +kernel
theorem dX6_alone_43 : decode cX6_alone 43 = .ok (.aload_n 0, 1) := by decide +kernel
theorem dX6_alone_44 : decode cX6_alone 44 = .ok (.getfield 47, 3) := by decide +kernel
theorem dX6_alone_47 : decode cX6_alone 47 = .ok (.iconst 0, 1) := by decide +kernel
theorem dX6_alone_48 : decode cX6_alone 48 = .ok (.iaload, 1) := by decide +kernel
theorem dX6_alone_49 : decode cX6_alone 49 = .ok (.invokevirtual 188, 3) := by decide +kernel
theorem dX6_alone_52 : decode cX6_alone 52 = .ok (.if_icmp .le 9, 3) := by decide +kernel
theorem dX6_alone_55 : decode cX6_alone 55 = .ok (.iconst 1, 1) := by decide +kernel
theorem dX6_alone_56 : decode cX6_alone 56 = .ok (.iload_n 2, 1) := by decide +kernel
theorem dX6_alone_57 : decode cX6_alone 57 = .ok (.ishl, 1) := by decide +kernel
theorem dX6_alone_58 : decode cX6_alone 58 = .ok (.goto 4, 3) := by decide +kernel
theorem dX6_alone_61 : decode cX6_alone 61 = .ok (.iconst 0, 1) := by decide +kernel
theorem dX6_alone_62 : decode cX6_alone 62 = .ok (.ior, 1) := by decide +kernel
theorem dX6_alone_63 : decode cX6_alone 63 = .ok (.istore_n 1, 1) := by decide +kernel
theorem dX6_alone_64 : decode cX6_alone 64 = .ok (.iinc 2 1, 3) := by decide +kernel
theorem dX6_alone_67 : decode cX6_alone 67 = .ok (.goto (-63), 3) := by decide +kernel
theorem dX6_alone_70 : decode cX6_alone 70 = .ok (.iload_n 1, 1) := by decide +kernel
theorem dX6_alone_71 : decode cX6_alone 71 = .ok (.ireturn, 1) := by decide +kernel
set_option maxRecDepth 20000 in
theorem ggX6_clashesBy_X6_readBy : GoodIn wsX6_clashesBy wsX6_readBy := goodIn_r _ [7, 8, 9, 10, 11, 6, 12, 13, 14, 15, 16, 17, 18, 19, 20, 21, 22, 23, 24, 25, 26, 27, 28, 29, 30, 31, 32, 33, 34, 35, 36, 37, 38, 39, 40, 41, 42, 43, 44, 45, 46, 47, 48, 49, 50] (by decide +kernel) (by decide +kernel)
set_option maxRecDepth 20000 in
theorem gX6_clashesBy_X6_readBy : GoodIn wsX6_clashesBy (wsV RX6 177 RX6 yX6_readBy wsX6_readBy) := goodIn_app (goodIn_of _ (by decide +kernel)) ggX6_clashesBy_X6_readBy
theorem dX6_clashesBy_0 : decode cX6_clashesBy 0 = .ok (.iconst 0, 1) := by decide +kernel
theorem dX6_clashesBy_1 : decode cX6_clashesBy 1 = .ok (.istore_n 3, 1) := by decide +kernel
theorem dX6_clashesBy_2 : decode cX6_clashesBy 2 = .ok (.iconst 0, 1) := by decide +kernel
theorem dX6_clashesBy_3 : decode cX6_clashesBy 3 = .ok (.istore 4, 2) := by decide +kernel
theorem dX6_clashesBy_5 : decode cX6_clashesBy 5 = .ok (.iload 4, 2) := by decide +kernel
theorem dX6_clashesBy_7 : decode cX6_clashesBy 7 = .ok (.aload_n 0, 1) := by decide +kernel
theorem dX6_clashesBy_8 : decode cX6_clashesBy 8 = .ok (.getfield 141, 3) := by decide +kernel
theorem dX6_clashesBy_11 : decode cX6_clashesBy 11 = .ok (.if_icmp .ge 87, 3) := by decide +kernel
theorem dX6_clashesBy_14 : decode cX6_clashesBy 14 = .ok (.iconst (-1), 1) := by decide +kernel
theorem dX6_clashesBy_15 : decode cX6_clashesBy 15 = .ok (.istore 5, 2) := by decide +kernel
theorem dX6_clashesBy_17 : decode cX6_clashesBy 17 = .ok (.iconst 0, 1) := by decide +kernel
theorem dX6_clashesBy_18 : decode cX6_clashesBy 18 = .ok (.istore 6, 2) := by decide +kernel
theorem dX6_clashesBy_20 : decode cX6_clashesBy 20 = .ok (.iload 6, 2) := by decide +kernel
theorem dX6_clashesBy_22 : decode cX6_clashesBy 22 = .ok (.aload_n 0, 1) := by decide +kernel
theorem dX6_clashesBy_23 : decode cX6_clashesBy 23 = .ok (.getfield 144, 3) := by decide +kernel
theorem dX6_clashesBy_26 : decode cX6_clashesBy 26 = .ok (.if_icmp .ge 66, 3) := by decide +kernel
theorem dX6_clashesBy_29 : decode cX6_clashesBy 29 = .ok (.aload_n 0, 1) := by decide +kernel
theorem dX6_clashesBy_30 : decode cX6_clashesBy 30 = .ok (.iload 4, 2) := by decide +kernel
theorem dX6_clashesBy_32 : decode cX6_clashesBy 32 = .ok (.iload 6, 2) := by decide +kernel
theorem dX6_clashesBy_34 : decode cX6_clashesBy 34 = .ok (.iload_n 1, 1) := by decide +kernel
theorem dX6_clashesBy_35 : decode cX6_clashesBy 35 = .ok (.iload_n 2, 1) := by decide +kernel
theorem dX6_clashesBy_36 : decode cX6_clashesBy 36 = .ok (.invokevirtual 177, 3) := by decide +kernel
theorem dX6_clashesBy_39 : decode cX6_clashesBy 39 = .ok (.istore 7, 2) := by decide +kernel
theorem dX6_clashesBy_41 : decode cX6_clashesBy 41 = .ok (.iload_n 3, 1) := by decide +kernel
theorem dX6_clashesBy_42 : decode cX6_clashesBy 42 = .ok (.iload 7, 2) := by decide +kernel
theorem dX6_clashesBy_44 : decode cX6_clashesBy 44 = .ok (.iconst (-1), 1) := by decide +kernel
theorem dX6_clashesBy_45 : decode cX6_clashesBy 45 = .ok (.if_icmp .eq 23, 3) := by decide +kernel
theorem dX6_clashesBy_48 : decode cX6_clashesBy 48 = .ok (.iload 5, 2) := by decide +kernel
theorem dX6_clashesBy_50 : decode cX6_clashesBy 50 = .ok (.iconst (-1), 1) := by decide +kernel
theorem dX6_clashesBy_51 : decode cX6_clashesBy 51 = .ok (.if_icmp .eq 17, 3) := by decide +kernel
theorem dX6_clashesBy_54 : decode cX6_clashesBy 54 = .ok (.iload 7, 2) := by decide +kernel
theorem dX6_clashesBy_56 : decode cX6_clashesBy 56 = .ok (.iload 5, 2) := by decide +kernel
theorem dX6_clashesBy_58 : decode cX6_clashesBy 58 = .ok (.if_icmp .eq 10, 3) := by decide +kernel
theorem dX6_clashesBy_61 : decode cX6_clashesBy 61 = .ok (.iconst 1, 1) := by decide +kernel
theorem dX6_clashesBy_62 : decode cX6_clashesBy 62 = .ok (.iload 4, 2) := by decide +kernel
theorem dX6_clashesBy_64 : decode cX6_clashesBy 64 = .ok (.ishl, 1) := by decide +kernel
theorem dX6_clashesBy_65 : decode cX6_clashesBy 65 = .ok (.goto 4, 3) := by decide +kernel
theorem dX6_clashesBy_68 : decode cX6_clashesBy 68 = .ok (.iconst 0, 1) := by decide +kernel
theorem dX6_clashesBy_69 : decode cX6_clashesBy 69 = .ok (.ior, 1) := by decide +kernel
theorem dX6_clashesBy_70 : decode cX6_clashesBy 70 = .ok (.istore_n 3, 1) := by decide +kernel
theorem dX6_clashesBy_71 : decode cX6_clashesBy 71 = .ok (.iload 7, 2) := by decide +kernel
theorem dX6_clashesBy_73 : decode cX6_clashesBy 73 = .ok (.iconst (-1), 1) := by decide +kernel
theorem dX6_clashesBy_74 : decode cX6_clashesBy 74 = .ok (.if_icmp .eq 8, 3) := by decide +kernel
theorem dX6_clashesBy_77 : decode cX6_clashesBy 77 = .ok (.iload 7, 2) := by decide +kernel
theorem dX6_clashesBy_79 : decode cX6_clashesBy 79 = .ok (.goto 5, 3) := by decide +kernel
theorem dX6_clashesBy_82 : decode cX6_clashesBy 82 = .ok (.iload 5, 2) := by decide +kernel
theorem dX6_clashesBy_84 : decode cX6_clashesBy 84 = .ok (.istore 5, 2) := by decide +kernel
theorem dX6_clashesBy_86 : decode cX6_clashesBy 86 = .ok (.iinc 6 1, 3) := by decide +kernel
theorem dX6_clashesBy_89 : decode cX6_clashesBy 89 = .ok (.goto (-69), 3) := by decide +kernel
theorem dX6_clashesBy_92 : decode cX6_clashesBy 92 = .ok (.iinc 4 1, 3) := by decide +kernel
theorem dX6_clashesBy_95 : decode cX6_clashesBy 95 = .ok (.goto (-90), 3) := by decide +kernel
theorem dX6_clashesBy_98 : decode cX6_clashesBy 98 = .ok (.iload_n 3, 1) := by decide +kernel
theorem dX6_clashesBy_99 : decode cX6_clashesBy 99 = .ok (.ireturn, 1) := by decide +kernel
set_option maxRecDepth 20000 in
theorem ggX6_told_X6_alone : GoodIn wsX6_told wsX6_alone := goodIn_r _ [14, 2, 5, 15, 16, 13, 17, 18, 19, 20, 21, 1, 22, 23, 24, 25, 26, 27, 28, 29, 30, 40, 41, 42, 43, 44, 45, 46, 47, 48, 49, 50, 51, 52, 53, 54, 55, 56, 57, 58, 59, 60, 61, 62, 63, 64, 65, 66, 67, 68, 69, 70, 71, 72, 73, 74, 75, 76, 77] (by decide +kernel) (by decide +kernel)
set_option maxRecDepth 20000 in
theorem gX6_told_X6_alone : GoodIn wsX6_told (wsV RX6 191 RX6 yX6_alone wsX6_alone) := goodIn_app (goodIn_of _ (by decide +kernel)) ggX6_told_X6_alone
set_option maxRecDepth 20000 in
theorem ggX6_told_X6_clashesBy : GoodIn wsX6_told wsX6_clashesBy := goodIn_r _ [34, 1, 2, 35, 36, 37, 13, 38, 30, 39, 15, 16, 17, 40, 41, 42, 43, 44, 45, 46, 47, 48, 49, 50, 51, 52, 53, 54, 55, 56, 57, 58, 59, 60, 61, 62, 63, 64, 65, 66, 67, 68, 69, 70, 71, 72, 73, 74, 75, 76, 77] (by decide +kernel) (by decide +kernel)
set_option maxRecDepth 20000 in
theorem gX6_told_X6_clashesBy : GoodIn wsX6_told (wsV RX6 194 RX6 yX6_clashesBy wsX6_clashesBy) := goodIn_app (goodIn_of _ (by decide +kernel)) ggX6_told_X6_clashesBy
theorem dX6_told_0 : decode cX6_told 0 = .ok (.iload_n 1, 1) := by decide +kernel
theorem dX6_told_1 : decode cX6_told 1 = .ok (.tableswitch 152 0 12 #[67, 72, 77, 82, 87, 94, 101, 108, 115, 120, 137, 142, 147], 67) := by decide +kernel
theorem dX6_told_68 : decode cX6_told 68 = .ok (.aload_n 0, 1) := by decide +kernel
theorem dX6_told_69 : decode cX6_told 69 = .ok (.getfield 141, 3) := by decide +kernel
theorem dX6_told_72 : decode cX6_told 72 = .ok (.ireturn, 1) := by decide +kernel
theorem dX6_told_73 : decode cX6_told 73 = .ok (.aload_n 0, 1) := by decide +kernel
theorem dX6_told_74 : decode cX6_told 74 = .ok (.getfield 144, 3) := by decide +kernel
theorem dX6_told_77 : decode cX6_told 77 = .ok (.ireturn, 1) := by decide +kernel
theorem dX6_told_78 : decode cX6_told 78 = .ok (.aload_n 0, 1) := by decide +kernel
theorem dX6_told_79 : decode cX6_told 79 = .ok (.getfield 147, 3) := by decide +kernel
theorem dX6_told_82 : decode cX6_told 82 = .ok (.ireturn, 1) := by decide +kernel
theorem dX6_told_83 : decode cX6_told 83 = .ok (.aload_n 0, 1) := by decide +kernel
theorem dX6_told_84 : decode cX6_told 84 = .ok (.getfield 87, 3) := by decide +kernel
theorem dX6_told_87 : decode cX6_told 87 = .ok (.ireturn, 1) := by decide +kernel
theorem dX6_told_88 : decode cX6_told 88 = .ok (.aload_n 0, 1) := by decide +kernel
theorem dX6_told_89 : decode cX6_told 89 = .ok (.getfield 47, 3) := by decide +kernel
theorem dX6_told_92 : decode cX6_told 92 = .ok (.iconst 3, 1) := by decide +kernel
theorem dX6_told_93 : decode cX6_told 93 = .ok (.iaload, 1) := by decide +kernel
theorem dX6_told_94 : decode cX6_told 94 = .ok (.ireturn, 1) := by decide +kernel
theorem dX6_told_95 : decode cX6_told 95 = .ok (.aload_n 0, 1) := by decide +kernel
theorem dX6_told_96 : decode cX6_told 96 = .ok (.getfield 47, 3) := by decide +kernel
theorem dX6_told_99 : decode cX6_told 99 = .ok (.iconst 4, 1) := by decide +kernel
theorem dX6_told_100 : decode cX6_told 100 = .ok (.iaload, 1) := by decide +kernel
theorem dX6_told_101 : decode cX6_told 101 = .ok (.ireturn, 1) := by decide +kernel
theorem dX6_told_102 : decode cX6_told 102 = .ok (.aload_n 0, 1) := by decide +kernel
theorem dX6_told_103 : decode cX6_told 103 = .ok (.getfield 47, 3) := by decide +kernel
theorem dX6_told_106 : decode cX6_told 106 = .ok (.iconst 5, 1) := by decide +kernel
theorem dX6_told_107 : decode cX6_told 107 = .ok (.iaload, 1) := by decide +kernel
theorem dX6_told_108 : decode cX6_told 108 = .ok (.ireturn, 1) := by decide +kernel
theorem dX6_told_109 : decode cX6_told 109 = .ok (.aload_n 0, 1) := by decide +kernel
theorem dX6_told_110 : decode cX6_told 110 = .ok (.getfield 47, 3) := by decide +kernel
theorem dX6_told_113 : decode cX6_told 113 = .ok (.iconst 0, 1) := by decide +kernel
theorem dX6_told_114 : decode cX6_told 114 = .ok (.iaload, 1) := by decide +kernel
theorem dX6_told_115 : decode cX6_told 115 = .ok (.ireturn, 1) := by decide +kernel
theorem dX6_told_116 : decode cX6_told 116 = .ok (.aload_n 0, 1) := by decide +kernel
theorem dX6_told_117 : decode cX6_told 117 = .ok (.invokevirtual 191, 3) := by decide +kernel
theorem dX6_told_120 : decode cX6_told 120 = .ok (.ireturn, 1) := by decide +kernel
theorem dX6_told_121 : decode cX6_told 121 = .ok (.aload_n 0, 1) := by decide +kernel
theorem dX6_told_122 : decode cX6_told 122 = .ok (.aload_n 0, 1) := by decide +kernel
theorem dX6_told_123 : decode cX6_told 123 = .ok (.getfield 47, 3) := by decide +kernel
theorem dX6_told_126 : decode cX6_told 126 = .ok (.iconst 0, 1) := by decide +kernel
theorem dX6_told_127 : decode cX6_told 127 = .ok (.iaload, 1) := by decide +kernel
theorem dX6_told_128 : decode cX6_told 128 = .ok (.aload_n 0, 1) := by decide +kernel
theorem dX6_told_129 : decode cX6_told 129 = .ok (.getfield 47, 3) := by decide +kernel
theorem dX6_told_132 : decode cX6_told 132 = .ok (.iconst 1, 1) := by decide +kernel
theorem dX6_told_133 : decode cX6_told 133 = .ok (.iaload, 1) := by decide +kernel
theorem dX6_told_134 : decode cX6_told 134 = .ok (.invokevirtual 194, 3) := by decide +kernel
theorem dX6_told_137 : decode cX6_told 137 = .ok (.ireturn, 1) := by decide +kernel
theorem dX6_told_138 : decode cX6_told 138 = .ok (.aload_n 0, 1) := by decide +kernel
theorem dX6_told_139 : decode cX6_told 139 = .ok (.getfield 153, 3) := by decide +kernel
theorem dX6_told_142 : decode cX6_told 142 = .ok (.ireturn, 1) := by decide +kernel
theorem dX6_told_143 : decode cX6_told 143 = .ok (.aload_n 0, 1) := by decide +kernel
theorem dX6_told_144 : decode cX6_told 144 = .ok (.getfield 156, 3) := by decide +kernel
theorem dX6_told_147 : decode cX6_told 147 = .ok (.ireturn, 1) := by decide +kernel
theorem dX6_told_148 : decode cX6_told 148 = .ok (.aload_n 0, 1) := by decide +kernel
theorem dX6_told_149 : decode cX6_told 149 = .ok (.getfield 150, 3) := by decide +kernel
theorem dX6_told_152 : decode cX6_told 152 = .ok (.ireturn, 1) := by decide +kernel
theorem dX6_told_153 : decode cX6_told 153 = .ok (.ldc 86, 2) := by decide +kernel
theorem dX6_told_155 : decode cX6_told 155 = .ok (.ireturn, 1) := by decide +kernel
theorem dX6_remember_0 : decode cX6_remember 0 = .ok (.iconst 0, 1) := by decide +kernel
theorem dX6_remember_1 : decode cX6_remember 1 = .ok (.istore_n 1, 1) := by decide +kernel
theorem dX6_remember_2 : decode cX6_remember 2 = .ok (.iload_n 1, 1) := by decide +kernel
theorem dX6_remember_3 : decode cX6_remember 3 = .ok (.bipush 16, 2) := by decide +kernel
theorem dX6_remember_5 : decode cX6_remember 5 = .ok (.if_icmp .ge 29, 3) := by decide +kernel
theorem dX6_remember_8 : decode cX6_remember 8 = .ok (.aload_n 0, 1) := by decide +kernel
theorem dX6_remember_9 : decode cX6_remember 9 = .ok (.getfield 53, 3) := by decide +kernel
theorem dX6_remember_12 : decode cX6_remember 12 = .ok (.bipush 16, 2) := by decide +kernel
theorem dX6_remember_14 : decode cX6_remember 14 = .ok (.aload_n 0, 1) := by decide +kernel
theorem dX6_remember_15 : decode cX6_remember 15 = .ok (.getfield 197, 3) := by decide +kernel
theorem dX6_remember_18 : decode cX6_remember 18 = .ok (.imul, 1) := by decide +kernel
theorem dX6_remember_19 : decode cX6_remember 19 = .ok (.iload_n 1, 1) := by decide +kernel
theorem dX6_remember_20 : decode cX6_remember 20 = .ok (.iadd, 1) := by decide +kernel
theorem dX6_remember_21 : decode cX6_remember 21 = .ok (.aload_n 0, 1) := by decide +kernel
theorem dX6_remember_22 : decode cX6_remember 22 = .ok (.getfield 47, 3) := by decide +kernel
theorem dX6_remember_25 : decode cX6_remember 25 = .ok (.iload_n 1, 1) := by decide +kernel
theorem dX6_remember_26 : decode cX6_remember 26 = .ok (.iaload, 1) := by decide +kernel
theorem dX6_remember_27 : decode cX6_remember 27 = .ok (.iastore, 1) := by decide +kernel
theorem dX6_remember_28 : decode cX6_remember 28 = .ok (.iinc 1 1, 3) := by decide +kernel
theorem dX6_remember_31 : decode cX6_remember 31 = .ok (.goto (-29), 3) := by decide +kernel
theorem dX6_remember_34 : decode cX6_remember 34 = .ok (.aload_n 0, 1) := by decide +kernel
theorem dX6_remember_35 : decode cX6_remember 35 = .ok (.aload_n 0, 1) := by decide +kernel
theorem dX6_remember_36 : decode cX6_remember 36 = .ok (.getfield 197, 3) := by decide +kernel
theorem dX6_remember_39 : decode cX6_remember 39 = .ok (.iconst 1, 1) := by decide +kernel
theorem dX6_remember_40 : decode cX6_remember 40 = .ok (.iadd, 1) := by decide +kernel
theorem dX6_remember_41 : decode cX6_remember 41 = .ok (.bipush 30, 2) := by decide +kernel
theorem dX6_remember_43 : decode cX6_remember 43 = .ok (.irem, 1) := by decide +kernel
theorem dX6_remember_44 : decode cX6_remember 44 = .ok (.putfield 197, 3) := by decide +kernel
theorem dX6_remember_47 : decode cX6_remember 47 = .ok (.aload_n 0, 1) := by decide +kernel
theorem dX6_remember_48 : decode cX6_remember 48 = .ok (.dup, 1) := by decide +kernel
theorem dX6_remember_49 : decode cX6_remember 49 = .ok (.getfield 150, 3) := by decide +kernel
theorem dX6_remember_52 : decode cX6_remember 52 = .ok (.aload_n 0, 1) := by decide +kernel
theorem dX6_remember_53 : decode cX6_remember 53 = .ok (.getfield 150, 3) := by decide +kernel
theorem dX6_remember_56 : decode cX6_remember 56 = .ok (.bipush 30, 2) := by decide +kernel
theorem dX6_remember_58 : decode cX6_remember 58 = .ok (.if_icmp .ge 7, 3) := by decide +kernel
theorem dX6_remember_61 : decode cX6_remember 61 = .ok (.iconst 1, 1) := by decide +kernel
theorem dX6_remember_62 : decode cX6_remember 62 = .ok (.goto 4, 3) := by decide +kernel
theorem dX6_remember_65 : decode cX6_remember 65 = .ok (.iconst 0, 1) := by decide +kernel
theorem dX6_remember_66 : decode cX6_remember 66 = .ok (.iadd, 1) := by decide +kernel
theorem dX6_remember_67 : decode cX6_remember 67 = .ok (.putfield 150, 3) := by decide +kernel
theorem dX6_remember_70 : decode cX6_remember 70 = .ok (.return_, 1) := by decide +kernel
set_option maxRecDepth 20000 in
theorem ggX6_needHours_X6_in : GoodIn wsX6_needHours wsX6_in := goodIn_r _ [10] (by decide +kernel) (by decide +kernel)
set_option maxRecDepth 20000 in
theorem gX6_needHours_X6_in : GoodIn wsX6_needHours (va_wsS RX6 82 yX6_in wsX6_in) := goodIn_app (goodIn_of _ (by decide +kernel)) ggX6_needHours_X6_in
theorem dX6_needHours_0 : decode cX6_needHours 0 = .ok (.iload_n 1, 1) := by decide +kernel
theorem dX6_needHours_1 : decode cX6_needHours 1 = .ok (.iconst 1, 1) := by decide +kernel
theorem dX6_needHours_2 : decode cX6_needHours 2 = .ok (.bipush 30, 2) := by decide +kernel
theorem dX6_needHours_4 : decode cX6_needHours 4 = .ok (.invokestatic 82, 3) := by decide +kernel
theorem dX6_needHours_7 : decode cX6_needHours 7 = .ok (.ifCond .ne 8, 3) := by decide +kernel
theorem dX6_needHours_10 : decode cX6_needHours 10 = .ok (.ldc 86, 2) := by decide +kernel
theorem dX6_needHours_12 : decode cX6_needHours 12 = .ok (.goto 32, 3) := by decide +kernel
theorem dX6_needHours_15 : decode cX6_needHours 15 = .ok (.aload_n 0, 1) := by decide +kernel
theorem dX6_needHours_16 : decode cX6_needHours 16 = .ok (.getfield 141, 3) := by decide +kernel
theorem dX6_needHours_19 : decode cX6_needHours 19 = .ok (.ifCond .ne 8, 3) := by decide +kernel
theorem dX6_needHours_22 : decode cX6_needHours 22 = .ok (.ldc 181, 2) := by decide +kernel
theorem dX6_needHours_24 : decode cX6_needHours 24 = .ok (.goto 20, 3) := by decide +kernel
theorem dX6_needHours_27 : decode cX6_needHours 27 = .ok (.aload_n 0, 1) := by decide +kernel
theorem dX6_needHours_28 : decode cX6_needHours 28 = .ok (.getfield 47, 3) := by decide +kernel
theorem dX6_needHours_31 : decode cX6_needHours 31 = .ok (.iconst 3, 1) := by decide +kernel
theorem dX6_needHours_32 : decode cX6_needHours 32 = .ok (.iaload, 1) := by decide +kernel
theorem dX6_needHours_33 : decode cX6_needHours 33 = .ok (.ldc 200, 2) := by decide +kernel
theorem dX6_needHours_35 : decode cX6_needHours 35 = .ok (.if_icmp .le 8, 3) := by decide +kernel
theorem dX6_needHours_38 : decode cX6_needHours 38 = .ok (.ldc 90, 2) := by decide +kernel
theorem dX6_needHours_40 : decode cX6_needHours 40 = .ok (.goto 4, 3) := by decide +kernel
theorem dX6_needHours_43 : decode cX6_needHours 43 = .ok (.iconst 0, 1) := by decide +kernel
theorem dX6_needHours_44 : decode cX6_needHours 44 = .ok (.ireturn, 1) := by decide +kernel
set_option maxRecDepth 20000 in
theorem ggX6_hour_X6_needHours : GoodIn wsX6_hour wsX6_needHours := goodIn_r _ [6, 7, 8, 9, 1, 10, 11, 12, 13, 5, 14, 42, 43, 44, 45, 46, 47, 48, 49, 50, 51, 52, 53, 54, 55, 56, 57, 58, 59, 60, 61, 62, 63, 64, 65, 66, 67, 68, 69, 70, 71, 72, 73, 74, 75, 76, 77, 78, 79] (by decide +kernel) (by decide +kernel)
set_option maxRecDepth 20000 in
theorem gX6_hour_X6_needHours : GoodIn wsX6_hour (wsV RX6 201 RX6 yX6_needHours wsX6_needHours) := goodIn_app (goodIn_of _ (by decide +kernel)) ggX6_hour_X6_needHours
set_option maxRecDepth 20000 in
theorem ggX6_hour_X6_remember : GoodIn wsX6_hour wsX6_remember := goodIn_r _ [18, 19, 20, 1, 21, 42, 43, 44, 45, 46, 47, 48, 49, 50, 51, 52, 53, 54, 55, 56, 57, 58, 59, 60, 61, 62, 63, 64, 65, 66, 67, 68, 69, 70, 71, 72, 73, 74, 75, 76, 77, 78, 79] (by decide +kernel) (by decide +kernel)
set_option maxRecDepth 20000 in
theorem gX6_hour_X6_remember : GoodIn wsX6_hour (wsV RX6 204 RX6 yX6_remember wsX6_remember) := goodIn_app (goodIn_of _ (by decide +kernel)) ggX6_hour_X6_remember
set_option maxRecDepth 20000 in
theorem ggX6_hour_X6_passes : GoodIn wsX6_hour wsX6_passes := goodIn_r _ [25, 26, 27, 28, 29, 30, 5, 31, 32, 33, 34, 35, 36, 37, 38, 39, 40, 41, 42, 43, 44, 45, 46, 47, 48, 49, 50, 51, 52, 53, 54, 55, 56, 57, 58, 59, 60, 61, 62, 63, 64, 65, 66, 67, 68, 69, 70, 71, 72, 73, 74, 75, 76, 77, 78, 79] (by decide +kernel) (by decide +kernel)
set_option maxRecDepth 20000 in
theorem gX6_hour_X6_passes : GoodIn wsX6_hour (wsV RX6 207 RX6 yX6_passes wsX6_passes) := goodIn_app (goodIn_of _ (by decide +kernel)) ggX6_hour_X6_passes
theorem dX6_hour_0 : decode cX6_hour 0 = .ok (.aload_n 0, 1) := by decide +kernel
theorem dX6_hour_1 : decode cX6_hour 1 = .ok (.iload_n 1, 1) := by decide +kernel
theorem dX6_hour_2 : decode cX6_hour 2 = .ok (.invokevirtual 201, 3) := by decide +kernel
theorem dX6_hour_5 : decode cX6_hour 5 = .ok (.istore_n 2, 1) := by decide +kernel
theorem dX6_hour_6 : decode cX6_hour 6 = .ok (.iload_n 2, 1) := by decide +kernel
theorem dX6_hour_7 : decode cX6_hour 7 = .ok (.ifCond .ge 5, 3) := by decide +kernel
theorem dX6_hour_10 : decode cX6_hour 10 = .ok (.iload_n 2, 1) := by decide +kernel
theorem dX6_hour_11 : decode cX6_hour 11 = .ok (.ireturn, 1) := by decide +kernel
theorem dX6_hour_12 : decode cX6_hour 12 = .ok (.iconst 0, 1) := by decide +kernel
theorem dX6_hour_13 : decode cX6_hour 13 = .ok (.istore_n 3, 1) := by decide +kernel
theorem dX6_hour_14 : decode cX6_hour 14 = .ok (.iload_n 3, 1) := by decide +kernel
theorem dX6_hour_15 : decode cX6_hour 15 = .ok (.iload_n 1, 1) := by decide +kernel
theorem dX6_hour_16 : decode cX6_hour 16 = .ok (.if_icmp .ge 22, 3) := by decide +kernel
theorem dX6_hour_19 : decode cX6_hour 19 = .ok (.aload_n 0, 1) := by decide +kernel
theorem dX6_hour_20 : decode cX6_hour 20 = .ok (.invokevirtual 204, 3) := by decide +kernel
theorem dX6_hour_23 : decode cX6_hour 23 = .ok (.aload_n 0, 1) := by decide +kernel
theorem dX6_hour_24 : decode cX6_hour 24 = .ok (.aload_n 0, 1) := by decide +kernel
theorem dX6_hour_25 : decode cX6_hour 25 = .ok (.getfield 47, 3) := by decide +kernel
theorem dX6_hour_28 : decode cX6_hour 28 = .ok (.invokevirtual 207, 3) := by decide +kernel
theorem dX6_hour_31 : decode cX6_hour 31 = .ok (.pop, 1) := by decide +kernel
theorem dX6_hour_32 : decode cX6_hour 32 = .ok (.iinc 3 1, 3) := by decide +kernel
theorem dX6_hour_35 : decode cX6_hour 35 = .ok (.goto (-21), 3) := by decide +kernel
theorem dX6_hour_38 : decode cX6_hour 38 = .ok (.aload_n 0, 1) := by decide +kernel
theorem dX6_hour_39 : decode cX6_hour 39 = .ok (.getfield 47, 3) := by decide +kernel
theorem dX6_hour_42 : decode cX6_hour 42 = .ok (.iconst 0, 1) := by decide +kernel
theorem dX6_hour_43 : decode cX6_hour 43 = .ok (.iaload, 1) := by decide +kernel
theorem dX6_hour_44 : decode cX6_hour 44 = .ok (.ireturn, 1) := by decide +kernel
set_option maxRecDepth 20000 in
theorem ggX6_undoLink_X6_isLink : GoodIn wsX6_undoLink wsX6_isLink := goodIn_r _ [8, 9, 10, 11, 7, 12, 26, 27, 28, 29, 30, 31, 32, 33, 34, 35, 36, 37, 38, 39, 40, 41, 42, 43, 44, 45, 46, 47, 48, 49, 50, 51, 52, 53, 54, 55, 56, 57, 58, 59, 60, 61, 62, 63] (by decide +kernel) (by decide +kernel)
set_option maxRecDepth 20000 in
theorem gX6_undoLink_X6_isLink : GoodIn wsX6_undoLink (wsV RX6 173 RX6 yX6_isLink wsX6_isLink) := goodIn_app (goodIn_of _ (by decide +kernel)) ggX6_undoLink_X6_isLink
set_option maxRecDepth 20000 in
theorem ggX6_undoLink_X6_has : GoodIn wsX6_undoLink wsX6_has := goodIn_r _ [15] (by decide +kernel) (by decide +kernel)
set_option maxRecDepth 20000 in
theorem gX6_undoLink_X6_has : GoodIn wsX6_undoLink (va_wsS RX6 162 yX6_has wsX6_has) := goodIn_app (goodIn_of _ (by decide +kernel)) ggX6_undoLink_X6_has
set_option maxRecDepth 20000 in
theorem ggX6_undoLink_X6_remember : GoodIn wsX6_undoLink wsX6_remember := goodIn_r _ [19, 20, 21, 2, 22, 26, 27, 28, 29, 30, 31, 32, 33, 34, 35, 36, 37, 38, 39, 40, 41, 42, 43, 44, 45, 46, 47, 48, 49, 50, 51, 52, 53, 54, 55, 56, 57, 58, 59, 60, 61, 62, 63] (by decide +kernel) (by decide +kernel)
set_option maxRecDepth 20000 in
theorem gX6_undoLink_X6_remember : GoodIn wsX6_undoLink (wsV RX6 204 RX6 yX6_remember wsX6_remember) := goodIn_app (goodIn_of _ (by decide +kernel)) ggX6_undoLink_X6_remember
set_option maxRecDepth 20000 in
theorem ggX6_undoLink_X6_bits : GoodIn wsX6_undoLink wsX6_bits := goodIn_r _ [25] (by decide +kernel) (by decide +kernel)
set_option maxRecDepth 20000 in
theorem gX6_undoLink_X6_bits : GoodIn wsX6_undoLink (va_wsS RX6 211 yX6_bits wsX6_bits) := goodIn_app (goodIn_of _ (by decide +kernel)) ggX6_undoLink_X6_bits
theorem dX6_undoLink_0 : decode cX6_undoLink 0 = .ok (.aload_n 0, 1) := by decide +kernel
theorem dX6_undoLink_1 : decode cX6_undoLink 1 = .ok (.iload_n 1, 1) := by decide +kernel
theorem dX6_undoLink_2 : decode cX6_undoLink 2 = .ok (.invokevirtual 173, 3) := by decide +kernel
theorem dX6_undoLink_5 : decode cX6_undoLink 5 = .ok (.ifCond .ne 6, 3) := by decide +kernel
theorem dX6_undoLink_8 : decode cX6_undoLink 8 = .ok (.ldc 176, 2) := by decide +kernel
theorem dX6_undoLink_10 : decode cX6_undoLink 10 = .ok (.ireturn, 1) := by decide +kernel
theorem dX6_undoLink_11 : decode cX6_undoLink 11 = .ok (.aload_n 0, 1) := by decide +kernel
theorem dX6_undoLink_12 : decode cX6_undoLink 12 = .ok (.getfield 47, 3) := by decide +kernel
theorem dX6_undoLink_15 : decode cX6_undoLink 15 = .ok (.iconst 0, 1) := by decide +kernel
theorem dX6_undoLink_16 : decode cX6_undoLink 16 = .ok (.iaload, 1) := by decide +kernel
theorem dX6_undoLink_17 : decode cX6_undoLink 17 = .ok (.iload_n 1, 1) := by decide +kernel
theorem dX6_undoLink_18 : decode cX6_undoLink 18 = .ok (.invokestatic 162, 3) := by decide +kernel
theorem dX6_undoLink_21 : decode cX6_undoLink 21 = .ok (.ifCond .ne 6, 3) := by decide +kernel
theorem dX6_undoLink_24 : decode cX6_undoLink 24 = .ok (.ldc 181, 2) := by decide +kernel
theorem dX6_undoLink_26 : decode cX6_undoLink 26 = .ok (.ireturn, 1) := by decide +kernel
theorem dX6_undoLink_27 : decode cX6_undoLink 27 = .ok (.aload_n 0, 1) := by decide +kernel
theorem dX6_undoLink_28 : decode cX6_undoLink 28 = .ok (.invokevirtual 204, 3) := by decide +kernel
theorem dX6_undoLink_31 : decode cX6_undoLink 31 = .ok (.aload_n 0, 1) := by decide +kernel
theorem dX6_undoLink_32 : decode cX6_undoLink 32 = .ok (.getfield 47, 3) := by decide +kernel
theorem dX6_undoLink_35 : decode cX6_undoLink 35 = .ok (.iconst 0, 1) := by decide +kernel
theorem dX6_undoLink_36 : decode cX6_undoLink 36 = .ok (.dup2, 1) := by decide +kernel
theorem dX6_undoLink_37 : decode cX6_undoLink 37 = .ok (.iaload, 1) := by decide +kernel
theorem dX6_undoLink_38 : decode cX6_undoLink 38 = .ok (.iconst 1, 1) := by decide +kernel
theorem dX6_undoLink_39 : decode cX6_undoLink 39 = .ok (.iload_n 1, 1) := by decide +kernel
theorem dX6_undoLink_40 : decode cX6_undoLink 40 = .ok (.ishl, 1) := by decide +kernel
theorem dX6_undoLink_41 : decode cX6_undoLink 41 = .ok (.iconst (-1), 1) := by decide +kernel
theorem dX6_undoLink_42 : decode cX6_undoLink 42 = .ok (.ixor, 1) := by decide +kernel
theorem dX6_undoLink_43 : decode cX6_undoLink 43 = .ok (.iand, 1) := by decide +kernel
theorem dX6_undoLink_44 : decode cX6_undoLink 44 = .ok (.iastore, 1) := by decide +kernel
theorem dX6_undoLink_45 : decode cX6_undoLink 45 = .ok (.aload_n 0, 1) := by decide +kernel
theorem dX6_undoLink_46 : decode cX6_undoLink 46 = .ok (.getfield 47, 3) := by decide +kernel
theorem dX6_undoLink_49 : decode cX6_undoLink 49 = .ok (.iconst 0, 1) := by decide +kernel
theorem dX6_undoLink_50 : decode cX6_undoLink 50 = .ok (.iaload, 1) := by decide +kernel
theorem dX6_undoLink_51 : decode cX6_undoLink 51 = .ok (.invokestatic 211, 3) := by decide +kernel
theorem dX6_undoLink_54 : decode cX6_undoLink 54 = .ok (.ireturn, 1) := by decide +kernel
set_option maxRecDepth 20000 in
theorem ggX6_isUpable_X6_has : GoodIn wsX6_isUpable wsX6_has := goodIn_r _ [6] (by decide +kernel) (by decide +kernel)
set_option maxRecDepth 20000 in
theorem gX6_isUpable_X6_has : GoodIn wsX6_isUpable (va_wsS RX6 162 yX6_has wsX6_has) := goodIn_app (goodIn_of _ (by decide +kernel)) ggX6_isUpable_X6_has
theorem dX6_isUpable_0 : decode cX6_isUpable 0 = .ok (.aload_n 0, 1) := by decide +kernel
theorem dX6_isUpable_1 : decode cX6_isUpable 1 = .ok (.getfield 47, 3) := by decide +kernel
theorem dX6_isUpable_4 : decode cX6_isUpable 4 = .ok (.iconst 0, 1) := by decide +kernel
theorem dX6_isUpable_5 : decode cX6_isUpable 5 = .ok (.iaload, 1) := by decide +kernel
theorem dX6_isUpable_6 : decode cX6_isUpable 6 = .ok (.iload_n 1, 1) := by decide +kernel
theorem dX6_isUpable_7 : decode cX6_isUpable 7 = .ok (.invokestatic 162, 3) := by decide +kernel
theorem dX6_isUpable_10 : decode cX6_isUpable 10 = .ok (.ifCond .ne 25, 3) := by decide +kernel
theorem dX6_isUpable_13 : decode cX6_isUpable 13 = .ok (.aload_n 0, 1) := by decide +kernel
theorem dX6_isUpable_14 : decode cX6_isUpable 14 = .ok (.getfield 47, 3) := by decide +kernel
theorem dX6_isUpable_17 : decode cX6_isUpable 17 = .ok (.bipush 6, 2) := by decide +kernel
theorem dX6_isUpable_19 : decode cX6_isUpable 19 = .ok (.iload_n 1, 1) := by decide +kernel
theorem dX6_isUpable_20 : decode cX6_isUpable 20 = .ok (.iadd, 1) := by decide +kernel
theorem dX6_isUpable_21 : decode cX6_isUpable 21 = .ok (.iaload, 1) := by decide +kernel
theorem dX6_isUpable_22 : decode cX6_isUpable 22 = .ok (.aload_n 0, 1) := by decide +kernel
theorem dX6_isUpable_23 : decode cX6_isUpable 23 = .ok (.getfield 38, 3) := by decide +kernel
theorem dX6_isUpable_26 : decode cX6_isUpable 26 = .ok (.iload_n 1, 1) := by decide +kernel
theorem dX6_isUpable_27 : decode cX6_isUpable 27 = .ok (.iaload, 1) := by decide +kernel
theorem dX6_isUpable_28 : decode cX6_isUpable 28 = .ok (.if_icmp .ge 7, 3) := by decide +kernel
theorem dX6_isUpable_31 : decode cX6_isUpable 31 = .ok (.iconst 1, 1) := by decide +kernel
theorem dX6_isUpable_32 : decode cX6_isUpable 32 = .ok (.goto 4, 3) := by decide +kernel
theorem dX6_isUpable_35 : decode cX6_isUpable 35 = .ok (.iconst 0, 1) := by decide +kernel
theorem dX6_isUpable_36 : decode cX6_isUpable 36 = .ok (.ireturn, 1) := by decide +kernel
set_option maxRecDepth 20000 in
theorem ggX6_doUp_X6_isLink : GoodIn wsX6_doUp wsX6_isLink := goodIn_r _ [8, 9, 10, 11, 7, 12, 31, 32, 33, 34, 35, 36, 37, 38, 39, 40, 41, 42, 43, 44, 45, 46, 47, 48, 49, 50, 51, 52, 53, 54, 55, 56, 57, 58, 59, 60, 61, 62, 63, 64, 65, 66, 67, 68] (by decide +kernel) (by decide +kernel)
set_option maxRecDepth 20000 in
theorem gX6_doUp_X6_isLink : GoodIn wsX6_doUp (wsV RX6 173 RX6 yX6_isLink wsX6_isLink) := goodIn_app (goodIn_of _ (by decide +kernel)) ggX6_doUp_X6_isLink
set_option maxRecDepth 20000 in
theorem ggX6_doUp_X6_isUpable : GoodIn wsX6_doUp wsX6_isUpable := goodIn_r _ [16, 3, 17, 18, 19, 7, 20, 31, 32, 33, 34, 35, 36, 37, 38, 39, 40, 41, 42, 43, 44, 45, 46, 47, 48, 49, 50, 51, 52, 53, 54, 55, 56, 57, 58, 59, 60, 61, 62, 63, 64, 65, 66, 67, 68] (by decide +kernel) (by decide +kernel)
set_option maxRecDepth 20000 in
theorem gX6_doUp_X6_isUpable : GoodIn wsX6_doUp (wsV RX6 214 RX6 yX6_isUpable wsX6_isUpable) := goodIn_app (goodIn_of _ (by decide +kernel)) ggX6_doUp_X6_isUpable
set_option maxRecDepth 20000 in
theorem ggX6_doUp_X6_remember : GoodIn wsX6_doUp wsX6_remember := goodIn_r _ [24, 25, 26, 3, 27, 31, 32, 33, 34, 35, 36, 37, 38, 39, 40, 41, 42, 43, 44, 45, 46, 47, 48, 49, 50, 51, 52, 53, 54, 55, 56, 57, 58, 59, 60, 61, 62, 63, 64, 65, 66, 67, 68] (by decide +kernel) (by decide +kernel)
set_option maxRecDepth 20000 in
theorem gX6_doUp_X6_remember : GoodIn wsX6_doUp (wsV RX6 204 RX6 yX6_remember wsX6_remember) := goodIn_app (goodIn_of _ (by decide +kernel)) ggX6_doUp_X6_remember
set_option maxRecDepth 20000 in
theorem ggX6_doUp_X6_bits : GoodIn wsX6_doUp wsX6_bits := goodIn_r _ [30] (by decide +kernel) (by decide +kernel)
set_option maxRecDepth 20000 in
theorem gX6_doUp_X6_bits : GoodIn wsX6_doUp (va_wsS RX6 211 yX6_bits wsX6_bits) := goodIn_app (goodIn_of _ (by decide +kernel)) ggX6_doUp_X6_bits
theorem dX6_doUp_0 : decode cX6_doUp 0 = .ok (.aload_n 0, 1) := by decide +kernel
theorem dX6_doUp_1 : decode cX6_doUp 1 = .ok (.iload_n 1, 1) := by decide +kernel
theorem dX6_doUp_2 : decode cX6_doUp 2 = .ok (.invokevirtual 173, 3) := by decide +kernel
theorem dX6_doUp_5 : decode cX6_doUp 5 = .ok (.ifCond .ne 6, 3) := by decide +kernel
theorem dX6_doUp_8 : decode cX6_doUp 8 = .ok (.ldc 176, 2) := by decide +kernel
theorem dX6_doUp_10 : decode cX6_doUp 10 = .ok (.ireturn, 1) := by decide +kernel
theorem dX6_doUp_11 : decode cX6_doUp 11 = .ok (.aload_n 0, 1) := by decide +kernel
theorem dX6_doUp_12 : decode cX6_doUp 12 = .ok (.iload_n 1, 1) := by decide +kernel
theorem dX6_doUp_13 : decode cX6_doUp 13 = .ok (.invokevirtual 214, 3) := by decide +kernel
theorem dX6_doUp_16 : decode cX6_doUp 16 = .ok (.ifCond .ne 6, 3) := by decide +kernel
theorem dX6_doUp_19 : decode cX6_doUp 19 = .ok (.ldc 181, 2) := by decide +kernel
theorem dX6_doUp_21 : decode cX6_doUp 21 = .ok (.ireturn, 1) := by decide +kernel
theorem dX6_doUp_22 : decode cX6_doUp 22 = .ok (.aload_n 0, 1) := by decide +kernel
theorem dX6_doUp_23 : decode cX6_doUp 23 = .ok (.invokevirtual 204, 3) := by decide +kernel
theorem dX6_doUp_26 : decode cX6_doUp 26 = .ok (.aload_n 0, 1) := by decide +kernel
theorem dX6_doUp_27 : decode cX6_doUp 27 = .ok (.getfield 47, 3) := by decide +kernel
theorem dX6_doUp_30 : decode cX6_doUp 30 = .ok (.iconst 0, 1) := by decide +kernel
theorem dX6_doUp_31 : decode cX6_doUp 31 = .ok (.dup2, 1) := by decide +kernel
theorem dX6_doUp_32 : decode cX6_doUp 32 = .ok (.iaload, 1) := by decide +kernel
theorem dX6_doUp_33 : decode cX6_doUp 33 = .ok (.iconst 1, 1) := by decide +kernel
theorem dX6_doUp_34 : decode cX6_doUp 34 = .ok (.iload_n 1, 1) := by decide +kernel
theorem dX6_doUp_35 : decode cX6_doUp 35 = .ok (.ishl, 1) := by decide +kernel
theorem dX6_doUp_36 : decode cX6_doUp 36 = .ok (.ior, 1) := by decide +kernel
theorem dX6_doUp_37 : decode cX6_doUp 37 = .ok (.iastore, 1) := by decide +kernel
theorem dX6_doUp_38 : decode cX6_doUp 38 = .ok (.aload_n 0, 1) := by decide +kernel
theorem dX6_doUp_39 : decode cX6_doUp 39 = .ok (.getfield 47, 3) := by decide +kernel
theorem dX6_doUp_42 : decode cX6_doUp 42 = .ok (.iconst 0, 1) := by decide +kernel
theorem dX6_doUp_43 : decode cX6_doUp 43 = .ok (.iaload, 1) := by decide +kernel
theorem dX6_doUp_44 : decode cX6_doUp 44 = .ok (.invokestatic 211, 3) := by decide +kernel
theorem dX6_doUp_47 : decode cX6_doUp 47 = .ok (.ireturn, 1) := by decide +kernel
set_option maxRecDepth 20000 in
theorem ggX6_turn_X6_isLink : GoodIn wsX6_turn wsX6_isLink := goodIn_r _ [7, 8, 9, 10, 6, 11, 19, 20, 21, 22, 23, 24, 25, 26, 27, 28, 29, 30, 31, 32, 33, 34, 35, 36, 37, 38, 39, 40, 41, 42, 43, 44, 45, 46, 47, 48, 49, 50, 51, 52, 53, 54, 55, 56] (by decide +kernel) (by decide +kernel)
set_option maxRecDepth 20000 in
theorem gX6_turn_X6_isLink : GoodIn wsX6_turn (wsV RX6 173 RX6 yX6_isLink wsX6_isLink) := goodIn_app (goodIn_of _ (by decide +kernel)) ggX6_turn_X6_isLink
set_option maxRecDepth 20000 in
theorem ggX6_turn_X6_remember : GoodIn wsX6_turn wsX6_remember := goodIn_r _ [15, 16, 17, 2, 18, 19, 20, 21, 22, 23, 24, 25, 26, 27, 28, 29, 30, 31, 32, 33, 34, 35, 36, 37, 38, 39, 40, 41, 42, 43, 44, 45, 46, 47, 48, 49, 50, 51, 52, 53, 54, 55, 56] (by decide +kernel) (by decide +kernel)
set_option maxRecDepth 20000 in
theorem gX6_turn_X6_remember : GoodIn wsX6_turn (wsV RX6 204 RX6 yX6_remember wsX6_remember) := goodIn_app (goodIn_of _ (by decide +kernel)) ggX6_turn_X6_remember
theorem dX6_turn_0 : decode cX6_turn 0 = .ok (.aload_n 0, 1) := by decide +kernel
theorem dX6_turn_1 : decode cX6_turn 1 = .ok (.iload_n 1, 1) := by decide +kernel
theorem dX6_turn_2 : decode cX6_turn 2 = .ok (.invokevirtual 173, 3) := by decide +kernel
theorem dX6_turn_5 : decode cX6_turn 5 = .ok (.ifCond .ne 6, 3) := by decide +kernel
theorem dX6_turn_8 : decode cX6_turn 8 = .ok (.ldc 176, 2) := by decide +kernel
theorem dX6_turn_10 : decode cX6_turn 10 = .ok (.ireturn, 1) := by decide +kernel
theorem dX6_turn_11 : decode cX6_turn 11 = .ok (.aload_n 0, 1) := by decide +kernel
theorem dX6_turn_12 : decode cX6_turn 12 = .ok (.invokevirtual 204, 3) := by decide +kernel
theorem dX6_turn_15 : decode cX6_turn 15 = .ok (.aload_n 0, 1) := by decide +kernel
theorem dX6_turn_16 : decode cX6_turn 16 = .ok (.getfield 47, 3) := by decide +kernel
theorem dX6_turn_19 : decode cX6_turn 19 = .ok (.iconst 1, 1) := by decide +kernel
theorem dX6_turn_20 : decode cX6_turn 20 = .ok (.dup2, 1) := by decide +kernel
theorem dX6_turn_21 : decode cX6_turn 21 = .ok (.iaload, 1) := by decide +kernel
theorem dX6_turn_22 : decode cX6_turn 22 = .ok (.iconst 1, 1) := by decide +kernel
theorem dX6_turn_23 : decode cX6_turn 23 = .ok (.iload_n 1, 1) := by decide +kernel
theorem dX6_turn_24 : decode cX6_turn 24 = .ok (.ishl, 1) := by decide +kernel
theorem dX6_turn_25 : decode cX6_turn 25 = .ok (.ixor, 1) := by decide +kernel
theorem dX6_turn_26 : decode cX6_turn 26 = .ok (.iastore, 1) := by decide +kernel
theorem dX6_turn_27 : decode cX6_turn 27 = .ok (.aload_n 0, 1) := by decide +kernel
theorem dX6_turn_28 : decode cX6_turn 28 = .ok (.getfield 47, 3) := by decide +kernel
theorem dX6_turn_31 : decode cX6_turn 31 = .ok (.iconst 1, 1) := by decide +kernel
theorem dX6_turn_32 : decode cX6_turn 32 = .ok (.iaload, 1) := by decide +kernel
theorem dX6_turn_33 : decode cX6_turn 33 = .ok (.iload_n 1, 1) := by decide +kernel
theorem dX6_turn_34 : decode cX6_turn 34 = .ok (.ishr, 1) := by decide +kernel
theorem dX6_turn_35 : decode cX6_turn 35 = .ok (.iconst 1, 1) := by decide +kernel
theorem dX6_turn_36 : decode cX6_turn 36 = .ok (.iand, 1) := by decide +kernel
theorem dX6_turn_37 : decode cX6_turn 37 = .ok (.ireturn, 1) := by decide +kernel
set_option maxRecDepth 20000 in
theorem ggX6_mend_X6_isLink : GoodIn wsX6_mend wsX6_isLink := goodIn_r _ [8, 9, 10, 11, 7, 12, 20, 21, 22, 23, 24, 25, 26, 27, 28, 29, 30, 31, 32, 33, 34, 35, 36, 37, 38, 39, 40, 41, 42, 43, 44, 45, 46, 47, 48, 49, 50, 51, 52, 53, 54, 55, 56, 57] (by decide +kernel) (by decide +kernel)
set_option maxRecDepth 20000 in
theorem gX6_mend_X6_isLink : GoodIn wsX6_mend (wsV RX6 173 RX6 yX6_isLink wsX6_isLink) := goodIn_app (goodIn_of _ (by decide +kernel)) ggX6_mend_X6_isLink
set_option maxRecDepth 20000 in
theorem ggX6_mend_X6_remember : GoodIn wsX6_mend wsX6_remember := goodIn_r _ [16, 17, 18, 2, 19, 20, 21, 22, 23, 24, 25, 26, 27, 28, 29, 30, 31, 32, 33, 34, 35, 36, 37, 38, 39, 40, 41, 42, 43, 44, 45, 46, 47, 48, 49, 50, 51, 52, 53, 54, 55, 56, 57] (by decide +kernel) (by decide +kernel)
set_option maxRecDepth 20000 in
theorem gX6_mend_X6_remember : GoodIn wsX6_mend (wsV RX6 204 RX6 yX6_remember wsX6_remember) := goodIn_app (goodIn_of _ (by decide +kernel)) ggX6_mend_X6_remember
theorem dX6_mend_0 : decode cX6_mend 0 = .ok (.aload_n 0, 1) := by decide +kernel
theorem dX6_mend_1 : decode cX6_mend 1 = .ok (.iload_n 1, 1) := by decide +kernel
theorem dX6_mend_2 : decode cX6_mend 2 = .ok (.invokevirtual 173, 3) := by decide +kernel
theorem dX6_mend_5 : decode cX6_mend 5 = .ok (.ifCond .ne 6, 3) := by decide +kernel
theorem dX6_mend_8 : decode cX6_mend 8 = .ok (.ldc 176, 2) := by decide +kernel
theorem dX6_mend_10 : decode cX6_mend 10 = .ok (.ireturn, 1) := by decide +kernel
theorem dX6_mend_11 : decode cX6_mend 11 = .ok (.aload_n 0, 1) := by decide +kernel
theorem dX6_mend_12 : decode cX6_mend 12 = .ok (.getfield 47, 3) := by decide +kernel
theorem dX6_mend_15 : decode cX6_mend 15 = .ok (.iconst 4, 1) := by decide +kernel
theorem dX6_mend_16 : decode cX6_mend 16 = .ok (.iaload, 1) := by decide +kernel
theorem dX6_mend_17 : decode cX6_mend 17 = .ok (.ifCond .ne 6, 3) := by decide +kernel
theorem dX6_mend_20 : decode cX6_mend 20 = .ok (.ldc 181, 2) := by decide +kernel
theorem dX6_mend_22 : decode cX6_mend 22 = .ok (.ireturn, 1) := by decide +kernel
theorem dX6_mend_23 : decode cX6_mend 23 = .ok (.aload_n 0, 1) := by decide +kernel
theorem dX6_mend_24 : decode cX6_mend 24 = .ok (.invokevirtual 204, 3) := by decide +kernel
theorem dX6_mend_27 : decode cX6_mend 27 = .ok (.aload_n 0, 1) := by decide +kernel
theorem dX6_mend_28 : decode cX6_mend 28 = .ok (.getfield 47, 3) := by decide +kernel
theorem dX6_mend_31 : decode cX6_mend 31 = .ok (.bipush 6, 2) := by decide +kernel
theorem dX6_mend_33 : decode cX6_mend 33 = .ok (.iload_n 1, 1) := by decide +kernel
theorem dX6_mend_34 : decode cX6_mend 34 = .ok (.iadd, 1) := by decide +kernel
theorem dX6_mend_35 : decode cX6_mend 35 = .ok (.iconst 0, 1) := by decide +kernel
theorem dX6_mend_36 : decode cX6_mend 36 = .ok (.iastore, 1) := by decide +kernel
theorem dX6_mend_37 : decode cX6_mend 37 = .ok (.aload_n 0, 1) := by decide +kernel
theorem dX6_mend_38 : decode cX6_mend 38 = .ok (.getfield 47, 3) := by decide +kernel
theorem dX6_mend_41 : decode cX6_mend 41 = .ok (.iconst 4, 1) := by decide +kernel
theorem dX6_mend_42 : decode cX6_mend 42 = .ok (.dup2, 1) := by decide +kernel
theorem dX6_mend_43 : decode cX6_mend 43 = .ok (.iaload, 1) := by decide +kernel
theorem dX6_mend_44 : decode cX6_mend 44 = .ok (.iconst 1, 1) := by decide +kernel
theorem dX6_mend_45 : decode cX6_mend 45 = .ok (.isub, 1) := by decide +kernel
theorem dX6_mend_46 : decode cX6_mend 46 = .ok (.iastore, 1) := by decide +kernel
theorem dX6_mend_47 : decode cX6_mend 47 = .ok (.aload_n 0, 1) := by decide +kernel
theorem dX6_mend_48 : decode cX6_mend 48 = .ok (.getfield 47, 3) := by decide +kernel
theorem dX6_mend_51 : decode cX6_mend 51 = .ok (.iconst 4, 1) := by decide +kernel
theorem dX6_mend_52 : decode cX6_mend 52 = .ok (.iaload, 1) := by decide +kernel
theorem dX6_mend_53 : decode cX6_mend 53 = .ok (.ireturn, 1) := by decide +kernel
set_option maxRecDepth 20000 in
theorem ggX6_hold_X6_isLink : GoodIn wsX6_hold wsX6_isLink := goodIn_r _ [9, 10, 11, 12, 8, 13, 21, 22, 23, 24, 25, 26, 27, 28, 29, 30, 31, 32, 33, 34, 35, 36, 37, 38, 39, 40, 41, 42, 43, 44, 45, 46, 47, 48, 49, 50, 51, 52, 53, 54, 55, 56, 57, 58] (by decide +kernel) (by decide +kernel)
set_option maxRecDepth 20000 in
theorem gX6_hold_X6_isLink : GoodIn wsX6_hold (wsV RX6 173 RX6 yX6_isLink wsX6_isLink) := goodIn_app (goodIn_of _ (by decide +kernel)) ggX6_hold_X6_isLink
set_option maxRecDepth 20000 in
theorem ggX6_hold_X6_remember : GoodIn wsX6_hold wsX6_remember := goodIn_r _ [17, 18, 19, 4, 20, 21, 22, 23, 24, 25, 26, 27, 28, 29, 30, 31, 32, 33, 34, 35, 36, 37, 38, 39, 40, 41, 42, 43, 44, 45, 46, 47, 48, 49, 50, 51, 52, 53, 54, 55, 56, 57, 58] (by decide +kernel) (by decide +kernel)
set_option maxRecDepth 20000 in
theorem gX6_hold_X6_remember : GoodIn wsX6_hold (wsV RX6 204 RX6 yX6_remember wsX6_remember) := goodIn_app (goodIn_of _ (by decide +kernel)) ggX6_hold_X6_remember
theorem dX6_hold_0 : decode cX6_hold 0 = .ok (.aload_n 0, 1) := by decide +kernel
theorem dX6_hold_1 : decode cX6_hold 1 = .ok (.iload_n 1, 1) := by decide +kernel
theorem dX6_hold_2 : decode cX6_hold 2 = .ok (.invokevirtual 173, 3) := by decide +kernel
theorem dX6_hold_5 : decode cX6_hold 5 = .ok (.ifCond .ne 6, 3) := by decide +kernel
theorem dX6_hold_8 : decode cX6_hold 8 = .ok (.ldc 176, 2) := by decide +kernel
theorem dX6_hold_10 : decode cX6_hold 10 = .ok (.ireturn, 1) := by decide +kernel
theorem dX6_hold_11 : decode cX6_hold 11 = .ok (.aload_n 0, 1) := by decide +kernel
theorem dX6_hold_12 : decode cX6_hold 12 = .ok (.getfield 35, 3) := by decide +kernel
theorem dX6_hold_15 : decode cX6_hold 15 = .ok (.iload_n 1, 1) := by decide +kernel
theorem dX6_hold_16 : decode cX6_hold 16 = .ok (.iaload, 1) := by decide +kernel
theorem dX6_hold_17 : decode cX6_hold 17 = .ok (.iconst 3, 1) := by decide +kernel
theorem dX6_hold_18 : decode cX6_hold 18 = .ok (.if_icmp .eq 6, 3) := by decide +kernel
theorem dX6_hold_21 : decode cX6_hold 21 = .ok (.ldc 181, 2) := by decide +kernel
theorem dX6_hold_23 : decode cX6_hold 23 = .ok (.ireturn, 1) := by decide +kernel
theorem dX6_hold_24 : decode cX6_hold 24 = .ok (.aload_n 0, 1) := by decide +kernel
theorem dX6_hold_25 : decode cX6_hold 25 = .ok (.invokevirtual 204, 3) := by decide +kernel
theorem dX6_hold_28 : decode cX6_hold 28 = .ok (.aload_n 0, 1) := by decide +kernel
theorem dX6_hold_29 : decode cX6_hold 29 = .ok (.getfield 47, 3) := by decide +kernel
theorem dX6_hold_32 : decode cX6_hold 32 = .ok (.iconst 2, 1) := by decide +kernel
theorem dX6_hold_33 : decode cX6_hold 33 = .ok (.iaload, 1) := by decide +kernel
theorem dX6_hold_34 : decode cX6_hold 34 = .ok (.iload_n 1, 1) := by decide +kernel
theorem dX6_hold_35 : decode cX6_hold 35 = .ok (.ishr, 1) := by decide +kernel
theorem dX6_hold_36 : decode cX6_hold 36 = .ok (.iconst 1, 1) := by decide +kernel
theorem dX6_hold_37 : decode cX6_hold 37 = .ok (.iand, 1) := by decide +kernel
theorem dX6_hold_38 : decode cX6_hold 38 = .ok (.istore_n 3, 1) := by decide +kernel
theorem dX6_hold_39 : decode cX6_hold 39 = .ok (.aload_n 0, 1) := by decide +kernel
theorem dX6_hold_40 : decode cX6_hold 40 = .ok (.getfield 47, 3) := by decide +kernel
theorem dX6_hold_43 : decode cX6_hold 43 = .ok (.iconst 2, 1) := by decide +kernel
theorem dX6_hold_44 : decode cX6_hold 44 = .ok (.iload_n 2, 1) := by decide +kernel
theorem dX6_hold_45 : decode cX6_hold 45 = .ok (.ifCond .eq 16, 3) := by decide +kernel
theorem dX6_hold_48 : decode cX6_hold 48 = .ok (.aload_n 0, 1) := by decide +kernel
theorem dX6_hold_49 : decode cX6_hold 49 = .ok (.getfield 47, 3) := by decide +kernel
theorem dX6_hold_52 : decode cX6_hold 52 = .ok (.iconst 2, 1) := by decide +kernel
theorem dX6_hold_53 : decode cX6_hold 53 = .ok (.iaload, 1) := by decide +kernel
theorem dX6_hold_54 : decode cX6_hold 54 = .ok (.iconst 1, 1) := by decide +kernel
theorem dX6_hold_55 : decode cX6_hold 55 = .ok (.iload_n 1, 1) := by decide +kernel
theorem dX6_hold_56 : decode cX6_hold 56 = .ok (.ishl, 1) := by decide +kernel
theorem dX6_hold_57 : decode cX6_hold 57 = .ok (.ior, 1) := by decide +kernel
theorem dX6_hold_58 : decode cX6_hold 58 = .ok (.goto 15, 3) := by decide +kernel
theorem dX6_hold_61 : decode cX6_hold 61 = .ok (.aload_n 0, 1) := by decide +kernel
theorem dX6_hold_62 : decode cX6_hold 62 = .ok (.getfield 47, 3) := by decide +kernel
theorem dX6_hold_65 : decode cX6_hold 65 = .ok (.iconst 2, 1) := by decide +kernel
theorem dX6_hold_66 : decode cX6_hold 66 = .ok (.iaload, 1) := by decide +kernel
theorem dX6_hold_67 : decode cX6_hold 67 = .ok (.iconst 1, 1) := by decide +kernel
theorem dX6_hold_68 : decode cX6_hold 68 = .ok (.iload_n 1, 1) := by decide +kernel
theorem dX6_hold_69 : decode cX6_hold 69 = .ok (.ishl, 1) := by decide +kernel
theorem dX6_hold_70 : decode cX6_hold 70 = .ok (.iconst (-1), 1) := by decide +kernel
theorem dX6_hold_71 : decode cX6_hold 71 = .ok (.ixor, 1) := by decide +kernel
theorem dX6_hold_72 : decode cX6_hold 72 = .ok (.iand, 1) := by decide +kernel
theorem dX6_hold_73 : decode cX6_hold 73 = .ok (.iastore, 1) := by decide +kernel
theorem dX6_hold_74 : decode cX6_hold 74 = .ok (.iload_n 3, 1) := by decide +kernel
theorem dX6_hold_75 : decode cX6_hold 75 = .ok (.ireturn, 1) := by decide +kernel
set_option maxRecDepth 20000 in
theorem ggX6_earn_X6_in : GoodIn wsX6_earn wsX6_in := goodIn_r _ [8] (by decide +kernel) (by decide +kernel)
set_option maxRecDepth 20000 in
theorem gX6_earn_X6_in : GoodIn wsX6_earn (va_wsS RX6 82 yX6_in wsX6_in) := goodIn_app (goodIn_of _ (by decide +kernel)) ggX6_earn_X6_in
set_option maxRecDepth 20000 in
theorem ggX6_earn_X6_remember : GoodIn wsX6_earn wsX6_remember := goodIn_r _ [12, 13, 14, 4, 15, 16, 17, 18, 19, 20, 21, 22, 23, 24, 25, 26, 27, 28, 29, 30, 31, 32, 33, 34, 35, 36, 37, 38, 39, 40, 41, 42, 43, 44, 45, 46, 47, 48, 49, 50, 51, 52, 53] (by decide +kernel) (by decide +kernel)
set_option maxRecDepth 20000 in
theorem gX6_earn_X6_remember : GoodIn wsX6_earn (wsV RX6 204 RX6 yX6_remember wsX6_remember) := goodIn_app (goodIn_of _ (by decide +kernel)) ggX6_earn_X6_remember
theorem dX6_earn_0 : decode cX6_earn 0 = .ok (.iload_n 1, 1) := by decide +kernel
theorem dX6_earn_1 : decode cX6_earn 1 = .ok (.iconst 1, 1) := by decide +kernel
theorem dX6_earn_2 : decode cX6_earn 2 = .ok (.bipush 99, 2) := by decide +kernel
theorem dX6_earn_4 : decode cX6_earn 4 = .ok (.invokestatic 82, 3) := by decide +kernel
theorem dX6_earn_7 : decode cX6_earn 7 = .ok (.ifCond .ne 6, 3) := by decide +kernel
theorem dX6_earn_10 : decode cX6_earn 10 = .ok (.ldc 86, 2) := by decide +kernel
theorem dX6_earn_12 : decode cX6_earn 12 = .ok (.ireturn, 1) := by decide +kernel
theorem dX6_earn_13 : decode cX6_earn 13 = .ok (.aload_n 0, 1) := by decide +kernel
theorem dX6_earn_14 : decode cX6_earn 14 = .ok (.getfield 141, 3) := by decide +kernel
theorem dX6_earn_17 : decode cX6_earn 17 = .ok (.ifCond .ne 6, 3) := by decide +kernel
theorem dX6_earn_20 : decode cX6_earn 20 = .ok (.ldc 181, 2) := by decide +kernel
theorem dX6_earn_22 : decode cX6_earn 22 = .ok (.ireturn, 1) := by decide +kernel
theorem dX6_earn_23 : decode cX6_earn 23 = .ok (.aload_n 0, 1) := by decide +kernel
theorem dX6_earn_24 : decode cX6_earn 24 = .ok (.invokevirtual 204, 3) := by decide +kernel
theorem dX6_earn_27 : decode cX6_earn 27 = .ok (.aload_n 0, 1) := by decide +kernel
theorem dX6_earn_28 : decode cX6_earn 28 = .ok (.getfield 47, 3) := by decide +kernel
theorem dX6_earn_31 : decode cX6_earn 31 = .ok (.iconst 4, 1) := by decide +kernel
theorem dX6_earn_32 : decode cX6_earn 32 = .ok (.iaload, 1) := by decide +kernel
theorem dX6_earn_33 : decode cX6_earn 33 = .ok (.iload_n 1, 1) := by decide +kernel
theorem dX6_earn_34 : decode cX6_earn 34 = .ok (.iadd, 1) := by decide +kernel
theorem dX6_earn_35 : decode cX6_earn 35 = .ok (.istore_n 2, 1) := by decide +kernel
theorem dX6_earn_36 : decode cX6_earn 36 = .ok (.aload_n 0, 1) := by decide +kernel
theorem dX6_earn_37 : decode cX6_earn 37 = .ok (.getfield 47, 3) := by decide +kernel
theorem dX6_earn_40 : decode cX6_earn 40 = .ok (.iconst 4, 1) := by decide +kernel
theorem dX6_earn_41 : decode cX6_earn 41 = .ok (.iload_n 2, 1) := by decide +kernel
theorem dX6_earn_42 : decode cX6_earn 42 = .ok (.bipush 99, 2) := by decide +kernel
theorem dX6_earn_44 : decode cX6_earn 44 = .ok (.if_icmp .le 8, 3) := by decide +kernel
theorem dX6_earn_47 : decode cX6_earn 47 = .ok (.bipush 99, 2) := by decide +kernel
theorem dX6_earn_49 : decode cX6_earn 49 = .ok (.goto 4, 3) := by decide +kernel
theorem dX6_earn_52 : decode cX6_earn 52 = .ok (.iload_n 2, 1) := by decide +kernel
theorem dX6_earn_53 : decode cX6_earn 53 = .ok (.iastore, 1) := by decide +kernel
theorem dX6_earn_54 : decode cX6_earn 54 = .ok (.aload_n 0, 1) := by decide +kernel
theorem dX6_earn_55 : decode cX6_earn 55 = .ok (.getfield 47, 3) := by decide +kernel
theorem dX6_earn_58 : decode cX6_earn 58 = .ok (.iconst 4, 1) := by decide +kernel
theorem dX6_earn_59 : decode cX6_earn 59 = .ok (.iaload, 1) := by decide +kernel
theorem dX6_earn_60 : decode cX6_earn 60 = .ok (.ireturn, 1) := by decide +kernel
theorem dX6_draw_0 : decode cX6_draw 0 = .ok (.aload_n 0, 1) := by decide +kernel
theorem dX6_draw_1 : decode cX6_draw 1 = .ok (.aload_n 0, 1) := by decide +kernel
theorem dX6_draw_2 : decode cX6_draw 2 = .ok (.getfield 217, 3) := by decide +kernel
theorem dX6_draw_5 : decode cX6_draw 5 = .ok (.ldc2_w 221, 3) := by decide +kernel
theorem dX6_draw_8 : decode cX6_draw 8 = .ok (.lmul, 1) := by decide +kernel
theorem dX6_draw_9 : decode cX6_draw 9 = .ok (.ldc2_w 223, 3) := by decide +kernel
theorem dX6_draw_12 : decode cX6_draw 12 = .ok (.ladd, 1) := by decide +kernel
theorem dX6_draw_13 : decode cX6_draw 13 = .ok (.ldc2_w 225, 3) := by decide +kernel
theorem dX6_draw_16 : decode cX6_draw 16 = .ok (.lrem, 1) := by decide +kernel
theorem dX6_draw_17 : decode cX6_draw 17 = .ok (.putfield 217, 3) := by decide +kernel
theorem dX6_draw_20 : decode cX6_draw 20 = .ok (.aload_n 0, 1) := by decide +kernel
theorem dX6_draw_21 : decode cX6_draw 21 = .ok (.getfield 217, 3) := by decide +kernel
theorem dX6_draw_24 : decode cX6_draw 24 = .ok (.ldc2_w 227, 3) := by decide +kernel
theorem dX6_draw_27 : decode cX6_draw 27 = .ok (.ldiv, 1) := by decide +kernel
theorem dX6_draw_28 : decode cX6_draw 28 = .ok (.iload_n 1, 1) := by decide +kernel
theorem dX6_draw_29 : decode cX6_draw 29 = .ok (.i2l, 1) := by decide +kernel
theorem dX6_draw_30 : decode cX6_draw 30 = .ok (.lrem, 1) := by decide +kernel
theorem dX6_draw_31 : decode cX6_draw 31 = .ok (.l2i, 1) := by decide +kernel
theorem dX6_draw_32 : decode cX6_draw 32 = .ok (.ireturn, 1) := by decide +kernel
set_option maxRecDepth 20000 in
theorem ggX6_draws_X6_draw : GoodIn wsX6_draws wsX6_draw := goodIn_r _ [7, 8, 9, 10, 11, 12, 21, 22, 23, 24, 25, 26, 27, 28, 29, 30, 31, 32, 33, 34, 35, 36, 37, 38, 39, 40, 41, 42, 43, 44, 45, 46, 47, 48, 49, 50, 51, 52, 53, 54, 55, 56, 57, 58] (by decide +kernel) (by decide +kernel)
set_option maxRecDepth 20000 in
theorem gX6_draws_X6_draw : GoodIn wsX6_draws (wsV RX6 229 RX6 yX6_draw wsX6_draw) := goodIn_app (goodIn_of _ (by decide +kernel)) ggX6_draws_X6_draw
set_option maxRecDepth 20000 in
theorem ggX6_draws_X6_isUpable : GoodIn wsX6_draws wsX6_isUpable := goodIn_r _ [16, 2, 17, 18, 19, 6, 20, 21, 22, 23, 24, 25, 26, 27, 28, 29, 30, 31, 32, 33, 34, 35, 36, 37, 38, 39, 40, 41, 42, 43, 44, 45, 46, 47, 48, 49, 50, 51, 52, 53, 54, 55, 56, 57, 58] (by decide +kernel) (by decide +kernel)
set_option maxRecDepth 20000 in
theorem gX6_draws_X6_isUpable : GoodIn wsX6_draws (wsV RX6 214 RX6 yX6_isUpable wsX6_isUpable) := goodIn_app (goodIn_of _ (by decide +kernel)) ggX6_draws_X6_isUpable
theorem dX6_draws_0 : decode cX6_draws 0 = .ok (.aload_n 0, 1) := by decide +kernel
theorem dX6_draws_1 : decode cX6_draws 1 = .ok (.bipush 6, 2) := by decide +kernel
theorem dX6_draws_3 : decode cX6_draws 3 = .ok (.invokevirtual 229, 3) := by decide +kernel
theorem dX6_draws_6 : decode cX6_draws 6 = .ok (.istore_n 1, 1) := by decide +kernel
theorem dX6_draws_7 : decode cX6_draws 7 = .ok (.iload_n 1, 1) := by decide +kernel
theorem dX6_draws_8 : decode cX6_draws 8 = .ok (.iconst 3, 1) := by decide +kernel
theorem dX6_draws_9 : decode cX6_draws 9 = .ok (.if_icmp .ge 14, 3) := by decide +kernel
theorem dX6_draws_12 : decode cX6_draws 12 = .ok (.aload_n 0, 1) := by decide +kernel
theorem dX6_draws_13 : decode cX6_draws 13 = .ok (.aload_n 0, 1) := by decide +kernel
theorem dX6_draws_14 : decode cX6_draws 14 = .ok (.getfield 144, 3) := by decide +kernel
theorem dX6_draws_17 : decode cX6_draws 17 = .ok (.invokevirtual 229, 3) := by decide +kernel
theorem dX6_draws_20 : decode cX6_draws 20 = .ok (.goto 4, 3) := by decide +kernel
theorem dX6_draws_23 : decode cX6_draws 23 = .ok (.iconst 0, 1) := by decide +kernel
theorem dX6_draws_24 : decode cX6_draws 24 = .ok (.istore_n 2, 1) := by decide +kernel
theorem dX6_draws_25 : decode cX6_draws 25 = .ok (.iload_n 1, 1) := by decide +kernel
theorem dX6_draws_26 : decode cX6_draws 26 = .ok (.ifCond .ne 20, 3) := by decide +kernel
theorem dX6_draws_29 : decode cX6_draws 29 = .ok (.aload_n 0, 1) := by decide +kernel
theorem dX6_draws_30 : decode cX6_draws 30 = .ok (.getfield 47, 3) := by decide +kernel
theorem dX6_draws_33 : decode cX6_draws 33 = .ok (.iconst 0, 1) := by decide +kernel
theorem dX6_draws_34 : decode cX6_draws 34 = .ok (.dup2, 1) := by decide +kernel
theorem dX6_draws_35 : decode cX6_draws 35 = .ok (.iaload, 1) := by decide +kernel
theorem dX6_draws_36 : decode cX6_draws 36 = .ok (.iconst 1, 1) := by decide +kernel
theorem dX6_draws_37 : decode cX6_draws 37 = .ok (.iload_n 2, 1) := by decide +kernel
theorem dX6_draws_38 : decode cX6_draws 38 = .ok (.ishl, 1) := by decide +kernel
theorem dX6_draws_39 : decode cX6_draws 39 = .ok (.iconst (-1), 1) := by decide +kernel
theorem dX6_draws_40 : decode cX6_draws 40 = .ok (.ixor, 1) := by decide +kernel
theorem dX6_draws_41 : decode cX6_draws 41 = .ok (.iand, 1) := by decide +kernel
theorem dX6_draws_42 : decode cX6_draws 42 = .ok (.iastore, 1) := by decide +kernel
theorem dX6_draws_43 : decode cX6_draws 43 = .ok (.goto 52, 3) := by decide +kernel
theorem dX6_draws_46 : decode cX6_draws 46 = .ok (.iload_n 1, 1) := by decide +kernel
theorem dX6_draws_47 : decode cX6_draws 47 = .ok (.iconst 1, 1) := by decide +kernel
theorem dX6_draws_48 : decode cX6_draws 48 = .ok (.if_icmp .ne 30, 3) := by decide +kernel
theorem dX6_draws_51 : decode cX6_draws 51 = .ok (.aload_n 0, 1) := by decide +kernel
theorem dX6_draws_52 : decode cX6_draws 52 = .ok (.getfield 47, 3) := by decide +kernel
theorem dX6_draws_55 : decode cX6_draws 55 = .ok (.iconst 0, 1) := by decide +kernel
theorem dX6_draws_56 : decode cX6_draws 56 = .ok (.dup2, 1) := by decide +kernel
theorem dX6_draws_57 : decode cX6_draws 57 = .ok (.iaload, 1) := by decide +kernel
theorem dX6_draws_58 : decode cX6_draws 58 = .ok (.aload_n 0, 1) := by decide +kernel
theorem dX6_draws_59 : decode cX6_draws 59 = .ok (.iload_n 2, 1) := by decide +kernel
theorem dX6_draws_60 : decode cX6_draws 60 = .ok (.invokevirtual 214, 3) := by decide +kernel
theorem dX6_draws_63 : decode cX6_draws 63 = .ok (.ifCond .eq 9, 3) := by decide +kernel
theorem dX6_draws_66 : decode cX6_draws 66 = .ok (.iconst 1, 1) := by decide +kernel
theorem dX6_draws_67 : decode cX6_draws 67 = .ok (.iload_n 2, 1) := by decide +kernel
theorem dX6_draws_68 : decode cX6_draws 68 = .ok (.ishl, 1) := by decide +kernel
theorem dX6_draws_69 : decode cX6_draws 69 = .ok (.goto 4, 3) := by decide +kernel
theorem dX6_draws_72 : decode cX6_draws 72 = .ok (.iconst 0, 1) := by decide +kernel
theorem dX6_draws_73 : decode cX6_draws 73 = .ok (.ior, 1) := by decide +kernel
theorem dX6_draws_74 : decode cX6_draws 74 = .ok (.iastore, 1) := by decide +kernel
theorem dX6_draws_75 : decode cX6_draws 75 = .ok (.goto 20, 3) := by decide +kernel
theorem dX6_draws_78 : decode cX6_draws 78 = .ok (.iload_n 1, 1) := by decide +kernel
theorem dX6_draws_79 : decode cX6_draws 79 = .ok (.iconst 2, 1) := by decide +kernel
theorem dX6_draws_80 : decode cX6_draws 80 = .ok (.if_icmp .ne 15, 3) := by decide +kernel
theorem dX6_draws_83 : decode cX6_draws 83 = .ok (.aload_n 0, 1) := by decide +kernel
theorem dX6_draws_84 : decode cX6_draws 84 = .ok (.getfield 47, 3) := by decide +kernel
theorem dX6_draws_87 : decode cX6_draws 87 = .ok (.iconst 1, 1) := by decide +kernel
theorem dX6_draws_88 : decode cX6_draws 88 = .ok (.dup2, 1) := by decide +kernel
theorem dX6_draws_89 : decode cX6_draws 89 = .ok (.iaload, 1) := by decide +kernel
theorem dX6_draws_90 : decode cX6_draws 90 = .ok (.iconst 1, 1) := by decide +kernel
theorem dX6_draws_91 : decode cX6_draws 91 = .ok (.iload_n 2, 1) := by decide +kernel
theorem dX6_draws_92 : decode cX6_draws 92 = .ok (.ishl, 1) := by decide +kernel
theorem dX6_draws_93 : decode cX6_draws 93 = .ok (.ixor, 1) := by decide +kernel
theorem dX6_draws_94 : decode cX6_draws 94 = .ok (.iastore, 1) := by decide +kernel
theorem dX6_draws_95 : decode cX6_draws 95 = .ok (.return_, 1) := by decide +kernel
set_option maxRecDepth 20000 in
theorem ggX6_drift_X6_needHours : GoodIn wsX6_drift wsX6_needHours := goodIn_r _ [7, 8, 9, 10, 2, 11, 12, 13, 14, 6, 15, 59, 60, 61, 62, 63, 64, 65, 66, 67, 68, 69, 70, 71, 72, 73, 74, 75, 76, 77, 78, 79, 80, 81, 82, 83, 84, 85, 86, 87, 88, 89, 90, 91, 92, 93, 94, 95, 96] (by decide +kernel) (by decide +kernel)
set_option maxRecDepth 20000 in
theorem gX6_drift_X6_needHours : GoodIn wsX6_drift (wsV RX6 201 RX6 yX6_needHours wsX6_needHours) := goodIn_app (goodIn_of _ (by decide +kernel)) ggX6_drift_X6_needHours
set_option maxRecDepth 20000 in
theorem ggX6_drift_X6_remember : GoodIn wsX6_drift wsX6_remember := goodIn_r _ [19, 20, 21, 2, 22, 59, 60, 61, 62, 63, 64, 65, 66, 67, 68, 69, 70, 71, 72, 73, 74, 75, 76, 77, 78, 79, 80, 81, 82, 83, 84, 85, 86, 87, 88, 89, 90, 91, 92, 93, 94, 95, 96] (by decide +kernel) (by decide +kernel)
set_option maxRecDepth 20000 in
theorem gX6_drift_X6_remember : GoodIn wsX6_drift (wsV RX6 204 RX6 yX6_remember wsX6_remember) := goodIn_app (goodIn_of _ (by decide +kernel)) ggX6_drift_X6_remember
set_option maxRecDepth 20000 in
theorem ggX6_drift_X6_draws : GoodIn wsX6_drift wsX6_draws := goodIn_r _ [26, 1, 2, 27, 28, 29, 6, 30, 31, 32, 33, 34, 35, 36, 37, 38, 39, 40, 41, 42, 43, 59, 60, 61, 62, 63, 64, 65, 66, 67, 68, 69, 70, 71, 72, 73, 74, 75, 76, 77, 78, 79, 80, 81, 82, 83, 84, 85, 86, 87, 88, 89, 90, 91, 92, 93, 94, 95, 96] (by decide +kernel) (by decide +kernel)
set_option maxRecDepth 20000 in
theorem gX6_drift_X6_draws : GoodIn wsX6_drift (wsV RX6 232 RX6 yX6_draws wsX6_draws) := goodIn_app (goodIn_of _ (by decide +kernel)) ggX6_drift_X6_draws
set_option maxRecDepth 20000 in
theorem ggX6_drift_X6_passes : GoodIn wsX6_drift wsX6_passes := goodIn_r _ [47, 1, 40, 48, 49, 50, 6, 51, 52, 53, 41, 42, 43, 54, 55, 56, 57, 58, 59, 60, 61, 62, 63, 64, 65, 66, 67, 68, 69, 70, 71, 72, 73, 74, 75, 76, 77, 78, 79, 80, 81, 82, 83, 84, 85, 86, 87, 88, 89, 90, 91, 92, 93, 94, 95, 96] (by decide +kernel) (by decide +kernel)
set_option maxRecDepth 20000 in
theorem gX6_drift_X6_passes : GoodIn wsX6_drift (wsV RX6 207 RX6 yX6_passes wsX6_passes) := goodIn_app (goodIn_of _ (by decide +kernel)) ggX6_drift_X6_passes
theorem dX6_drift_0 : decode cX6_drift 0 = .ok (.aload_n 0, 1) := by decide +kernel
theorem dX6_drift_1 : decode cX6_drift 1 = .ok (.iload_n 1, 1) := by decide +kernel
theorem dX6_drift_2 : decode cX6_drift 2 = .ok (.invokevirtual 201, 3) := by decide +kernel
theorem dX6_drift_5 : decode cX6_drift 5 = .ok (.istore_n 2, 1) := by decide +kernel
theorem dX6_drift_6 : decode cX6_drift 6 = .ok (.iload_n 2, 1) := by decide +kernel
theorem dX6_drift_7 : decode cX6_drift 7 = .ok (.ifCond .ge 5, 3) := by decide +kernel
theorem dX6_drift_10 : decode cX6_drift 10 = .ok (.iload_n 2, 1) := by decide +kernel
theorem dX6_drift_11 : decode cX6_drift 11 = .ok (.ireturn, 1) := by decide +kernel
theorem dX6_drift_12 : decode cX6_drift 12 = .ok (.iconst 0, 1) := by decide +kernel
theorem dX6_drift_13 : decode cX6_drift 13 = .ok (.istore_n 3, 1) := by decide +kernel
theorem dX6_drift_14 : decode cX6_drift 14 = .ok (.iload_n 3, 1) := by decide +kernel
theorem dX6_drift_15 : decode cX6_drift 15 = .ok (.iload_n 1, 1) := by decide +kernel
theorem dX6_drift_16 : decode cX6_drift 16 = .ok (.if_icmp .ge 33, 3) := by decide +kernel
theorem dX6_drift_19 : decode cX6_drift 19 = .ok (.aload_n 0, 1) := by decide +kernel
theorem dX6_drift_20 : decode cX6_drift 20 = .ok (.invokevirtual 204, 3) := by decide +kernel
theorem dX6_drift_23 : decode cX6_drift 23 = .ok (.aload_n 0, 1) := by decide +kernel
theorem dX6_drift_24 : decode cX6_drift 24 = .ok (.getfield 144, 3) := by decide +kernel
theorem dX6_drift_27 : decode cX6_drift 27 = .ok (.ifCond .le 7, 3) := by decide +kernel
theorem dX6_drift_30 : decode cX6_drift 30 = .ok (.aload_n 0, 1) := by decide +kernel
theorem dX6_drift_31 : decode cX6_drift 31 = .ok (.invokevirtual 232, 3) := by decide +kernel
theorem dX6_drift_34 : decode cX6_drift 34 = .ok (.aload_n 0, 1) := by decide +kernel
theorem dX6_drift_35 : decode cX6_drift 35 = .ok (.aload_n 0, 1) := by decide +kernel
theorem dX6_drift_36 : decode cX6_drift 36 = .ok (.getfield 47, 3) := by decide +kernel
theorem dX6_drift_39 : decode cX6_drift 39 = .ok (.invokevirtual 207, 3) := by decide +kernel
theorem dX6_drift_42 : decode cX6_drift 42 = .ok (.pop, 1) := by decide +kernel
theorem dX6_drift_43 : decode cX6_drift 43 = .ok (.iinc 3 1, 3) := by decide +kernel
theorem dX6_drift_46 : decode cX6_drift 46 = .ok (.goto (-32), 3) := by decide +kernel
theorem dX6_drift_49 : decode cX6_drift 49 = .ok (.aload_n 0, 1) := by decide +kernel
theorem dX6_drift_50 : decode cX6_drift 50 = .ok (.getfield 47, 3) := by decide +kernel
theorem dX6_drift_53 : decode cX6_drift 53 = .ok (.iconst 0, 1) := by decide +kernel
theorem dX6_drift_54 : decode cX6_drift 54 = .ok (.iaload, 1) := by decide +kernel
theorem dX6_drift_55 : decode cX6_drift 55 = .ok (.ireturn, 1) := by decide +kernel
set_option maxRecDepth 20000 in
theorem ggX6_undo_X6_in : GoodIn wsX6_undo wsX6_in := goodIn_r _ [10] (by decide +kernel) (by decide +kernel)
set_option maxRecDepth 20000 in
theorem gX6_undo_X6_in : GoodIn wsX6_undo (va_wsS RX6 82 yX6_in wsX6_in) := goodIn_app (goodIn_of _ (by decide +kernel)) ggX6_undo_X6_in
theorem dX6_undo_0 : decode cX6_undo 0 = .ok (.iload_n 1, 1) := by decide +kernel
theorem dX6_undo_1 : decode cX6_undo 1 = .ok (.iconst 1, 1) := by decide +kernel
theorem dX6_undo_2 : decode cX6_undo 2 = .ok (.bipush 30, 2) := by decide +kernel
theorem dX6_undo_4 : decode cX6_undo 4 = .ok (.invokestatic 82, 3) := by decide +kernel
theorem dX6_undo_7 : decode cX6_undo 7 = .ok (.ifCond .ne 6, 3) := by decide +kernel
theorem dX6_undo_10 : decode cX6_undo 10 = .ok (.ldc 86, 2) := by decide +kernel
theorem dX6_undo_12 : decode cX6_undo 12 = .ok (.ireturn, 1) := by decide +kernel
theorem dX6_undo_13 : decode cX6_undo 13 = .ok (.iload_n 1, 1) := by decide +kernel
theorem dX6_undo_14 : decode cX6_undo 14 = .ok (.aload_n 0, 1) := by decide +kernel
theorem dX6_undo_15 : decode cX6_undo 15 = .ok (.getfield 150, 3) := by decide +kernel
theorem dX6_undo_18 : decode cX6_undo 18 = .ok (.if_icmp .le 6, 3) := by decide +kernel
theorem dX6_undo_21 : decode cX6_undo 21 = .ok (.ldc 181, 2) := by decide +kernel
theorem dX6_undo_23 : decode cX6_undo 23 = .ok (.ireturn, 1) := by decide +kernel
theorem dX6_undo_24 : decode cX6_undo 24 = .ok (.aload_n 0, 1) := by decide +kernel
theorem dX6_undo_25 : decode cX6_undo 25 = .ok (.aload_n 0, 1) := by decide +kernel
theorem dX6_undo_26 : decode cX6_undo 26 = .ok (.getfield 197, 3) := by decide +kernel
theorem dX6_undo_29 : decode cX6_undo 29 = .ok (.bipush 30, 2) := by decide +kernel
theorem dX6_undo_31 : decode cX6_undo 31 = .ok (.iadd, 1) := by decide +kernel
theorem dX6_undo_32 : decode cX6_undo 32 = .ok (.iload_n 1, 1) := by decide +kernel
theorem dX6_undo_33 : decode cX6_undo 33 = .ok (.isub, 1) := by decide +kernel
theorem dX6_undo_34 : decode cX6_undo 34 = .ok (.bipush 30, 2) := by decide +kernel
theorem dX6_undo_36 : decode cX6_undo 36 = .ok (.irem, 1) := by decide +kernel
theorem dX6_undo_37 : decode cX6_undo 37 = .ok (.putfield 197, 3) := by decide +kernel
theorem dX6_undo_40 : decode cX6_undo 40 = .ok (.aload_n 0, 1) := by decide +kernel
theorem dX6_undo_41 : decode cX6_undo 41 = .ok (.dup, 1) := by decide +kernel
theorem dX6_undo_42 : decode cX6_undo 42 = .ok (.getfield 150, 3) := by decide +kernel
theorem dX6_undo_45 : decode cX6_undo 45 = .ok (.iload_n 1, 1) := by decide +kernel
theorem dX6_undo_46 : decode cX6_undo 46 = .ok (.isub, 1) := by decide +kernel
theorem dX6_undo_47 : decode cX6_undo 47 = .ok (.putfield 150, 3) := by decide +kernel
theorem dX6_undo_50 : decode cX6_undo 50 = .ok (.iconst 0, 1) := by decide +kernel
theorem dX6_undo_51 : decode cX6_undo 51 = .ok (.istore_n 2, 1) := by decide +kernel
theorem dX6_undo_52 : decode cX6_undo 52 = .ok (.iload_n 2, 1) := by decide +kernel
theorem dX6_undo_53 : decode cX6_undo 53 = .ok (.bipush 16, 2) := by decide +kernel
theorem dX6_undo_55 : decode cX6_undo 55 = .ok (.if_icmp .ge 29, 3) := by decide +kernel
theorem dX6_undo_58 : decode cX6_undo 58 = .ok (.aload_n 0, 1) := by decide +kernel
theorem dX6_undo_59 : decode cX6_undo 59 = .ok (.getfield 47, 3) := by decide +kernel
theorem dX6_undo_62 : decode cX6_undo 62 = .ok (.iload_n 2, 1) := by decide +kernel
theorem dX6_undo_63 : decode cX6_undo 63 = .ok (.aload_n 0, 1) := by decide +kernel
theorem dX6_undo_64 : decode cX6_undo 64 = .ok (.getfield 53, 3) := by decide +kernel
theorem dX6_undo_67 : decode cX6_undo 67 = .ok (.bipush 16, 2) := by decide +kernel
theorem dX6_undo_69 : decode cX6_undo 69 = .ok (.aload_n 0, 1) := by decide +kernel
theorem dX6_undo_70 : decode cX6_undo 70 = .ok (.getfield 197, 3) := by decide +kernel
theorem dX6_undo_73 : decode cX6_undo 73 = .ok (.imul, 1) := by decide +kernel
theorem dX6_undo_74 : decode cX6_undo 74 = .ok (.iload_n 2, 1) := by decide +kernel
theorem dX6_undo_75 : decode cX6_undo 75 = .ok (.iadd, 1) := by decide +kernel
theorem dX6_undo_76 : decode cX6_undo 76 = .ok (.iaload, 1) := by decide +kernel
theorem dX6_undo_77 : decode cX6_undo 77 = .ok (.iastore, 1) := by decide +kernel
theorem dX6_undo_78 : decode cX6_undo 78 = .ok (.iinc 2 1, 3) := by decide +kernel
theorem dX6_undo_81 : decode cX6_undo 81 = .ok (.goto (-29), 3) := by decide +kernel
theorem dX6_undo_84 : decode cX6_undo 84 = .ok (.aload_n 0, 1) := by decide +kernel
theorem dX6_undo_85 : decode cX6_undo 85 = .ok (.getfield 47, 3) := by decide +kernel
theorem dX6_undo_88 : decode cX6_undo 88 = .ok (.iconst 3, 1) := by decide +kernel
theorem dX6_undo_89 : decode cX6_undo 89 = .ok (.iaload, 1) := by decide +kernel
theorem dX6_undo_90 : decode cX6_undo 90 = .ok (.ireturn, 1) := by decide +kernel
theorem dX6_copyNow_0 : decode cX6_copyNow 0 = .ok (.iconst 0, 1) := by decide +kernel
theorem dX6_copyNow_1 : decode cX6_copyNow 1 = .ok (.istore_n 1, 1) := by decide +kernel
theorem dX6_copyNow_2 : decode cX6_copyNow 2 = .ok (.iload_n 1, 1) := by decide +kernel
theorem dX6_copyNow_3 : decode cX6_copyNow 3 = .ok (.bipush 16, 2) := by decide +kernel
theorem dX6_copyNow_5 : decode cX6_copyNow 5 = .ok (.if_icmp .ge 21, 3) := by decide +kernel
theorem dX6_copyNow_8 : decode cX6_copyNow 8 = .ok (.aload_n 0, 1) := by decide +kernel
theorem dX6_copyNow_9 : decode cX6_copyNow 9 = .ok (.getfield 50, 3) := by decide +kernel
theorem dX6_copyNow_12 : decode cX6_copyNow 12 = .ok (.iload_n 1, 1) := by decide +kernel
theorem dX6_copyNow_13 : decode cX6_copyNow 13 = .ok (.aload_n 0, 1) := by decide +kernel
theorem dX6_copyNow_14 : decode cX6_copyNow 14 = .ok (.getfield 47, 3) := by decide +kernel
theorem dX6_copyNow_17 : decode cX6_copyNow 17 = .ok (.iload_n 1, 1) := by decide +kernel
theorem dX6_copyNow_18 : decode cX6_copyNow 18 = .ok (.iaload, 1) := by decide +kernel
theorem dX6_copyNow_19 : decode cX6_copyNow 19 = .ok (.iastore, 1) := by decide +kernel
theorem dX6_copyNow_20 : decode cX6_copyNow 20 = .ok (.iinc 1 1, 3) := by decide +kernel
theorem dX6_copyNow_23 : decode cX6_copyNow 23 = .ok (.goto (-21), 3) := by decide +kernel
theorem dX6_copyNow_26 : decode cX6_copyNow 26 = .ok (.return_, 1) := by decide +kernel
set_option maxRecDepth 20000 in
theorem ggX6_lasts_X6_isLink : GoodIn wsX6_lasts wsX6_isLink := goodIn_r _ [8, 9, 10, 11, 7, 12, 36, 37, 38, 39, 40, 41, 42, 43, 44, 45, 46, 47, 48, 49, 50, 51, 52, 53, 54, 55, 56, 57, 58, 59, 60, 61, 62, 63, 64, 65, 66, 67, 68, 69, 70, 71, 72, 73] (by decide +kernel) (by decide +kernel)
set_option maxRecDepth 20000 in
theorem gX6_lasts_X6_isLink : GoodIn wsX6_lasts (wsV RX6 173 RX6 yX6_isLink wsX6_isLink) := goodIn_app (goodIn_of _ (by decide +kernel)) ggX6_lasts_X6_isLink
set_option maxRecDepth 20000 in
theorem ggX6_lasts_X6_copyNow : GoodIn wsX6_lasts wsX6_copyNow := goodIn_r _ [16, 3, 2, 36, 37, 38, 39, 40, 41, 42, 43, 44, 45, 46, 47, 48, 49, 50, 51, 52, 53, 54, 55, 56, 57, 58, 59, 60, 61, 62, 63, 64, 65, 66, 67, 68, 69, 70, 71, 72, 73] (by decide +kernel) (by decide +kernel)
set_option maxRecDepth 20000 in
theorem gX6_lasts_X6_copyNow : GoodIn wsX6_lasts (wsV RX6 235 RX6 yX6_copyNow wsX6_copyNow) := goodIn_app (goodIn_of _ (by decide +kernel)) ggX6_lasts_X6_copyNow
set_option maxRecDepth 20000 in
theorem ggX6_lasts_X6_has : GoodIn wsX6_lasts wsX6_has := goodIn_r _ [19] (by decide +kernel) (by decide +kernel)
set_option maxRecDepth 20000 in
theorem gX6_lasts_X6_has : GoodIn wsX6_lasts (va_wsS RX6 162 yX6_has wsX6_has) := goodIn_app (goodIn_of _ (by decide +kernel)) ggX6_lasts_X6_has
set_option maxRecDepth 20000 in
theorem ggX6_lasts_X6_passes : GoodIn wsX6_lasts wsX6_passes := goodIn_r _ [23, 9, 24, 25, 26, 27, 7, 28, 29, 30, 17, 18, 19, 31, 32, 33, 34, 35, 36, 37, 38, 39, 40, 41, 42, 43, 44, 45, 46, 47, 48, 49, 50, 51, 52, 53, 54, 55, 56, 57, 58, 59, 60, 61, 62, 63, 64, 65, 66, 67, 68, 69, 70, 71, 72, 73] (by decide +kernel) (by decide +kernel)
set_option maxRecDepth 20000 in
theorem gX6_lasts_X6_passes : GoodIn wsX6_lasts (wsV RX6 207 RX6 yX6_passes wsX6_passes) := goodIn_app (goodIn_of _ (by decide +kernel)) ggX6_lasts_X6_passes
theorem dX6_lasts_0 : decode cX6_lasts 0 = .ok (.aload_n 0, 1) := by decide +kernel
theorem dX6_lasts_1 : decode cX6_lasts 1 = .ok (.iload_n 1, 1) := by decide +kernel
theorem dX6_lasts_2 : decode cX6_lasts 2 = .ok (.invokevirtual 173, 3) := by decide +kernel
theorem dX6_lasts_5 : decode cX6_lasts 5 = .ok (.ifCond .ne 6, 3) := by decide +kernel
theorem dX6_lasts_8 : decode cX6_lasts 8 = .ok (.ldc 176, 2) := by decide +kernel
theorem dX6_lasts_10 : decode cX6_lasts 10 = .ok (.ireturn, 1) := by decide +kernel
theorem dX6_lasts_11 : decode cX6_lasts 11 = .ok (.aload_n 0, 1) := by decide +kernel
theorem dX6_lasts_12 : decode cX6_lasts 12 = .ok (.invokevirtual 235, 3) := by decide +kernel
theorem dX6_lasts_15 : decode cX6_lasts 15 = .ok (.iconst 1, 1) := by decide +kernel
theorem dX6_lasts_16 : decode cX6_lasts 16 = .ok (.istore_n 2, 1) := by decide +kernel
theorem dX6_lasts_17 : decode cX6_lasts 17 = .ok (.iload_n 2, 1) := by decide +kernel
theorem dX6_lasts_18 : decode cX6_lasts 18 = .ok (.sipush 200, 3) := by decide +kernel
theorem dX6_lasts_21 : decode cX6_lasts 21 = .ok (.if_icmp .gt 46, 3) := by decide +kernel
theorem dX6_lasts_24 : decode cX6_lasts 24 = .ok (.aload_n 0, 1) := by decide +kernel
theorem dX6_lasts_25 : decode cX6_lasts 25 = .ok (.getfield 47, 3) := by decide +kernel
theorem dX6_lasts_28 : decode cX6_lasts 28 = .ok (.iconst 0, 1) := by decide +kernel
theorem dX6_lasts_29 : decode cX6_lasts 29 = .ok (.iaload, 1) := by decide +kernel
theorem dX6_lasts_30 : decode cX6_lasts 30 = .ok (.iload_n 1, 1) := by decide +kernel
theorem dX6_lasts_31 : decode cX6_lasts 31 = .ok (.invokestatic 162, 3) := by decide +kernel
theorem dX6_lasts_34 : decode cX6_lasts 34 = .ok (.ifCond .eq 33, 3) := by decide +kernel
theorem dX6_lasts_37 : decode cX6_lasts 37 = .ok (.aload_n 0, 1) := by decide +kernel
theorem dX6_lasts_38 : decode cX6_lasts 38 = .ok (.aload_n 0, 1) := by decide +kernel
theorem dX6_lasts_39 : decode cX6_lasts 39 = .ok (.getfield 50, 3) := by decide +kernel
theorem dX6_lasts_42 : decode cX6_lasts 42 = .ok (.invokevirtual 207, 3) := by decide +kernel
theorem dX6_lasts_45 : decode cX6_lasts 45 = .ok (.pop, 1) := by decide +kernel
theorem dX6_lasts_46 : decode cX6_lasts 46 = .ok (.aload_n 0, 1) := by decide +kernel
theorem dX6_lasts_47 : decode cX6_lasts 47 = .ok (.getfield 50, 3) := by decide +kernel
theorem dX6_lasts_50 : decode cX6_lasts 50 = .ok (.iconst 0, 1) := by decide +kernel
theorem dX6_lasts_51 : decode cX6_lasts 51 = .ok (.iaload, 1) := by decide +kernel
theorem dX6_lasts_52 : decode cX6_lasts 52 = .ok (.iload_n 1, 1) := by decide +kernel
theorem dX6_lasts_53 : decode cX6_lasts 53 = .ok (.invokestatic 162, 3) := by decide +kernel
theorem dX6_lasts_56 : decode cX6_lasts 56 = .ok (.ifCond .ne 5, 3) := by decide +kernel
theorem dX6_lasts_59 : decode cX6_lasts 59 = .ok (.iload_n 2, 1) := by decide +kernel
theorem dX6_lasts_60 : decode cX6_lasts 60 = .ok (.ireturn, 1) := by decide +kernel
theorem dX6_lasts_61 : decode cX6_lasts 61 = .ok (.iinc 2 1, 3) := by decide +kernel
theorem dX6_lasts_64 : decode cX6_lasts 64 = .ok (.goto (-47), 3) := by decide +kernel
theorem dX6_lasts_67 : decode cX6_lasts 67 = .ok (.iconst (-1), 1) := by decide +kernel
theorem dX6_lasts_68 : decode cX6_lasts 68 = .ok (.ireturn, 1) := by decide +kernel
set_option maxRecDepth 20000 in
theorem ggX6_first_X6_in : GoodIn wsX6_first wsX6_in := goodIn_r _ [6] (by decide +kernel) (by decide +kernel)
set_option maxRecDepth 20000 in
theorem gX6_first_X6_in : GoodIn wsX6_first (va_wsS RX6 82 yX6_in wsX6_in) := goodIn_app (goodIn_of _ (by decide +kernel)) ggX6_first_X6_in
set_option maxRecDepth 20000 in
theorem ggX6_first_X6_copyNow : GoodIn wsX6_first wsX6_copyNow := goodIn_r _ [10, 2, 11, 32, 33, 34, 35, 36, 37, 38, 39, 40, 41, 42, 43, 44, 45, 46, 47, 48, 49, 50, 51, 52, 53, 54, 55, 56, 57, 58, 59, 60, 61, 62, 63, 64, 65, 66, 67, 68, 69] (by decide +kernel) (by decide +kernel)
set_option maxRecDepth 20000 in
theorem gX6_first_X6_copyNow : GoodIn wsX6_first (wsV RX6 235 RX6 yX6_copyNow wsX6_copyNow) := goodIn_app (goodIn_of _ (by decide +kernel)) ggX6_first_X6_copyNow
set_option maxRecDepth 20000 in
theorem ggX6_first_X6_passes : GoodIn wsX6_first wsX6_passes := goodIn_r _ [15, 16, 17, 18, 19, 20, 5, 21, 22, 23, 24, 25, 26, 27, 28, 29, 30, 31, 32, 33, 34, 35, 36, 37, 38, 39, 40, 41, 42, 43, 44, 45, 46, 47, 48, 49, 50, 51, 52, 53, 54, 55, 56, 57, 58, 59, 60, 61, 62, 63, 64, 65, 66, 67, 68, 69] (by decide +kernel) (by decide +kernel)
set_option maxRecDepth 20000 in
theorem gX6_first_X6_passes : GoodIn wsX6_first (wsV RX6 207 RX6 yX6_passes wsX6_passes) := goodIn_app (goodIn_of _ (by decide +kernel)) ggX6_first_X6_passes
theorem dX6_first_0 : decode cX6_first 0 = .ok (.iload_n 1, 1) := by decide +kernel
theorem dX6_first_1 : decode cX6_first 1 = .ok (.iconst 0, 1) := by decide +kernel
theorem dX6_first_2 : decode cX6_first 2 = .ok (.iconst 1, 1) := by decide +kernel
theorem dX6_first_3 : decode cX6_first 3 = .ok (.invokestatic 82, 3) := by decide +kernel
theorem dX6_first_6 : decode cX6_first 6 = .ok (.ifCond .ne 6, 3) := by decide +kernel
theorem dX6_first_9 : decode cX6_first 9 = .ok (.ldc 86, 2) := by decide +kernel
theorem dX6_first_11 : decode cX6_first 11 = .ok (.ireturn, 1) := by decide +kernel
theorem dX6_first_12 : decode cX6_first 12 = .ok (.aload_n 0, 1) := by decide +kernel
theorem dX6_first_13 : decode cX6_first 13 = .ok (.invokevirtual 235, 3) := by decide +kernel
theorem dX6_first_16 : decode cX6_first 16 = .ok (.iconst 1, 1) := by decide +kernel
theorem dX6_first_17 : decode cX6_first 17 = .ok (.istore_n 2, 1) := by decide +kernel
theorem dX6_first_18 : decode cX6_first 18 = .ok (.iload_n 2, 1) := by decide +kernel
theorem dX6_first_19 : decode cX6_first 19 = .ok (.sipush 200, 3) := by decide +kernel
theorem dX6_first_22 : decode cX6_first 22 = .ok (.if_icmp .gt 33, 3) := by decide +kernel
theorem dX6_first_25 : decode cX6_first 25 = .ok (.aload_n 0, 1) := by decide +kernel
theorem dX6_first_26 : decode cX6_first 26 = .ok (.aload_n 0, 1) := by decide +kernel
theorem dX6_first_27 : decode cX6_first 27 = .ok (.getfield 50, 3) := by decide +kernel
theorem dX6_first_30 : decode cX6_first 30 = .ok (.invokevirtual 207, 3) := by decide +kernel
theorem dX6_first_33 : decode cX6_first 33 = .ok (.istore_n 3, 1) := by decide +kernel
theorem dX6_first_34 : decode cX6_first 34 = .ok (.iload_n 3, 1) := by decide +kernel
theorem dX6_first_35 : decode cX6_first 35 = .ok (.iconst (-1), 1) := by decide +kernel
theorem dX6_first_36 : decode cX6_first 36 = .ok (.if_icmp .eq 13, 3) := by decide +kernel
theorem dX6_first_39 : decode cX6_first 39 = .ok (.iload_n 1, 1) := by decide +kernel
theorem dX6_first_40 : decode cX6_first 40 = .ok (.ifCond .ne 7, 3) := by decide +kernel
theorem dX6_first_43 : decode cX6_first 43 = .ok (.iload_n 3, 1) := by decide +kernel
theorem dX6_first_44 : decode cX6_first 44 = .ok (.goto 4, 3) := by decide +kernel
theorem dX6_first_47 : decode cX6_first 47 = .ok (.iload_n 2, 1) := by decide +kernel
theorem dX6_first_48 : decode cX6_first 48 = .ok (.ireturn, 1) := by decide +kernel
theorem dX6_first_49 : decode cX6_first 49 = .ok (.iinc 2 1, 3) := by decide +kernel
theorem dX6_first_52 : decode cX6_first 52 = .ok (.goto (-34), 3) := by decide +kernel
theorem dX6_first_55 : decode cX6_first 55 = .ok (.iconst (-1), 1) := by decide +kernel
theorem dX6_first_56 : decode cX6_first 56 = .ok (.ireturn, 1) := by decide +kernel
set_option maxRecDepth 20000 in
theorem ggX6_doneBehind_X6_copyNow : GoodIn wsX6_doneBehind wsX6_copyNow := goodIn_r _ [6, 1, 7, 28, 29, 30, 31, 32, 33, 34, 35, 36, 37, 38, 39, 40, 41, 42, 43, 44, 45, 46, 47, 48, 49, 50, 51, 52, 53, 54, 55, 56, 57, 58, 59, 60, 61, 62, 63, 64, 65] (by decide +kernel) (by decide +kernel)
set_option maxRecDepth 20000 in
theorem gX6_doneBehind_X6_copyNow : GoodIn wsX6_doneBehind (wsV RX6 235 RX6 yX6_copyNow wsX6_copyNow) := goodIn_app (goodIn_of _ (by decide +kernel)) ggX6_doneBehind_X6_copyNow
set_option maxRecDepth 20000 in
theorem ggX6_doneBehind_X6_passes : GoodIn wsX6_doneBehind wsX6_passes := goodIn_r _ [11, 12, 13, 14, 15, 16, 5, 17, 18, 19, 20, 21, 22, 23, 24, 25, 26, 27, 28, 29, 30, 31, 32, 33, 34, 35, 36, 37, 38, 39, 40, 41, 42, 43, 44, 45, 46, 47, 48, 49, 50, 51, 52, 53, 54, 55, 56, 57, 58, 59, 60, 61, 62, 63, 64, 65] (by decide +kernel) (by decide +kernel)
set_option maxRecDepth 20000 in
theorem gX6_doneBehind_X6_passes : GoodIn wsX6_doneBehind (wsV RX6 207 RX6 yX6_passes wsX6_passes) := goodIn_app (goodIn_of _ (by decide +kernel)) ggX6_doneBehind_X6_passes
theorem dX6_doneBehind_0 : decode cX6_doneBehind 0 = .ok (.aload_n 0, 1) := by decide +kernel
theorem dX6_doneBehind_1 : decode cX6_doneBehind 1 = .ok (.invokevirtual 235, 3) := by decide +kernel
theorem dX6_doneBehind_4 : decode cX6_doneBehind 4 = .ok (.iconst 0, 1) := by decide +kernel
theorem dX6_doneBehind_5 : decode cX6_doneBehind 5 = .ok (.istore_n 2, 1) := by decide +kernel
theorem dX6_doneBehind_6 : decode cX6_doneBehind 6 = .ok (.iload_n 2, 1) := by decide +kernel
theorem dX6_doneBehind_7 : decode cX6_doneBehind 7 = .ok (.iload_n 1, 1) := by decide +kernel
theorem dX6_doneBehind_8 : decode cX6_doneBehind 8 = .ok (.if_icmp .ge 18, 3) := by decide +kernel
theorem dX6_doneBehind_11 : decode cX6_doneBehind 11 = .ok (.aload_n 0, 1) := by decide +kernel
theorem dX6_doneBehind_12 : decode cX6_doneBehind 12 = .ok (.aload_n 0, 1) := by decide +kernel
theorem dX6_doneBehind_13 : decode cX6_doneBehind 13 = .ok (.getfield 50, 3) := by decide +kernel
theorem dX6_doneBehind_16 : decode cX6_doneBehind 16 = .ok (.invokevirtual 207, 3) := by decide +kernel
theorem dX6_doneBehind_19 : decode cX6_doneBehind 19 = .ok (.pop, 1) := by decide +kernel
theorem dX6_doneBehind_20 : decode cX6_doneBehind 20 = .ok (.iinc 2 1, 3) := by decide +kernel
theorem dX6_doneBehind_23 : decode cX6_doneBehind 23 = .ok (.goto (-17), 3) := by decide +kernel
theorem dX6_doneBehind_26 : decode cX6_doneBehind 26 = .ok (.aload_n 0, 1) := by decide +kernel
theorem dX6_doneBehind_27 : decode cX6_doneBehind 27 = .ok (.getfield 50, 3) := by decide +kernel
theorem dX6_doneBehind_30 : decode cX6_doneBehind 30 = .ok (.iconst 0, 1) := by decide +kernel
theorem dX6_doneBehind_31 : decode cX6_doneBehind 31 = .ok (.iaload, 1) := by decide +kernel
theorem dX6_doneBehind_32 : decode cX6_doneBehind 32 = .ok (.ireturn, 1) := by decide +kernel
set_option maxRecDepth 20000 in
theorem ggX6_still_X6_in : GoodIn wsX6_still wsX6_in := goodIn_r _ [5] (by decide +kernel) (by decide +kernel)
set_option maxRecDepth 20000 in
theorem gX6_still_X6_in : GoodIn wsX6_still (va_wsS RX6 82 yX6_in wsX6_in) := goodIn_app (goodIn_of _ (by decide +kernel)) ggX6_still_X6_in
set_option maxRecDepth 20000 in
theorem ggX6_still_X6_doneBehind : GoodIn wsX6_still wsX6_doneBehind := goodIn_r _ [9, 10, 11, 12, 13, 4, 14, 15, 16, 17, 18, 19, 20, 21, 22, 23, 24, 25, 26, 27, 28, 29, 30, 31, 32, 33, 34, 35, 36, 37, 38, 39, 40, 41, 42, 43, 44, 45, 46, 47, 48, 49, 50, 51, 52, 53, 54, 55, 56, 57, 58, 59, 60, 61, 62, 63, 64, 65, 66, 67, 68, 69, 70, 71, 72, 73] (by decide +kernel) (by decide +kernel)
set_option maxRecDepth 20000 in
theorem gX6_still_X6_doneBehind : GoodIn wsX6_still (wsV RX6 238 RX6 yX6_doneBehind wsX6_doneBehind) := goodIn_app (goodIn_of _ (by decide +kernel)) ggX6_still_X6_doneBehind
theorem dX6_still_0 : decode cX6_still 0 = .ok (.iload_n 1, 1) := by decide +kernel
theorem dX6_still_1 : decode cX6_still 1 = .ok (.iconst 0, 1) := by decide +kernel
theorem dX6_still_2 : decode cX6_still 2 = .ok (.bipush 60, 2) := by decide +kernel
theorem dX6_still_4 : decode cX6_still 4 = .ok (.invokestatic 82, 3) := by decide +kernel
theorem dX6_still_7 : decode cX6_still 7 = .ok (.ifCond .eq 11, 3) := by decide +kernel
theorem dX6_still_10 : decode cX6_still 10 = .ok (.aload_n 0, 1) := by decide +kernel
theorem dX6_still_11 : decode cX6_still 11 = .ok (.iload_n 1, 1) := by decide +kernel
theorem dX6_still_12 : decode cX6_still 12 = .ok (.invokevirtual 238, 3) := by decide +kernel
theorem dX6_still_15 : decode cX6_still 15 = .ok (.goto 5, 3) := by decide +kernel
theorem dX6_still_18 : decode cX6_still 18 = .ok (.ldc 86, 2) := by decide +kernel
theorem dX6_still_20 : decode cX6_still 20 = .ok (.ireturn, 1) := by decide +kernel
set_option maxRecDepth 20000 in
theorem ggX6_parts_X6_in : GoodIn wsX6_parts wsX6_in := goodIn_r _ [5] (by decide +kernel) (by decide +kernel)
set_option maxRecDepth 20000 in
theorem gX6_parts_X6_in : GoodIn wsX6_parts (va_wsS RX6 82 yX6_in wsX6_in) := goodIn_app (goodIn_of _ (by decide +kernel)) ggX6_parts_X6_in
set_option maxRecDepth 20000 in
theorem ggX6_parts_X6_doneBehind : GoodIn wsX6_parts wsX6_doneBehind := goodIn_r _ [9, 10, 11, 12, 13, 4, 14, 15, 16, 17, 18, 19, 20, 21, 22, 23, 24, 25, 26, 27, 28, 29, 30, 31, 32, 33, 34, 35, 50, 51, 52, 53, 54, 55, 56, 57, 58, 59, 60, 61, 62, 63, 64, 65, 66, 67, 68, 69, 70, 71, 72, 73, 74, 75, 76, 77, 78, 79, 80, 81, 82, 83, 84, 85, 86, 87] (by decide +kernel) (by decide +kernel)
set_option maxRecDepth 20000 in
theorem gX6_parts_X6_doneBehind : GoodIn wsX6_parts (wsV RX6 238 RX6 yX6_doneBehind wsX6_doneBehind) := goodIn_app (goodIn_of _ (by decide +kernel)) ggX6_parts_X6_doneBehind
set_option maxRecDepth 20000 in
theorem ggX6_parts_X6_partsOf : GoodIn wsX6_parts wsX6_partsOf := goodIn_r _ [39, 40, 28, 29, 4, 30, 41, 42, 43, 44, 45, 46, 47, 48, 20, 49, 50, 51, 52, 53, 54, 55, 56, 57, 58, 59, 60, 61, 62, 63, 64, 65, 66, 67, 68, 69, 70, 71, 72, 73, 74, 75, 76, 77, 78, 79, 80, 81, 82, 83, 84, 85, 86, 87] (by decide +kernel) (by decide +kernel)
set_option maxRecDepth 20000 in
theorem gX6_parts_X6_partsOf : GoodIn wsX6_parts (wsV RX6 188 RX6 yX6_partsOf wsX6_partsOf) := goodIn_app (goodIn_of _ (by decide +kernel)) ggX6_parts_X6_partsOf
theorem dX6_parts_0 : decode cX6_parts 0 = .ok (.iload_n 1, 1) := by decide +kernel
theorem dX6_parts_1 : decode cX6_parts 1 = .ok (.iconst 0, 1) := by decide +kernel
theorem dX6_parts_2 : decode cX6_parts 2 = .ok (.bipush 60, 2) := by decide +kernel
theorem dX6_parts_4 : decode cX6_parts 4 = .ok (.invokestatic 82, 3) := by decide +kernel
theorem dX6_parts_7 : decode cX6_parts 7 = .ok (.ifCond .eq 15, 3) := by decide +kernel
theorem dX6_parts_10 : decode cX6_parts 10 = .ok (.aload_n 0, 1) := by decide +kernel
theorem dX6_parts_11 : decode cX6_parts 11 = .ok (.aload_n 0, 1) := by decide +kernel
theorem dX6_parts_12 : decode cX6_parts 12 = .ok (.iload_n 1, 1) := by decide +kernel
theorem dX6_parts_13 : decode cX6_parts 13 = .ok (.invokevirtual 238, 3) := by decide +kernel
theorem dX6_parts_16 : decode cX6_parts 16 = .ok (.invokevirtual 188, 3) := by decide +kernel
theorem dX6_parts_19 : decode cX6_parts 19 = .ok (.goto 5, 3) := by decide +kernel
theorem dX6_parts_22 : decode cX6_parts 22 = .ok (.ldc 86, 2) := by decide +kernel
theorem dX6_parts_24 : decode cX6_parts 24 = .ok (.ireturn, 1) := by decide +kernel
set_option maxRecDepth 20000 in
theorem ggX6_together_X6_isIsland : GoodIn wsX6_together wsX6_isIsland := goodIn_r _ [7, 8, 9, 10, 6, 11, 25, 26, 27, 28, 29, 30, 31, 32, 33, 34, 35, 36, 37, 38, 39, 40, 41, 42, 43, 44, 45, 46, 47, 48, 49, 50, 51, 52, 53, 54, 55, 56, 57, 58, 59, 60, 61, 62] (by decide +kernel) (by decide +kernel)
set_option maxRecDepth 20000 in
theorem gX6_together_X6_isIsland : GoodIn wsX6_together (wsV RX6 159 RX6 yX6_isIsland wsX6_isIsland) := goodIn_app (goodIn_of _ (by decide +kernel)) ggX6_together_X6_isIsland
set_option maxRecDepth 20000 in
theorem ggX6_together_X6_reached : GoodIn wsX6_together wsX6_reached := goodIn_r _ [15, 8, 16, 17, 18, 6, 19, 20, 21, 22, 23, 24, 25, 26, 27, 28, 29, 30, 31, 32, 33, 34, 35, 36, 37, 38, 39, 40, 41, 42, 43, 44, 45, 46, 47, 48, 49, 50, 51, 52, 53, 54, 55, 56, 57, 58, 59, 60, 61, 62] (by decide +kernel) (by decide +kernel)
set_option maxRecDepth 20000 in
theorem gX6_together_X6_reached : GoodIn wsX6_together (wsV RX6 185 RX6 yX6_reached wsX6_reached) := goodIn_app (goodIn_of _ (by decide +kernel)) ggX6_together_X6_reached
theorem dX6_together_0 : decode cX6_together 0 = .ok (.aload_n 0, 1) := by decide +kernel
theorem dX6_together_1 : decode cX6_together 1 = .ok (.iload_n 1, 1) := by decide +kernel
theorem dX6_together_2 : decode cX6_together 2 = .ok (.invokevirtual 159, 3) := by decide +kernel
theorem dX6_together_5 : decode cX6_together 5 = .ok (.ifCond .eq 17, 3) := by decide +kernel
theorem dX6_together_8 : decode cX6_together 8 = .ok (.aload_n 0, 1) := by decide +kernel
theorem dX6_together_9 : decode cX6_together 9 = .ok (.iload_n 1, 1) := by decide +kernel
theorem dX6_together_10 : decode cX6_together 10 = .ok (.aload_n 0, 1) := by decide +kernel
theorem dX6_together_11 : decode cX6_together 11 = .ok (.getfield 47, 3) := by decide +kernel
theorem dX6_together_14 : decode cX6_together 14 = .ok (.iconst 0, 1) := by decide +kernel
theorem dX6_together_15 : decode cX6_together 15 = .ok (.iaload, 1) := by decide +kernel
theorem dX6_together_16 : decode cX6_together 16 = .ok (.invokevirtual 185, 3) := by decide +kernel
theorem dX6_together_19 : decode cX6_together 19 = .ok (.goto 5, 3) := by decide +kernel
theorem dX6_together_22 : decode cX6_together 22 = .ok (.ldc 176, 2) := by decide +kernel
theorem dX6_together_24 : decode cX6_together 24 = .ok (.ireturn, 1) := by decide +kernel
set_option maxRecDepth 20000 in
theorem ggX6_between_X6_areTwo : GoodIn wsX6_between wsX6_areTwo := goodIn_r _ [8, 9, 10, 11, 7, 12, 13, 14, 15, 16, 33, 34, 35, 36, 37, 38, 39, 40, 41, 42, 43, 44, 45, 46, 47, 48, 49, 50, 51, 52, 53, 54, 55, 56, 57, 58, 59, 60, 61, 62, 63, 64, 65, 66, 67, 68, 69, 70] (by decide +kernel) (by decide +kernel)
set_option maxRecDepth 20000 in
theorem gX6_between_X6_areTwo : GoodIn wsX6_between (wsV RX6 241 RX6 yX6_areTwo wsX6_areTwo) := goodIn_app (goodIn_of _ (by decide +kernel)) ggX6_between_X6_areTwo
set_option maxRecDepth 20000 in
theorem ggX6_between_X6_in : GoodIn wsX6_between wsX6_in := goodIn_r _ [16] (by decide +kernel) (by decide +kernel)
set_option maxRecDepth 20000 in
theorem gX6_between_X6_in : GoodIn wsX6_between (va_wsS RX6 82 yX6_in wsX6_in) := goodIn_app (goodIn_of _ (by decide +kernel)) ggX6_between_X6_in
set_option maxRecDepth 20000 in
theorem ggX6_between_X6_bits : GoodIn wsX6_between wsX6_bits := goodIn_r _ [19] (by decide +kernel) (by decide +kernel)
set_option maxRecDepth 20000 in
theorem gX6_between_X6_bits : GoodIn wsX6_between (va_wsS RX6 211 yX6_bits wsX6_bits) := goodIn_app (goodIn_of _ (by decide +kernel)) ggX6_between_X6_bits
set_option maxRecDepth 20000 in
theorem ggX6_between_X6_reached : GoodIn wsX6_between wsX6_reached := goodIn_r _ [23, 13, 24, 25, 26, 7, 27, 28, 29, 30, 31, 32, 33, 34, 35, 36, 37, 38, 39, 40, 41, 42, 43, 44, 45, 46, 47, 48, 49, 50, 51, 52, 53, 54, 55, 56, 57, 58, 59, 60, 61, 62, 63, 64, 65, 66, 67, 68, 69, 70] (by decide +kernel) (by decide +kernel)
set_option maxRecDepth 20000 in
theorem gX6_between_X6_reached : GoodIn wsX6_between (wsV RX6 185 RX6 yX6_reached wsX6_reached) := goodIn_app (goodIn_of _ (by decide +kernel)) ggX6_between_X6_reached
set_option maxRecDepth 20000 in
theorem ggX6_between_X6_has : GoodIn wsX6_between wsX6_has := goodIn_r _ [32] (by decide +kernel) (by decide +kernel)
set_option maxRecDepth 20000 in
theorem gX6_between_X6_has : GoodIn wsX6_between (va_wsS RX6 162 yX6_has wsX6_has) := goodIn_app (goodIn_of _ (by decide +kernel)) ggX6_between_X6_has
theorem dX6_between_0 : decode cX6_between 0 = .ok (.aload_n 0, 1) := by decide +kernel
theorem dX6_between_1 : decode cX6_between 1 = .ok (.iload_n 1, 1) := by decide +kernel
theorem dX6_between_2 : decode cX6_between 2 = .ok (.iload_n 2, 1) := by decide +kernel
theorem dX6_between_3 : decode cX6_between 3 = .ok (.invokevirtual 241, 3) := by decide +kernel
theorem dX6_between_6 : decode cX6_between 6 = .ok (.ifCond .ne 6, 3) := by decide +kernel
theorem dX6_between_9 : decode cX6_between 9 = .ok (.ldc 176, 2) := by decide +kernel
theorem dX6_between_11 : decode cX6_between 11 = .ok (.ireturn, 1) := by decide +kernel
theorem dX6_between_12 : decode cX6_between 12 = .ok (.iload_n 3, 1) := by decide +kernel
theorem dX6_between_13 : decode cX6_between 13 = .ok (.iconst 0, 1) := by decide +kernel
theorem dX6_between_14 : decode cX6_between 14 = .ok (.iconst 1, 1) := by decide +kernel
theorem dX6_between_15 : decode cX6_between 15 = .ok (.invokestatic 82, 3) := by decide +kernel
theorem dX6_between_18 : decode cX6_between 18 = .ok (.ifCond .ne 6, 3) := by decide +kernel
theorem dX6_between_21 : decode cX6_between 21 = .ok (.ldc 86, 2) := by decide +kernel
theorem dX6_between_23 : decode cX6_between 23 = .ok (.ireturn, 1) := by decide +kernel
theorem dX6_between_24 : decode cX6_between 24 = .ok (.aload_n 0, 1) := by decide +kernel
theorem dX6_between_25 : decode cX6_between 25 = .ok (.getfield 47, 3) := by decide +kernel
theorem dX6_between_28 : decode cX6_between 28 = .ok (.iconst 0, 1) := by decide +kernel
theorem dX6_between_29 : decode cX6_between 29 = .ok (.iaload, 1) := by decide +kernel
theorem dX6_between_30 : decode cX6_between 30 = .ok (.istore 4, 2) := by decide +kernel
theorem dX6_between_32 : decode cX6_between 32 = .ok (.aload_n 0, 1) := by decide +kernel
theorem dX6_between_33 : decode cX6_between 33 = .ok (.getfield 47, 3) := by decide +kernel
theorem dX6_between_36 : decode cX6_between 36 = .ok (.iconst 0, 1) := by decide +kernel
theorem dX6_between_37 : decode cX6_between 37 = .ok (.iaload, 1) := by decide +kernel
theorem dX6_between_38 : decode cX6_between 38 = .ok (.istore 5, 2) := by decide +kernel
theorem dX6_between_40 : decode cX6_between 40 = .ok (.iload 5, 2) := by decide +kernel
theorem dX6_between_42 : decode cX6_between 42 = .ok (.ifCond .lt 80, 3) := by decide +kernel
theorem dX6_between_45 : decode cX6_between 45 = .ok (.iload 5, 2) := by decide +kernel
theorem dX6_between_47 : decode cX6_between 47 = .ok (.aload_n 0, 1) := by decide +kernel
theorem dX6_between_48 : decode cX6_between 48 = .ok (.getfield 47, 3) := by decide +kernel
theorem dX6_between_51 : decode cX6_between 51 = .ok (.iconst 0, 1) := by decide +kernel
theorem dX6_between_52 : decode cX6_between 52 = .ok (.iaload, 1) := by decide +kernel
theorem dX6_between_53 : decode cX6_between 53 = .ok (.iconst (-1), 1) := by decide +kernel
theorem dX6_between_54 : decode cX6_between 54 = .ok (.ixor, 1) := by decide +kernel
theorem dX6_between_55 : decode cX6_between 55 = .ok (.iand, 1) := by decide +kernel
theorem dX6_between_56 : decode cX6_between 56 = .ok (.ifCond .ne 20, 3) := by decide +kernel
theorem dX6_between_59 : decode cX6_between 59 = .ok (.iload 5, 2) := by decide +kernel
theorem dX6_between_61 : decode cX6_between 61 = .ok (.invokestatic 211, 3) := by decide +kernel
theorem dX6_between_64 : decode cX6_between 64 = .ok (.iload 4, 2) := by decide +kernel
theorem dX6_between_66 : decode cX6_between 66 = .ok (.invokestatic 211, 3) := by decide +kernel
theorem dX6_between_69 : decode cX6_between 69 = .ok (.if_icmp .gt 7, 3) := by decide +kernel
theorem dX6_between_72 : decode cX6_between 72 = .ok (.iconst 1, 1) := by decide +kernel
theorem dX6_between_73 : decode cX6_between 73 = .ok (.goto 4, 3) := by decide +kernel
theorem dX6_between_76 : decode cX6_between 76 = .ok (.iconst 0, 1) := by decide +kernel
theorem dX6_between_77 : decode cX6_between 77 = .ok (.istore 6, 2) := by decide +kernel
theorem dX6_between_79 : decode cX6_between 79 = .ok (.iload 6, 2) := by decide +kernel
theorem dX6_between_81 : decode cX6_between 81 = .ok (.ifCond .eq 31, 3) := by decide +kernel
theorem dX6_between_84 : decode cX6_between 84 = .ok (.aload_n 0, 1) := by decide +kernel
theorem dX6_between_85 : decode cX6_between 85 = .ok (.iload_n 1, 1) := by decide +kernel
theorem dX6_between_86 : decode cX6_between 86 = .ok (.aload_n 0, 1) := by decide +kernel
theorem dX6_between_87 : decode cX6_between 87 = .ok (.getfield 47, 3) := by decide +kernel
theorem dX6_between_90 : decode cX6_between 90 = .ok (.iconst 0, 1) := by decide +kernel
theorem dX6_between_91 : decode cX6_between 91 = .ok (.iaload, 1) := by decide +kernel
theorem dX6_between_92 : decode cX6_between 92 = .ok (.iload 5, 2) := by decide +kernel
theorem dX6_between_94 : decode cX6_between 94 = .ok (.iconst (-1), 1) := by decide +kernel
theorem dX6_between_95 : decode cX6_between 95 = .ok (.ixor, 1) := by decide +kernel
theorem dX6_between_96 : decode cX6_between 96 = .ok (.iand, 1) := by decide +kernel
theorem dX6_between_97 : decode cX6_between 97 = .ok (.invokevirtual 185, 3) := by decide +kernel
theorem dX6_between_100 : decode cX6_between 100 = .ok (.iload_n 2, 1) := by decide +kernel
theorem dX6_between_101 : decode cX6_between 101 = .ok (.invokestatic 162, 3) := by decide +kernel
theorem dX6_between_104 : decode cX6_between 104 = .ok (.ifCond .ne 8, 3) := by decide +kernel
theorem dX6_between_107 : decode cX6_between 107 = .ok (.iload 5, 2) := by decide +kernel
theorem dX6_between_109 : decode cX6_between 109 = .ok (.goto 5, 3) := by decide +kernel
theorem dX6_between_112 : decode cX6_between 112 = .ok (.iload 4, 2) := by decide +kernel
theorem dX6_between_114 : decode cX6_between 114 = .ok (.istore 4, 2) := by decide +kernel
theorem dX6_between_116 : decode cX6_between 116 = .ok (.iinc 5 (-1), 3) := by decide +kernel
theorem dX6_between_119 : decode cX6_between 119 = .ok (.goto (-79), 3) := by decide +kernel
theorem dX6_between_122 : decode cX6_between 122 = .ok (.iload_n 3, 1) := by decide +kernel
theorem dX6_between_123 : decode cX6_between 123 = .ok (.ifCond .ne 11, 3) := by decide +kernel
theorem dX6_between_126 : decode cX6_between 126 = .ok (.iload 4, 2) := by decide +kernel
theorem dX6_between_128 : decode cX6_between 128 = .ok (.invokestatic 211, 3) := by decide +kernel
theorem dX6_between_131 : decode cX6_between 131 = .ok (.goto 5, 3) := by decide +kernel
theorem dX6_between_134 : decode cX6_between 134 = .ok (.iload 4, 2) := by decide +kernel
theorem dX6_between_136 : decode cX6_between 136 = .ok (.ireturn, 1) := by decide +kernel
set_option maxRecDepth 20000 in
theorem ggX6_wayOf_X6_has : GoodIn wsX6_wayOf wsX6_has := goodIn_r _ [6] (by decide +kernel) (by decide +kernel)
set_option maxRecDepth 20000 in
theorem gX6_wayOf_X6_has : GoodIn wsX6_wayOf (va_wsS RX6 162 yX6_has wsX6_has) := goodIn_app (goodIn_of _ (by decide +kernel)) ggX6_wayOf_X6_has
set_option maxRecDepth 20000 in
theorem ggX6_wayOf_X6_onward : GoodIn wsX6_wayOf wsX6_onward := goodIn_r _ [10, 11, 12, 3, 4, 5, 6, 13, 14, 15, 16, 17, 18, 19, 20, 21, 22, 23, 24, 25, 26, 27, 28, 29, 30, 31, 32, 33, 34, 35, 36, 37, 38, 39, 40, 41, 42, 43, 44, 45, 46, 47, 48, 49, 50] (by decide +kernel) (by decide +kernel)
set_option maxRecDepth 20000 in
theorem gX6_wayOf_X6_onward : GoodIn wsX6_wayOf (wsV RX6 182 RX6 yX6_onward wsX6_onward) := goodIn_app (goodIn_of _ (by decide +kernel)) ggX6_wayOf_X6_onward
theorem dX6_wayOf_0 : decode cX6_wayOf 0 = .ok (.iconst 1, 1) := by decide +kernel
theorem dX6_wayOf_1 : decode cX6_wayOf 1 = .ok (.iload_n 1, 1) := by decide +kernel
theorem dX6_wayOf_2 : decode cX6_wayOf 2 = .ok (.ishl, 1) := by decide +kernel
theorem dX6_wayOf_3 : decode cX6_wayOf 3 = .ok (.istore_n 3, 1) := by decide +kernel
theorem dX6_wayOf_4 : decode cX6_wayOf 4 = .ok (.iconst 0, 1) := by decide +kernel
theorem dX6_wayOf_5 : decode cX6_wayOf 5 = .ok (.istore 4, 2) := by decide +kernel
theorem dX6_wayOf_7 : decode cX6_wayOf 7 = .ok (.iload 4, 2) := by decide +kernel
theorem dX6_wayOf_9 : decode cX6_wayOf 9 = .ok (.aload_n 0, 1) := by decide +kernel
theorem dX6_wayOf_10 : decode cX6_wayOf 10 = .ok (.getfield 141, 3) := by decide +kernel
theorem dX6_wayOf_13 : decode cX6_wayOf 13 = .ok (.if_icmp .ge 32, 3) := by decide +kernel
theorem dX6_wayOf_16 : decode cX6_wayOf 16 = .ok (.iload_n 3, 1) := by decide +kernel
theorem dX6_wayOf_17 : decode cX6_wayOf 17 = .ok (.iload_n 2, 1) := by decide +kernel
theorem dX6_wayOf_18 : decode cX6_wayOf 18 = .ok (.invokestatic 162, 3) := by decide +kernel
theorem dX6_wayOf_21 : decode cX6_wayOf 21 = .ok (.ifCond .eq 6, 3) := by decide +kernel
theorem dX6_wayOf_24 : decode cX6_wayOf 24 = .ok (.iload 4, 2) := by decide +kernel
theorem dX6_wayOf_26 : decode cX6_wayOf 26 = .ok (.ireturn, 1) := by decide +kernel
theorem dX6_wayOf_27 : decode cX6_wayOf 27 = .ok (.aload_n 0, 1) := by decide +kernel
theorem dX6_wayOf_28 : decode cX6_wayOf 28 = .ok (.iload_n 3, 1) := by decide +kernel
theorem dX6_wayOf_29 : decode cX6_wayOf 29 = .ok (.aload_n 0, 1) := by decide +kernel
theorem dX6_wayOf_30 : decode cX6_wayOf 30 = .ok (.getfield 47, 3) := by decide +kernel
theorem dX6_wayOf_33 : decode cX6_wayOf 33 = .ok (.iconst 0, 1) := by decide +kernel
theorem dX6_wayOf_34 : decode cX6_wayOf 34 = .ok (.iaload, 1) := by decide +kernel
theorem dX6_wayOf_35 : decode cX6_wayOf 35 = .ok (.invokevirtual 182, 3) := by decide +kernel
theorem dX6_wayOf_38 : decode cX6_wayOf 38 = .ok (.istore_n 3, 1) := by decide +kernel
theorem dX6_wayOf_39 : decode cX6_wayOf 39 = .ok (.iinc 4 1, 3) := by decide +kernel
theorem dX6_wayOf_42 : decode cX6_wayOf 42 = .ok (.goto (-35), 3) := by decide +kernel
theorem dX6_wayOf_45 : decode cX6_wayOf 45 = .ok (.iconst (-1), 1) := by decide +kernel
theorem dX6_wayOf_46 : decode cX6_wayOf 46 = .ok (.ireturn, 1) := by decide +kernel
set_option maxRecDepth 20000 in
theorem ggX6_way_X6_areTwo : GoodIn wsX6_way wsX6_areTwo := goodIn_r _ [10, 11, 12, 13, 9, 14, 15, 16, 17, 18, 30, 31, 32, 33, 34, 35, 36, 37, 38, 39, 40, 41, 42, 43, 44, 45, 46, 47, 48, 49, 50, 51, 52, 53, 54, 55, 56, 57, 58, 59, 60, 61, 62, 63, 64, 65, 66, 67] (by decide +kernel) (by decide +kernel)
set_option maxRecDepth 20000 in
theorem gX6_way_X6_areTwo : GoodIn wsX6_way (wsV RX6 241 RX6 yX6_areTwo wsX6_areTwo) := goodIn_app (goodIn_of _ (by decide +kernel)) ggX6_way_X6_areTwo
set_option maxRecDepth 20000 in
theorem ggX6_way_X6_in : GoodIn wsX6_way wsX6_in := goodIn_r _ [18] (by decide +kernel) (by decide +kernel)
set_option maxRecDepth 20000 in
theorem gX6_way_X6_in : GoodIn wsX6_way (va_wsS RX6 82 yX6_in wsX6_in) := goodIn_app (goodIn_of _ (by decide +kernel)) ggX6_way_X6_in
set_option maxRecDepth 20000 in
theorem ggX6_way_X6_wayOf : GoodIn wsX6_way wsX6_wayOf := goodIn_r _ [22, 15, 5, 23, 24, 9, 25, 26, 27, 28, 29, 3, 4, 30, 31, 32, 33, 34, 35, 36, 37, 38, 39, 40, 41, 42, 43, 44, 45, 46, 47, 48, 49, 50, 51, 52, 53, 54, 55, 56, 57, 58, 59, 60, 61, 62, 63, 64, 65, 66, 67] (by decide +kernel) (by decide +kernel)
set_option maxRecDepth 20000 in
theorem gX6_way_X6_wayOf : GoodIn wsX6_way (wsV RX6 244 RX6 yX6_wayOf wsX6_wayOf) := goodIn_app (goodIn_of _ (by decide +kernel)) ggX6_way_X6_wayOf
set_option maxRecDepth 20000 in
theorem ggX6_way_X6_has : GoodIn wsX6_way wsX6_has := goodIn_r _ [25] (by decide +kernel) (by decide +kernel)
set_option maxRecDepth 20000 in
theorem gX6_way_X6_has : GoodIn wsX6_way (va_wsS RX6 162 yX6_has wsX6_has) := goodIn_app (goodIn_of _ (by decide +kernel)) ggX6_way_X6_has
theorem dX6_way_0 : decode cX6_way 0 = .ok (.aload_n 0, 1) := by decide +kernel
theorem dX6_way_1 : decode cX6_way 1 = .ok (.iload_n 1, 1) := by decide +kernel
theorem dX6_way_2 : decode cX6_way 2 = .ok (.iload_n 2, 1) := by decide +kernel
theorem dX6_way_3 : decode cX6_way 3 = .ok (.invokevirtual 241, 3) := by decide +kernel
theorem dX6_way_6 : decode cX6_way 6 = .ok (.ifCond .ne 6, 3) := by decide +kernel
theorem dX6_way_9 : decode cX6_way 9 = .ok (.ldc 176, 2) := by decide +kernel
theorem dX6_way_11 : decode cX6_way 11 = .ok (.ireturn, 1) := by decide +kernel
theorem dX6_way_12 : decode cX6_way 12 = .ok (.iload_n 3, 1) := by decide +kernel
theorem dX6_way_13 : decode cX6_way 13 = .ok (.iconst 0, 1) := by decide +kernel
theorem dX6_way_14 : decode cX6_way 14 = .ok (.iconst 1, 1) := by decide +kernel
theorem dX6_way_15 : decode cX6_way 15 = .ok (.invokestatic 82, 3) := by decide +kernel
