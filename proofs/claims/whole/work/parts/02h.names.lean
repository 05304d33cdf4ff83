theorem dX6_way_18 : decode cX6_way 18 = .ok (.ifCond .ne 6, 3) := by decide +kernel
theorem dX6_way_21 : decode cX6_way 21 = .ok (.ldc 86, 2) := by decide +kernel
theorem dX6_way_23 : decode cX6_way 23 = .ok (.ireturn, 1) := by decide +kernel
theorem dX6_way_24 : decode cX6_way 24 = .ok (.aload_n 0, 1) := by decide +kernel
theorem dX6_way_25 : decode cX6_way 25 = .ok (.iload_n 1, 1) := by decide +kernel
theorem dX6_way_26 : decode cX6_way 26 = .ok (.iload_n 2, 1) := by decide +kernel
theorem dX6_way_27 : decode cX6_way 27 = .ok (.invokevirtual 244, 3) := by decide +kernel
theorem dX6_way_30 : decode cX6_way 30 = .ok (.istore 4, 2) := by decide +kernel
theorem dX6_way_32 : decode cX6_way 32 = .ok (.iload_n 3, 1) := by decide +kernel
theorem dX6_way_33 : decode cX6_way 33 = .ok (.ifCond .eq 9, 3) := by decide +kernel
theorem dX6_way_36 : decode cX6_way 36 = .ok (.iload 4, 2) := by decide +kernel
theorem dX6_way_38 : decode cX6_way 38 = .ok (.iconst (-1), 1) := by decide +kernel
theorem dX6_way_39 : decode cX6_way 39 = .ok (.if_icmp .ne 6, 3) := by decide +kernel
theorem dX6_way_42 : decode cX6_way 42 = .ok (.iload 4, 2) := by decide +kernel
theorem dX6_way_44 : decode cX6_way 44 = .ok (.ireturn, 1) := by decide +kernel
theorem dX6_way_45 : decode cX6_way 45 = .ok (.iconst 0, 1) := by decide +kernel
theorem dX6_way_46 : decode cX6_way 46 = .ok (.istore 5, 2) := by decide +kernel
theorem dX6_way_48 : decode cX6_way 48 = .ok (.iload 5, 2) := by decide +kernel
theorem dX6_way_50 : decode cX6_way 50 = .ok (.aload_n 0, 1) := by decide +kernel
theorem dX6_way_51 : decode cX6_way 51 = .ok (.getfield 144, 3) := by decide +kernel
theorem dX6_way_54 : decode cX6_way 54 = .ok (.if_icmp .ge 103, 3) := by decide +kernel
theorem dX6_way_57 : decode cX6_way 57 = .ok (.aload_n 0, 1) := by decide +kernel
theorem dX6_way_58 : decode cX6_way 58 = .ok (.getfield 32, 3) := by decide +kernel
theorem dX6_way_61 : decode cX6_way 61 = .ok (.iconst 2, 1) := by decide +kernel
theorem dX6_way_62 : decode cX6_way 62 = .ok (.iload 5, 2) := by decide +kernel
theorem dX6_way_64 : decode cX6_way 64 = .ok (.imul, 1) := by decide +kernel
theorem dX6_way_65 : decode cX6_way 65 = .ok (.iaload, 1) := by decide +kernel
theorem dX6_way_66 : decode cX6_way 66 = .ok (.iload_n 1, 1) := by decide +kernel
theorem dX6_way_67 : decode cX6_way 67 = .ok (.if_icmp .ne 17, 3) := by decide +kernel
theorem dX6_way_70 : decode cX6_way 70 = .ok (.aload_n 0, 1) := by decide +kernel
theorem dX6_way_71 : decode cX6_way 71 = .ok (.getfield 32, 3) := by decide +kernel
theorem dX6_way_74 : decode cX6_way 74 = .ok (.iconst 2, 1) := by decide +kernel
theorem dX6_way_75 : decode cX6_way 75 = .ok (.iload 5, 2) := by decide +kernel
theorem dX6_way_77 : decode cX6_way 77 = .ok (.imul, 1) := by decide +kernel
theorem dX6_way_78 : decode cX6_way 78 = .ok (.iconst 1, 1) := by decide +kernel
theorem dX6_way_79 : decode cX6_way 79 = .ok (.iadd, 1) := by decide +kernel
theorem dX6_way_80 : decode cX6_way 80 = .ok (.iaload, 1) := by decide +kernel
theorem dX6_way_81 : decode cX6_way 81 = .ok (.goto 31, 3) := by decide +kernel
theorem dX6_way_84 : decode cX6_way 84 = .ok (.aload_n 0, 1) := by decide +kernel
theorem dX6_way_85 : decode cX6_way 85 = .ok (.getfield 32, 3) := by decide +kernel
theorem dX6_way_88 : decode cX6_way 88 = .ok (.iconst 2, 1) := by decide +kernel
theorem dX6_way_89 : decode cX6_way 89 = .ok (.iload 5, 2) := by decide +kernel
theorem dX6_way_91 : decode cX6_way 91 = .ok (.imul, 1) := by decide +kernel
theorem dX6_way_92 : decode cX6_way 92 = .ok (.iconst 1, 1) := by decide +kernel
theorem dX6_way_93 : decode cX6_way 93 = .ok (.iadd, 1) := by decide +kernel
theorem dX6_way_94 : decode cX6_way 94 = .ok (.iaload, 1) := by decide +kernel
theorem dX6_way_95 : decode cX6_way 95 = .ok (.iload_n 1, 1) := by decide +kernel
theorem dX6_way_96 : decode cX6_way 96 = .ok (.if_icmp .ne 15, 3) := by decide +kernel
theorem dX6_way_99 : decode cX6_way 99 = .ok (.aload_n 0, 1) := by decide +kernel
theorem dX6_way_100 : decode cX6_way 100 = .ok (.getfield 32, 3) := by decide +kernel
theorem dX6_way_103 : decode cX6_way 103 = .ok (.iconst 2, 1) := by decide +kernel
theorem dX6_way_104 : decode cX6_way 104 = .ok (.iload 5, 2) := by decide +kernel
theorem dX6_way_106 : decode cX6_way 106 = .ok (.imul, 1) := by decide +kernel
theorem dX6_way_107 : decode cX6_way 107 = .ok (.iaload, 1) := by decide +kernel
theorem dX6_way_108 : decode cX6_way 108 = .ok (.goto 4, 3) := by decide +kernel
theorem dX6_way_111 : decode cX6_way 111 = .ok (.iconst (-1), 1) := by decide +kernel
theorem dX6_way_112 : decode cX6_way 112 = .ok (.istore 6, 2) := by decide +kernel
theorem dX6_way_114 : decode cX6_way 114 = .ok (.aload_n 0, 1) := by decide +kernel
theorem dX6_way_115 : decode cX6_way 115 = .ok (.getfield 47, 3) := by decide +kernel
theorem dX6_way_118 : decode cX6_way 118 = .ok (.iconst 0, 1) := by decide +kernel
theorem dX6_way_119 : decode cX6_way 119 = .ok (.iaload, 1) := by decide +kernel
theorem dX6_way_120 : decode cX6_way 120 = .ok (.iload 5, 2) := by decide +kernel
theorem dX6_way_122 : decode cX6_way 122 = .ok (.invokestatic 162, 3) := by decide +kernel
theorem dX6_way_125 : decode cX6_way 125 = .ok (.ifCond .eq 26, 3) := by decide +kernel
theorem dX6_way_128 : decode cX6_way 128 = .ok (.iload 6, 2) := by decide +kernel
theorem dX6_way_130 : decode cX6_way 130 = .ok (.iconst (-1), 1) := by decide +kernel
theorem dX6_way_131 : decode cX6_way 131 = .ok (.if_icmp .eq 20, 3) := by decide +kernel
theorem dX6_way_134 : decode cX6_way 134 = .ok (.aload_n 0, 1) := by decide +kernel
theorem dX6_way_135 : decode cX6_way 135 = .ok (.iload 6, 2) := by decide +kernel
theorem dX6_way_137 : decode cX6_way 137 = .ok (.iload_n 2, 1) := by decide +kernel
theorem dX6_way_138 : decode cX6_way 138 = .ok (.invokevirtual 244, 3) := by decide +kernel
theorem dX6_way_141 : decode cX6_way 141 = .ok (.iload 4, 2) := by decide +kernel
theorem dX6_way_143 : decode cX6_way 143 = .ok (.iconst 1, 1) := by decide +kernel
theorem dX6_way_144 : decode cX6_way 144 = .ok (.isub, 1) := by decide +kernel
theorem dX6_way_145 : decode cX6_way 145 = .ok (.if_icmp .ne 6, 3) := by decide +kernel
theorem dX6_way_148 : decode cX6_way 148 = .ok (.iload 5, 2) := by decide +kernel
theorem dX6_way_150 : decode cX6_way 150 = .ok (.ireturn, 1) := by decide +kernel
theorem dX6_way_151 : decode cX6_way 151 = .ok (.iinc 5 1, 3) := by decide +kernel
theorem dX6_way_154 : decode cX6_way 154 = .ok (.goto (-106), 3) := by decide +kernel
theorem dX6_way_157 : decode cX6_way 157 = .ok (.iconst (-1), 1) := by decide +kernel
theorem dX6_way_158 : decode cX6_way 158 = .ok (.ireturn, 1) := by decide +kernel
set_option maxRecDepth 20000 in
theorem ggX6_widest_X6_areTwo : GoodIn wsX6_widest wsX6_areTwo := goodIn_r _ [9, 10, 11, 12, 8, 13, 14, 15, 16, 17, 30, 31, 32, 33, 34, 35, 36, 37, 38, 39, 40, 41, 42, 43, 44, 45, 46, 47, 48, 49, 50, 51, 52, 53, 54, 55, 56, 57, 58, 59, 60, 61, 62, 63, 64, 65, 66, 67] (by decide +kernel) (by decide +kernel)
set_option maxRecDepth 20000 in
theorem gX6_widest_X6_areTwo : GoodIn wsX6_widest (wsV RX6 241 RX6 yX6_areTwo wsX6_areTwo) := goodIn_app (goodIn_of _ (by decide +kernel)) ggX6_widest_X6_areTwo
set_option maxRecDepth 20000 in
theorem ggX6_widest_X6_has : GoodIn wsX6_widest wsX6_has := goodIn_r _ [20] (by decide +kernel) (by decide +kernel)
set_option maxRecDepth 20000 in
theorem gX6_widest_X6_has : GoodIn wsX6_widest (va_wsS RX6 162 yX6_has wsX6_has) := goodIn_app (goodIn_of _ (by decide +kernel)) ggX6_widest_X6_has
set_option maxRecDepth 20000 in
theorem ggX6_widest_X6_reached : GoodIn wsX6_widest wsX6_reached := goodIn_r _ [24, 14, 25, 26, 27, 8, 28, 2, 29, 18, 19, 20, 30, 31, 32, 33, 34, 35, 36, 37, 38, 39, 40, 41, 42, 43, 44, 45, 46, 47, 48, 49, 50, 51, 52, 53, 54, 55, 56, 57, 58, 59, 60, 61, 62, 63, 64, 65, 66, 67] (by decide +kernel) (by decide +kernel)
set_option maxRecDepth 20000 in
theorem gX6_widest_X6_reached : GoodIn wsX6_widest (wsV RX6 185 RX6 yX6_reached wsX6_reached) := goodIn_app (goodIn_of _ (by decide +kernel)) ggX6_widest_X6_reached
theorem dX6_widest_0 : decode cX6_widest 0 = .ok (.aload_n 0, 1) := by decide +kernel
theorem dX6_widest_1 : decode cX6_widest 1 = .ok (.iload_n 1, 1) := by decide +kernel
theorem dX6_widest_2 : decode cX6_widest 2 = .ok (.iload_n 2, 1) := by decide +kernel
theorem dX6_widest_3 : decode cX6_widest 3 = .ok (.invokevirtual 241, 3) := by decide +kernel
theorem dX6_widest_6 : decode cX6_widest 6 = .ok (.ifCond .ne 6, 3) := by decide +kernel
theorem dX6_widest_9 : decode cX6_widest 9 = .ok (.ldc 176, 2) := by decide +kernel
theorem dX6_widest_11 : decode cX6_widest 11 = .ok (.ireturn, 1) := by decide +kernel
theorem dX6_widest_12 : decode cX6_widest 12 = .ok (.bipush 99, 2) := by decide +kernel
theorem dX6_widest_14 : decode cX6_widest 14 = .ok (.istore_n 3, 1) := by decide +kernel
theorem dX6_widest_15 : decode cX6_widest 15 = .ok (.iload_n 3, 1) := by decide +kernel
theorem dX6_widest_16 : decode cX6_widest 16 = .ok (.ifCond .le 95, 3) := by decide +kernel
theorem dX6_widest_19 : decode cX6_widest 19 = .ok (.iconst 0, 1) := by decide +kernel
theorem dX6_widest_20 : decode cX6_widest 20 = .ok (.istore 4, 2) := by decide +kernel
theorem dX6_widest_22 : decode cX6_widest 22 = .ok (.iconst 0, 1) := by decide +kernel
theorem dX6_widest_23 : decode cX6_widest 23 = .ok (.istore 5, 2) := by decide +kernel
theorem dX6_widest_25 : decode cX6_widest 25 = .ok (.iload 5, 2) := by decide +kernel
theorem dX6_widest_27 : decode cX6_widest 27 = .ok (.aload_n 0, 1) := by decide +kernel
theorem dX6_widest_28 : decode cX6_widest 28 = .ok (.getfield 144, 3) := by decide +kernel
theorem dX6_widest_31 : decode cX6_widest 31 = .ok (.if_icmp .ge 58, 3) := by decide +kernel
theorem dX6_widest_34 : decode cX6_widest 34 = .ok (.iload 4, 2) := by decide +kernel
theorem dX6_widest_36 : decode cX6_widest 36 = .ok (.aload_n 0, 1) := by decide +kernel
theorem dX6_widest_37 : decode cX6_widest 37 = .ok (.getfield 47, 3) := by decide +kernel
theorem dX6_widest_40 : decode cX6_widest 40 = .ok (.iconst 0, 1) := by decide +kernel
theorem dX6_widest_41 : decode cX6_widest 41 = .ok (.iaload, 1) := by decide +kernel
theorem dX6_widest_42 : decode cX6_widest 42 = .ok (.iload 5, 2) := by decide +kernel
theorem dX6_widest_44 : decode cX6_widest 44 = .ok (.invokestatic 162, 3) := by decide +kernel
theorem dX6_widest_47 : decode cX6_widest 47 = .ok (.ifCond .eq 32, 3) := by decide +kernel
theorem dX6_widest_50 : decode cX6_widest 50 = .ok (.aload_n 0, 1) := by decide +kernel
theorem dX6_widest_51 : decode cX6_widest 51 = .ok (.getfield 38, 3) := by decide +kernel
theorem dX6_widest_54 : decode cX6_widest 54 = .ok (.iload 5, 2) := by decide +kernel
theorem dX6_widest_56 : decode cX6_widest 56 = .ok (.iaload, 1) := by decide +kernel
theorem dX6_widest_57 : decode cX6_widest 57 = .ok (.aload_n 0, 1) := by decide +kernel
theorem dX6_widest_58 : decode cX6_widest 58 = .ok (.getfield 47, 3) := by decide +kernel
theorem dX6_widest_61 : decode cX6_widest 61 = .ok (.bipush 6, 2) := by decide +kernel
theorem dX6_widest_63 : decode cX6_widest 63 = .ok (.iload 5, 2) := by decide +kernel
theorem dX6_widest_65 : decode cX6_widest 65 = .ok (.iadd, 1) := by decide +kernel
theorem dX6_widest_66 : decode cX6_widest 66 = .ok (.iaload, 1) := by decide +kernel
theorem dX6_widest_67 : decode cX6_widest 67 = .ok (.isub, 1) := by decide +kernel
theorem dX6_widest_68 : decode cX6_widest 68 = .ok (.iload_n 3, 1) := by decide +kernel
theorem dX6_widest_69 : decode cX6_widest 69 = .ok (.if_icmp .lt 10, 3) := by decide +kernel
theorem dX6_widest_72 : decode cX6_widest 72 = .ok (.iconst 1, 1) := by decide +kernel
theorem dX6_widest_73 : decode cX6_widest 73 = .ok (.iload 5, 2) := by decide +kernel
theorem dX6_widest_75 : decode cX6_widest 75 = .ok (.ishl, 1) := by decide +kernel
theorem dX6_widest_76 : decode cX6_widest 76 = .ok (.goto 4, 3) := by decide +kernel
theorem dX6_widest_79 : decode cX6_widest 79 = .ok (.iconst 0, 1) := by decide +kernel
theorem dX6_widest_80 : decode cX6_widest 80 = .ok (.ior, 1) := by decide +kernel
theorem dX6_widest_81 : decode cX6_widest 81 = .ok (.istore 4, 2) := by decide +kernel
theorem dX6_widest_83 : decode cX6_widest 83 = .ok (.iinc 5 1, 3) := by decide +kernel
theorem dX6_widest_86 : decode cX6_widest 86 = .ok (.goto (-61), 3) := by decide +kernel
theorem dX6_widest_89 : decode cX6_widest 89 = .ok (.aload_n 0, 1) := by decide +kernel
theorem dX6_widest_90 : decode cX6_widest 90 = .ok (.iload_n 1, 1) := by decide +kernel
theorem dX6_widest_91 : decode cX6_widest 91 = .ok (.iload 4, 2) := by decide +kernel
theorem dX6_widest_93 : decode cX6_widest 93 = .ok (.invokevirtual 185, 3) := by decide +kernel
theorem dX6_widest_96 : decode cX6_widest 96 = .ok (.iload_n 2, 1) := by decide +kernel
theorem dX6_widest_97 : decode cX6_widest 97 = .ok (.invokestatic 162, 3) := by decide +kernel
theorem dX6_widest_100 : decode cX6_widest 100 = .ok (.ifCond .eq 5, 3) := by decide +kernel
theorem dX6_widest_103 : decode cX6_widest 103 = .ok (.iload_n 3, 1) := by decide +kernel
theorem dX6_widest_104 : decode cX6_widest 104 = .ok (.ireturn, 1) := by decide +kernel
theorem dX6_widest_105 : decode cX6_widest 105 = .ok (.iinc 3 (-1), 3) := by decide +kernel
theorem dX6_widest_108 : decode cX6_widest 108 = .ok (.goto (-93), 3) := by decide +kernel
theorem dX6_widest_111 : decode cX6_widest 111 = .ok (.iconst (-1), 1) := by decide +kernel
theorem dX6_widest_112 : decode cX6_widest 112 = .ok (.ireturn, 1) := by decide +kernel
set_option maxRecDepth 20000 in
theorem ggX6_farthest_X6_isIsland : GoodIn wsX6_farthest wsX6_isIsland := goodIn_r _ [8, 3, 9, 10, 7, 11, 26, 27, 28, 29, 30, 31, 32, 33, 34, 35, 36, 37, 38, 39, 40, 41, 42, 43, 44, 45, 46, 47, 48, 49, 50, 51, 52, 53, 54, 55, 56, 57, 58, 59, 60, 61, 62, 63] (by decide +kernel) (by decide +kernel)
set_option maxRecDepth 20000 in
theorem gX6_farthest_X6_isIsland : GoodIn wsX6_farthest (wsV RX6 159 RX6 yX6_isIsland wsX6_isIsland) := goodIn_app (goodIn_of _ (by decide +kernel)) ggX6_farthest_X6_isIsland
set_option maxRecDepth 20000 in
theorem ggX6_farthest_X6_in : GoodIn wsX6_farthest wsX6_in := goodIn_r _ [11] (by decide +kernel) (by decide +kernel)
set_option maxRecDepth 20000 in
theorem gX6_farthest_X6_in : GoodIn wsX6_farthest (va_wsS RX6 82 yX6_in wsX6_in) := goodIn_app (goodIn_of _ (by decide +kernel)) ggX6_farthest_X6_in
set_option maxRecDepth 20000 in
theorem ggX6_farthest_X6_wayOf : GoodIn wsX6_farthest wsX6_wayOf := goodIn_r _ [15, 3, 16, 17, 18, 7, 19, 20, 21, 22, 23, 24, 25, 26, 27, 28, 29, 30, 31, 32, 33, 34, 35, 36, 37, 38, 39, 40, 41, 42, 43, 44, 45, 46, 47, 48, 49, 50, 51, 52, 53, 54, 55, 56, 57, 58, 59, 60, 61, 62, 63] (by decide +kernel) (by decide +kernel)
set_option maxRecDepth 20000 in
theorem gX6_farthest_X6_wayOf : GoodIn wsX6_farthest (wsV RX6 244 RX6 yX6_wayOf wsX6_wayOf) := goodIn_app (goodIn_of _ (by decide +kernel)) ggX6_farthest_X6_wayOf
theorem dX6_farthest_0 : decode cX6_farthest 0 = .ok (.aload_n 0, 1) := by decide +kernel
theorem dX6_farthest_1 : decode cX6_farthest 1 = .ok (.iload_n 1, 1) := by decide +kernel
theorem dX6_farthest_2 : decode cX6_farthest 2 = .ok (.invokevirtual 159, 3) := by decide +kernel
theorem dX6_farthest_5 : decode cX6_farthest 5 = .ok (.ifCond .ne 6, 3) := by decide +kernel
theorem dX6_farthest_8 : decode cX6_farthest 8 = .ok (.ldc 176, 2) := by decide +kernel
theorem dX6_farthest_10 : decode cX6_farthest 10 = .ok (.ireturn, 1) := by decide +kernel
theorem dX6_farthest_11 : decode cX6_farthest 11 = .ok (.iload_n 2, 1) := by decide +kernel
theorem dX6_farthest_12 : decode cX6_farthest 12 = .ok (.iconst 0, 1) := by decide +kernel
theorem dX6_farthest_13 : decode cX6_farthest 13 = .ok (.iconst 1, 1) := by decide +kernel
theorem dX6_farthest_14 : decode cX6_farthest 14 = .ok (.invokestatic 82, 3) := by decide +kernel
theorem dX6_farthest_17 : decode cX6_farthest 17 = .ok (.ifCond .ne 6, 3) := by decide +kernel
theorem dX6_farthest_20 : decode cX6_farthest 20 = .ok (.ldc 86, 2) := by decide +kernel
theorem dX6_farthest_22 : decode cX6_farthest 22 = .ok (.ireturn, 1) := by decide +kernel
theorem dX6_farthest_23 : decode cX6_farthest 23 = .ok (.iload_n 1, 1) := by decide +kernel
theorem dX6_farthest_24 : decode cX6_farthest 24 = .ok (.istore_n 3, 1) := by decide +kernel
theorem dX6_farthest_25 : decode cX6_farthest 25 = .ok (.iconst 0, 1) := by decide +kernel
theorem dX6_farthest_26 : decode cX6_farthest 26 = .ok (.istore 4, 2) := by decide +kernel
theorem dX6_farthest_28 : decode cX6_farthest 28 = .ok (.iconst 0, 1) := by decide +kernel
theorem dX6_farthest_29 : decode cX6_farthest 29 = .ok (.istore 5, 2) := by decide +kernel
theorem dX6_farthest_31 : decode cX6_farthest 31 = .ok (.iload 5, 2) := by decide +kernel
theorem dX6_farthest_33 : decode cX6_farthest 33 = .ok (.aload_n 0, 1) := by decide +kernel
theorem dX6_farthest_34 : decode cX6_farthest 34 = .ok (.getfield 141, 3) := by decide +kernel
theorem dX6_farthest_37 : decode cX6_farthest 37 = .ok (.if_icmp .ge 48, 3) := by decide +kernel
theorem dX6_farthest_40 : decode cX6_farthest 40 = .ok (.aload_n 0, 1) := by decide +kernel
theorem dX6_farthest_41 : decode cX6_farthest 41 = .ok (.iload_n 1, 1) := by decide +kernel
theorem dX6_farthest_42 : decode cX6_farthest 42 = .ok (.iload 5, 2) := by decide +kernel
theorem dX6_farthest_44 : decode cX6_farthest 44 = .ok (.invokevirtual 244, 3) := by decide +kernel
theorem dX6_farthest_47 : decode cX6_farthest 47 = .ok (.istore 6, 2) := by decide +kernel
theorem dX6_farthest_49 : decode cX6_farthest 49 = .ok (.iload 6, 2) := by decide +kernel
theorem dX6_farthest_51 : decode cX6_farthest 51 = .ok (.iload 4, 2) := by decide +kernel
theorem dX6_farthest_53 : decode cX6_farthest 53 = .ok (.if_icmp .le 8, 3) := by decide +kernel
theorem dX6_farthest_56 : decode cX6_farthest 56 = .ok (.iload 5, 2) := by decide +kernel
theorem dX6_farthest_58 : decode cX6_farthest 58 = .ok (.goto 4, 3) := by decide +kernel
theorem dX6_farthest_61 : decode cX6_farthest 61 = .ok (.iload_n 3, 1) := by decide +kernel
theorem dX6_farthest_62 : decode cX6_farthest 62 = .ok (.istore_n 3, 1) := by decide +kernel
theorem dX6_farthest_63 : decode cX6_farthest 63 = .ok (.iload 6, 2) := by decide +kernel
theorem dX6_farthest_65 : decode cX6_farthest 65 = .ok (.iload 4, 2) := by decide +kernel
theorem dX6_farthest_67 : decode cX6_farthest 67 = .ok (.if_icmp .le 8, 3) := by decide +kernel
theorem dX6_farthest_70 : decode cX6_farthest 70 = .ok (.iload 6, 2) := by decide +kernel
theorem dX6_farthest_72 : decode cX6_farthest 72 = .ok (.goto 5, 3) := by decide +kernel
theorem dX6_farthest_75 : decode cX6_farthest 75 = .ok (.iload 4, 2) := by decide +kernel
theorem dX6_farthest_77 : decode cX6_farthest 77 = .ok (.istore 4, 2) := by decide +kernel
theorem dX6_farthest_79 : decode cX6_farthest 79 = .ok (.iinc 5 1, 3) := by decide +kernel
theorem dX6_farthest_82 : decode cX6_farthest 82 = .ok (.goto (-51), 3) := by decide +kernel
theorem dX6_farthest_85 : decode cX6_farthest 85 = .ok (.iload_n 2, 1) := by decide +kernel
theorem dX6_farthest_86 : decode cX6_farthest 86 = .ok (.ifCond .ne 7, 3) := by decide +kernel
theorem dX6_farthest_89 : decode cX6_farthest 89 = .ok (.iload_n 3, 1) := by decide +kernel
theorem dX6_farthest_90 : decode cX6_farthest 90 = .ok (.goto 5, 3) := by decide +kernel
theorem dX6_farthest_93 : decode cX6_farthest 93 = .ok (.iload 4, 2) := by decide +kernel
theorem dX6_farthest_95 : decode cX6_farthest 95 = .ok (.ireturn, 1) := by decide +kernel
set_option maxRecDepth 20000 in
theorem ggX6_keepUp_X6_in : GoodIn wsX6_keepUp wsX6_in := goodIn_r _ [8] (by decide +kernel) (by decide +kernel)
set_option maxRecDepth 20000 in
theorem gX6_keepUp_X6_in : GoodIn wsX6_keepUp (va_wsS RX6 82 yX6_in wsX6_in) := goodIn_app (goodIn_of _ (by decide +kernel)) ggX6_keepUp_X6_in
set_option maxRecDepth 20000 in
theorem ggX6_keepUp_X6_bits : GoodIn wsX6_keepUp wsX6_bits := goodIn_r _ [11] (by decide +kernel) (by decide +kernel)
set_option maxRecDepth 20000 in
theorem gX6_keepUp_X6_bits : GoodIn wsX6_keepUp (va_wsS RX6 211 yX6_bits wsX6_bits) := goodIn_app (goodIn_of _ (by decide +kernel)) ggX6_keepUp_X6_bits
set_option maxRecDepth 20000 in
theorem ggX6_keepUp_X6_copyNow : GoodIn wsX6_keepUp wsX6_copyNow := goodIn_r _ [15, 4, 2, 49, 50, 51, 52, 53, 54, 55, 56, 57, 58, 59, 60, 61, 62, 63, 64, 65, 66, 67, 68, 69, 70, 71, 72, 73, 74, 75, 76, 77, 78, 79, 80, 81, 82, 83, 84, 85, 86] (by decide +kernel) (by decide +kernel)
set_option maxRecDepth 20000 in
theorem gX6_keepUp_X6_copyNow : GoodIn wsX6_keepUp (wsV RX6 235 RX6 yX6_copyNow wsX6_copyNow) := goodIn_app (goodIn_of _ (by decide +kernel)) ggX6_keepUp_X6_copyNow
set_option maxRecDepth 20000 in
theorem ggX6_keepUp_X6_has : GoodIn wsX6_keepUp wsX6_has := goodIn_r _ [18] (by decide +kernel) (by decide +kernel)
set_option maxRecDepth 20000 in
theorem gX6_keepUp_X6_has : GoodIn wsX6_keepUp (va_wsS RX6 162 yX6_has wsX6_has) := goodIn_app (goodIn_of _ (by decide +kernel)) ggX6_keepUp_X6_has
set_option maxRecDepth 20000 in
theorem ggX6_keepUp_X6_passes : GoodIn wsX6_keepUp wsX6_passes := goodIn_r _ [22, 3, 23, 24, 25, 26, 7, 27, 28, 29, 16, 17, 18, 30, 31, 32, 33, 34, 49, 50, 51, 52, 53, 54, 55, 56, 57, 58, 59, 60, 61, 62, 63, 64, 65, 66, 67, 68, 69, 70, 71, 72, 73, 74, 75, 76, 77, 78, 79, 80, 81, 82, 83, 84, 85, 86] (by decide +kernel) (by decide +kernel)
set_option maxRecDepth 20000 in
theorem gX6_keepUp_X6_passes : GoodIn wsX6_keepUp (wsV RX6 207 RX6 yX6_passes wsX6_passes) := goodIn_app (goodIn_of _ (by decide +kernel)) ggX6_keepUp_X6_passes
set_option maxRecDepth 20000 in
theorem ggX6_keepUp_X6_partsOf : GoodIn wsX6_keepUp wsX6_partsOf := goodIn_r _ [38, 39, 16, 17, 7, 18, 40, 41, 42, 43, 44, 45, 46, 47, 3, 48, 49, 50, 51, 52, 53, 54, 55, 56, 57, 58, 59, 60, 61, 62, 63, 64, 65, 66, 67, 68, 69, 70, 71, 72, 73, 74, 75, 76, 77, 78, 79, 80, 81, 82, 83, 84, 85, 86] (by decide +kernel) (by decide +kernel)
set_option maxRecDepth 20000 in
theorem gX6_keepUp_X6_partsOf : GoodIn wsX6_keepUp (wsV RX6 188 RX6 yX6_partsOf wsX6_partsOf) := goodIn_app (goodIn_of _ (by decide +kernel)) ggX6_keepUp_X6_partsOf
theorem dX6_keepUp_0 : decode cX6_keepUp 0 = .ok (.iload_n 1, 1) := by decide +kernel
theorem dX6_keepUp_1 : decode cX6_keepUp 1 = .ok (.iconst 0, 1) := by decide +kernel
theorem dX6_keepUp_2 : decode cX6_keepUp 2 = .ok (.bipush 60, 2) := by decide +kernel
theorem dX6_keepUp_4 : decode cX6_keepUp 4 = .ok (.invokestatic 82, 3) := by decide +kernel
theorem dX6_keepUp_7 : decode cX6_keepUp 7 = .ok (.ifCond .eq 12, 3) := by decide +kernel
theorem dX6_keepUp_10 : decode cX6_keepUp 10 = .ok (.iload_n 2, 1) := by decide +kernel
theorem dX6_keepUp_11 : decode cX6_keepUp 11 = .ok (.iconst 0, 1) := by decide +kernel
theorem dX6_keepUp_12 : decode cX6_keepUp 12 = .ok (.iconst 1, 1) := by decide +kernel
theorem dX6_keepUp_13 : decode cX6_keepUp 13 = .ok (.invokestatic 82, 3) := by decide +kernel
theorem dX6_keepUp_16 : decode cX6_keepUp 16 = .ok (.ifCond .ne 6, 3) := by decide +kernel
theorem dX6_keepUp_19 : decode cX6_keepUp 19 = .ok (.ldc 86, 2) := by decide +kernel
theorem dX6_keepUp_21 : decode cX6_keepUp 21 = .ok (.ireturn, 1) := by decide +kernel
theorem dX6_keepUp_22 : decode cX6_keepUp 22 = .ok (.iconst (-1), 1) := by decide +kernel
theorem dX6_keepUp_23 : decode cX6_keepUp 23 = .ok (.istore_n 3, 1) := by decide +kernel
theorem dX6_keepUp_24 : decode cX6_keepUp 24 = .ok (.aload_n 0, 1) := by decide +kernel
theorem dX6_keepUp_25 : decode cX6_keepUp 25 = .ok (.getfield 47, 3) := by decide +kernel
theorem dX6_keepUp_28 : decode cX6_keepUp 28 = .ok (.iconst 0, 1) := by decide +kernel
theorem dX6_keepUp_29 : decode cX6_keepUp 29 = .ok (.iaload, 1) := by decide +kernel
theorem dX6_keepUp_30 : decode cX6_keepUp 30 = .ok (.istore 4, 2) := by decide +kernel
theorem dX6_keepUp_32 : decode cX6_keepUp 32 = .ok (.iload 4, 2) := by decide +kernel
theorem dX6_keepUp_34 : decode cX6_keepUp 34 = .ok (.ifCond .lt 150, 3) := by decide +kernel
theorem dX6_keepUp_37 : decode cX6_keepUp 37 = .ok (.iload 4, 2) := by decide +kernel
theorem dX6_keepUp_39 : decode cX6_keepUp 39 = .ok (.aload_n 0, 1) := by decide +kernel
theorem dX6_keepUp_40 : decode cX6_keepUp 40 = .ok (.getfield 47, 3) := by decide +kernel
theorem dX6_keepUp_43 : decode cX6_keepUp 43 = .ok (.iconst 0, 1) := by decide +kernel
theorem dX6_keepUp_44 : decode cX6_keepUp 44 = .ok (.iaload, 1) := by decide +kernel
theorem dX6_keepUp_45 : decode cX6_keepUp 45 = .ok (.iconst (-1), 1) := by decide +kernel
theorem dX6_keepUp_46 : decode cX6_keepUp 46 = .ok (.ixor, 1) := by decide +kernel
theorem dX6_keepUp_47 : decode cX6_keepUp 47 = .ok (.iand, 1) := by decide +kernel
theorem dX6_keepUp_48 : decode cX6_keepUp 48 = .ok (.ifCond .ne 130, 3) := by decide +kernel
theorem dX6_keepUp_51 : decode cX6_keepUp 51 = .ok (.iload_n 3, 1) := by decide +kernel
theorem dX6_keepUp_52 : decode cX6_keepUp 52 = .ok (.iconst (-1), 1) := by decide +kernel
theorem dX6_keepUp_53 : decode cX6_keepUp 53 = .ok (.if_icmp .eq 15, 3) := by decide +kernel
theorem dX6_keepUp_56 : decode cX6_keepUp 56 = .ok (.iload 4, 2) := by decide +kernel
theorem dX6_keepUp_58 : decode cX6_keepUp 58 = .ok (.invokestatic 211, 3) := by decide +kernel
theorem dX6_keepUp_61 : decode cX6_keepUp 61 = .ok (.iload_n 3, 1) := by decide +kernel
theorem dX6_keepUp_62 : decode cX6_keepUp 62 = .ok (.invokestatic 211, 3) := by decide +kernel
theorem dX6_keepUp_65 : decode cX6_keepUp 65 = .ok (.if_icmp .gt 113, 3) := by decide +kernel
theorem dX6_keepUp_68 : decode cX6_keepUp 68 = .ok (.aload_n 0, 1) := by decide +kernel
theorem dX6_keepUp_69 : decode cX6_keepUp 69 = .ok (.invokevirtual 235, 3) := by decide +kernel
theorem dX6_keepUp_72 : decode cX6_keepUp 72 = .ok (.iconst 0, 1) := by decide +kernel
theorem dX6_keepUp_73 : decode cX6_keepUp 73 = .ok (.istore 5, 2) := by decide +kernel
theorem dX6_keepUp_75 : decode cX6_keepUp 75 = .ok (.iload 5, 2) := by decide +kernel
theorem dX6_keepUp_77 : decode cX6_keepUp 77 = .ok (.aload_n 0, 1) := by decide +kernel
theorem dX6_keepUp_78 : decode cX6_keepUp 78 = .ok (.getfield 144, 3) := by decide +kernel
theorem dX6_keepUp_81 : decode cX6_keepUp 81 = .ok (.if_icmp .ge 43, 3) := by decide +kernel
theorem dX6_keepUp_84 : decode cX6_keepUp 84 = .ok (.aload_n 0, 1) := by decide +kernel
theorem dX6_keepUp_85 : decode cX6_keepUp 85 = .ok (.getfield 50, 3) := by decide +kernel
theorem dX6_keepUp_88 : decode cX6_keepUp 88 = .ok (.bipush 6, 2) := by decide +kernel
theorem dX6_keepUp_90 : decode cX6_keepUp 90 = .ok (.iload 5, 2) := by decide +kernel
theorem dX6_keepUp_92 : decode cX6_keepUp 92 = .ok (.iadd, 1) := by decide +kernel
theorem dX6_keepUp_93 : decode cX6_keepUp 93 = .ok (.iload 4, 2) := by decide +kernel
theorem dX6_keepUp_95 : decode cX6_keepUp 95 = .ok (.iload 5, 2) := by decide +kernel
theorem dX6_keepUp_97 : decode cX6_keepUp 97 = .ok (.invokestatic 162, 3) := by decide +kernel
theorem dX6_keepUp_100 : decode cX6_keepUp 100 = .ok (.ifCond .eq 7, 3) := by decide +kernel
theorem dX6_keepUp_103 : decode cX6_keepUp 103 = .ok (.iconst 0, 1) := by decide +kernel
theorem dX6_keepUp_104 : decode cX6_keepUp 104 = .ok (.goto 13, 3) := by decide +kernel
theorem dX6_keepUp_107 : decode cX6_keepUp 107 = .ok (.aload_n 0, 1) := by decide +kernel
theorem dX6_keepUp_108 : decode cX6_keepUp 108 = .ok (.getfield 50, 3) := by decide +kernel
theorem dX6_keepUp_111 : decode cX6_keepUp 111 = .ok (.bipush 6, 2) := by decide +kernel
theorem dX6_keepUp_113 : decode cX6_keepUp 113 = .ok (.iload 5, 2) := by decide +kernel
theorem dX6_keepUp_115 : decode cX6_keepUp 115 = .ok (.iadd, 1) := by decide +kernel
theorem dX6_keepUp_116 : decode cX6_keepUp 116 = .ok (.iaload, 1) := by decide +kernel
theorem dX6_keepUp_117 : decode cX6_keepUp 117 = .ok (.iastore, 1) := by decide +kernel
theorem dX6_keepUp_118 : decode cX6_keepUp 118 = .ok (.iinc 5 1, 3) := by decide +kernel
theorem dX6_keepUp_121 : decode cX6_keepUp 121 = .ok (.goto (-46), 3) := by decide +kernel
theorem dX6_keepUp_124 : decode cX6_keepUp 124 = .ok (.iconst 0, 1) := by decide +kernel
theorem dX6_keepUp_125 : decode cX6_keepUp 125 = .ok (.istore 5, 2) := by decide +kernel
theorem dX6_keepUp_127 : decode cX6_keepUp 127 = .ok (.iload 5, 2) := by decide +kernel
theorem dX6_keepUp_129 : decode cX6_keepUp 129 = .ok (.iload_n 1, 1) := by decide +kernel
theorem dX6_keepUp_130 : decode cX6_keepUp 130 = .ok (.if_icmp .ge 18, 3) := by decide +kernel
theorem dX6_keepUp_133 : decode cX6_keepUp 133 = .ok (.aload_n 0, 1) := by decide +kernel
theorem dX6_keepUp_134 : decode cX6_keepUp 134 = .ok (.aload_n 0, 1) := by decide +kernel
theorem dX6_keepUp_135 : decode cX6_keepUp 135 = .ok (.getfield 50, 3) := by decide +kernel
theorem dX6_keepUp_138 : decode cX6_keepUp 138 = .ok (.invokevirtual 207, 3) := by decide +kernel
theorem dX6_keepUp_141 : decode cX6_keepUp 141 = .ok (.pop, 1) := by decide +kernel
theorem dX6_keepUp_142 : decode cX6_keepUp 142 = .ok (.iinc 5 1, 3) := by decide +kernel
theorem dX6_keepUp_145 : decode cX6_keepUp 145 = .ok (.goto (-18), 3) := by decide +kernel
theorem dX6_keepUp_148 : decode cX6_keepUp 148 = .ok (.aload_n 0, 1) := by decide +kernel
theorem dX6_keepUp_149 : decode cX6_keepUp 149 = .ok (.aload_n 0, 1) := by decide +kernel
theorem dX6_keepUp_150 : decode cX6_keepUp 150 = .ok (.getfield 50, 3) := by decide +kernel
theorem dX6_keepUp_153 : decode cX6_keepUp 153 = .ok (.iconst 0, 1) := by decide +kernel
theorem dX6_keepUp_154 : decode cX6_keepUp 154 = .ok (.iaload, 1) := by decide +kernel
theorem dX6_keepUp_155 : decode cX6_keepUp 155 = .ok (.invokevirtual 188, 3) := by decide +kernel
theorem dX6_keepUp_158 : decode cX6_keepUp 158 = .ok (.aload_n 0, 1) := by decide +kernel
theorem dX6_keepUp_159 : decode cX6_keepUp 159 = .ok (.aload_n 0, 1) := by decide +kernel
theorem dX6_keepUp_160 : decode cX6_keepUp 160 = .ok (.getfield 47, 3) := by decide +kernel
theorem dX6_keepUp_163 : decode cX6_keepUp 163 = .ok (.iconst 0, 1) := by decide +kernel
theorem dX6_keepUp_164 : decode cX6_keepUp 164 = .ok (.iaload, 1) := by decide +kernel
theorem dX6_keepUp_165 : decode cX6_keepUp 165 = .ok (.invokevirtual 188, 3) := by decide +kernel
theorem dX6_keepUp_168 : decode cX6_keepUp 168 = .ok (.if_icmp .gt 8, 3) := by decide +kernel
theorem dX6_keepUp_171 : decode cX6_keepUp 171 = .ok (.iload 4, 2) := by decide +kernel
theorem dX6_keepUp_173 : decode cX6_keepUp 173 = .ok (.goto 4, 3) := by decide +kernel
theorem dX6_keepUp_176 : decode cX6_keepUp 176 = .ok (.iload_n 3, 1) := by decide +kernel
theorem dX6_keepUp_177 : decode cX6_keepUp 177 = .ok (.istore_n 3, 1) := by decide +kernel
theorem dX6_keepUp_178 : decode cX6_keepUp 178 = .ok (.iinc 4 (-1), 3) := by decide +kernel
theorem dX6_keepUp_181 : decode cX6_keepUp 181 = .ok (.goto (-149), 3) := by decide +kernel
theorem dX6_keepUp_184 : decode cX6_keepUp 184 = .ok (.iload_n 3, 1) := by decide +kernel
theorem dX6_keepUp_185 : decode cX6_keepUp 185 = .ok (.iconst (-1), 1) := by decide +kernel
theorem dX6_keepUp_186 : decode cX6_keepUp 186 = .ok (.if_icmp .ne 7, 3) := by decide +kernel
theorem dX6_keepUp_189 : decode cX6_keepUp 189 = .ok (.iconst (-1), 1) := by decide +kernel
theorem dX6_keepUp_190 : decode cX6_keepUp 190 = .ok (.goto 15, 3) := by decide +kernel
theorem dX6_keepUp_193 : decode cX6_keepUp 193 = .ok (.iload_n 2, 1) := by decide +kernel
theorem dX6_keepUp_194 : decode cX6_keepUp 194 = .ok (.ifCond .ne 10, 3) := by decide +kernel
theorem dX6_keepUp_197 : decode cX6_keepUp 197 = .ok (.iload_n 3, 1) := by decide +kernel
theorem dX6_keepUp_198 : decode cX6_keepUp 198 = .ok (.invokestatic 211, 3) := by decide +kernel
theorem dX6_keepUp_201 : decode cX6_keepUp 201 = .ok (.goto 4, 3) := by decide +kernel
theorem dX6_keepUp_204 : decode cX6_keepUp 204 = .ok (.iload_n 3, 1) := by decide +kernel
theorem dX6_keepUp_205 : decode cX6_keepUp 205 = .ok (.ireturn, 1) := by decide +kernel
set_option maxRecDepth 20000 in
theorem ggX6_agree_X6_in : GoodIn wsX6_agree wsX6_in := goodIn_r _ [7] (by decide +kernel) (by decide +kernel)
set_option maxRecDepth 20000 in
theorem gX6_agree_X6_in : GoodIn wsX6_agree (va_wsS RX6 82 yX6_in wsX6_in) := goodIn_app (goodIn_of _ (by decide +kernel)) ggX6_agree_X6_in
set_option maxRecDepth 20000 in
theorem ggX6_agree_X6_clashesBy : GoodIn wsX6_agree wsX6_clashesBy := goodIn_r _ [11, 12, 13, 14, 15, 16, 6, 17, 18, 19, 20, 21, 22, 26, 27, 28, 29, 30, 31, 32, 33, 34, 35, 36, 37, 38, 39, 40, 41, 42, 43, 44, 45, 46, 47, 48, 49, 50, 51, 52, 53, 54, 55, 56, 57, 58, 59, 60, 61, 62, 63] (by decide +kernel) (by decide +kernel)
set_option maxRecDepth 20000 in
theorem gX6_agree_X6_clashesBy : GoodIn wsX6_agree (wsV RX6 194 RX6 yX6_clashesBy wsX6_clashesBy) := goodIn_app (goodIn_of _ (by decide +kernel)) ggX6_agree_X6_clashesBy
set_option maxRecDepth 20000 in
theorem ggX6_agree_X6_bits : GoodIn wsX6_agree wsX6_bits := goodIn_r _ [25] (by decide +kernel) (by decide +kernel)
set_option maxRecDepth 20000 in
theorem gX6_agree_X6_bits : GoodIn wsX6_agree (va_wsS RX6 211 yX6_bits wsX6_bits) := goodIn_app (goodIn_of _ (by decide +kernel)) ggX6_agree_X6_bits
theorem dX6_agree_0 : decode cX6_agree 0 = .ok (.iload_n 1, 1) := by decide +kernel
theorem dX6_agree_1 : decode cX6_agree 1 = .ok (.iconst 0, 1) := by decide +kernel
theorem dX6_agree_2 : decode cX6_agree 2 = .ok (.iconst 1, 1) := by decide +kernel
theorem dX6_agree_3 : decode cX6_agree 3 = .ok (.invokestatic 82, 3) := by decide +kernel
theorem dX6_agree_6 : decode cX6_agree 6 = .ok (.ifCond .ne 6, 3) := by decide +kernel
theorem dX6_agree_9 : decode cX6_agree 9 = .ok (.ldc 86, 2) := by decide +kernel
theorem dX6_agree_11 : decode cX6_agree 11 = .ok (.ireturn, 1) := by decide +kernel
theorem dX6_agree_12 : decode cX6_agree 12 = .ok (.iconst (-1), 1) := by decide +kernel
theorem dX6_agree_13 : decode cX6_agree 13 = .ok (.istore_n 2, 1) := by decide +kernel
theorem dX6_agree_14 : decode cX6_agree 14 = .ok (.ldc 247, 2) := by decide +kernel
theorem dX6_agree_16 : decode cX6_agree 16 = .ok (.istore_n 3, 1) := by decide +kernel
theorem dX6_agree_17 : decode cX6_agree 17 = .ok (.iconst 0, 1) := by decide +kernel
theorem dX6_agree_18 : decode cX6_agree 18 = .ok (.istore 4, 2) := by decide +kernel
theorem dX6_agree_20 : decode cX6_agree 20 = .ok (.iload 4, 2) := by decide +kernel
theorem dX6_agree_22 : decode cX6_agree 22 = .ok (.aload_n 0, 1) := by decide +kernel
theorem dX6_agree_23 : decode cX6_agree 23 = .ok (.getfield 47, 3) := by decide +kernel
theorem dX6_agree_26 : decode cX6_agree 26 = .ok (.iconst 0, 1) := by decide +kernel
theorem dX6_agree_27 : decode cX6_agree 27 = .ok (.iaload, 1) := by decide +kernel
theorem dX6_agree_28 : decode cX6_agree 28 = .ok (.if_icmp .gt 102, 3) := by decide +kernel
theorem dX6_agree_31 : decode cX6_agree 31 = .ok (.iload 4, 2) := by decide +kernel
theorem dX6_agree_33 : decode cX6_agree 33 = .ok (.aload_n 0, 1) := by decide +kernel
theorem dX6_agree_34 : decode cX6_agree 34 = .ok (.getfield 47, 3) := by decide +kernel
theorem dX6_agree_37 : decode cX6_agree 37 = .ok (.iconst 0, 1) := by decide +kernel
theorem dX6_agree_38 : decode cX6_agree 38 = .ok (.iaload, 1) := by decide +kernel
theorem dX6_agree_39 : decode cX6_agree 39 = .ok (.iconst (-1), 1) := by decide +kernel
theorem dX6_agree_40 : decode cX6_agree 40 = .ok (.ixor, 1) := by decide +kernel
theorem dX6_agree_41 : decode cX6_agree 41 = .ok (.iand, 1) := by decide +kernel
theorem dX6_agree_42 : decode cX6_agree 42 = .ok (.ifCond .ne 82, 3) := by decide +kernel
theorem dX6_agree_45 : decode cX6_agree 45 = .ok (.aload_n 0, 1) := by decide +kernel
theorem dX6_agree_46 : decode cX6_agree 46 = .ok (.aload_n 0, 1) := by decide +kernel
theorem dX6_agree_47 : decode cX6_agree 47 = .ok (.getfield 47, 3) := by decide +kernel
theorem dX6_agree_50 : decode cX6_agree 50 = .ok (.iconst 0, 1) := by decide +kernel
theorem dX6_agree_51 : decode cX6_agree 51 = .ok (.iaload, 1) := by decide +kernel
theorem dX6_agree_52 : decode cX6_agree 52 = .ok (.aload_n 0, 1) := by decide +kernel
theorem dX6_agree_53 : decode cX6_agree 53 = .ok (.getfield 47, 3) := by decide +kernel
theorem dX6_agree_56 : decode cX6_agree 56 = .ok (.iconst 1, 1) := by decide +kernel
theorem dX6_agree_57 : decode cX6_agree 57 = .ok (.iaload, 1) := by decide +kernel
theorem dX6_agree_58 : decode cX6_agree 58 = .ok (.iload 4, 2) := by decide +kernel
theorem dX6_agree_60 : decode cX6_agree 60 = .ok (.ixor, 1) := by decide +kernel
theorem dX6_agree_61 : decode cX6_agree 61 = .ok (.invokevirtual 194, 3) := by decide +kernel
theorem dX6_agree_64 : decode cX6_agree 64 = .ok (.invokestatic 211, 3) := by decide +kernel
theorem dX6_agree_67 : decode cX6_agree 67 = .ok (.istore 5, 2) := by decide +kernel
theorem dX6_agree_69 : decode cX6_agree 69 = .ok (.iload 5, 2) := by decide +kernel
theorem dX6_agree_71 : decode cX6_agree 71 = .ok (.iload_n 3, 1) := by decide +kernel
theorem dX6_agree_72 : decode cX6_agree 72 = .ok (.if_icmp .lt 21, 3) := by decide +kernel
theorem dX6_agree_75 : decode cX6_agree 75 = .ok (.iload 5, 2) := by decide +kernel
theorem dX6_agree_77 : decode cX6_agree 77 = .ok (.iload_n 3, 1) := by decide +kernel
theorem dX6_agree_78 : decode cX6_agree 78 = .ok (.if_icmp .ne 19, 3) := by decide +kernel
theorem dX6_agree_81 : decode cX6_agree 81 = .ok (.iload 4, 2) := by decide +kernel
theorem dX6_agree_83 : decode cX6_agree 83 = .ok (.invokestatic 211, 3) := by decide +kernel
theorem dX6_agree_86 : decode cX6_agree 86 = .ok (.iload_n 2, 1) := by decide +kernel
theorem dX6_agree_87 : decode cX6_agree 87 = .ok (.invokestatic 211, 3) := by decide +kernel
theorem dX6_agree_90 : decode cX6_agree 90 = .ok (.if_icmp .ge 7, 3) := by decide +kernel
theorem dX6_agree_93 : decode cX6_agree 93 = .ok (.iconst 1, 1) := by decide +kernel
theorem dX6_agree_94 : decode cX6_agree 94 = .ok (.goto 4, 3) := by decide +kernel
theorem dX6_agree_97 : decode cX6_agree 97 = .ok (.iconst 0, 1) := by decide +kernel
theorem dX6_agree_98 : decode cX6_agree 98 = .ok (.istore 6, 2) := by decide +kernel
theorem dX6_agree_100 : decode cX6_agree 100 = .ok (.iload 6, 2) := by decide +kernel
theorem dX6_agree_102 : decode cX6_agree 102 = .ok (.ifCond .eq 8, 3) := by decide +kernel
theorem dX6_agree_105 : decode cX6_agree 105 = .ok (.iload 4, 2) := by decide +kernel
theorem dX6_agree_107 : decode cX6_agree 107 = .ok (.goto 4, 3) := by decide +kernel
theorem dX6_agree_110 : decode cX6_agree 110 = .ok (.iload_n 2, 1) := by decide +kernel
theorem dX6_agree_111 : decode cX6_agree 111 = .ok (.istore_n 2, 1) := by decide +kernel
theorem dX6_agree_112 : decode cX6_agree 112 = .ok (.iload 6, 2) := by decide +kernel
theorem dX6_agree_114 : decode cX6_agree 114 = .ok (.ifCond .eq 8, 3) := by decide +kernel
theorem dX6_agree_117 : decode cX6_agree 117 = .ok (.iload 5, 2) := by decide +kernel
theorem dX6_agree_119 : decode cX6_agree 119 = .ok (.goto 4, 3) := by decide +kernel
theorem dX6_agree_122 : decode cX6_agree 122 = .ok (.iload_n 3, 1) := by decide +kernel
theorem dX6_agree_123 : decode cX6_agree 123 = .ok (.istore_n 3, 1) := by decide +kernel
theorem dX6_agree_124 : decode cX6_agree 124 = .ok (.iinc 4 1, 3) := by decide +kernel
theorem dX6_agree_127 : decode cX6_agree 127 = .ok (.goto (-107), 3) := by decide +kernel
theorem dX6_agree_130 : decode cX6_agree 130 = .ok (.iload_n 1, 1) := by decide +kernel
theorem dX6_agree_131 : decode cX6_agree 131 = .ok (.ifCond .ne 7, 3) := by decide +kernel
theorem dX6_agree_134 : decode cX6_agree 134 = .ok (.iload_n 3, 1) := by decide +kernel
theorem dX6_agree_135 : decode cX6_agree 135 = .ok (.goto 4, 3) := by decide +kernel
theorem dX6_agree_138 : decode cX6_agree 138 = .ok (.iload_n 2, 1) := by decide +kernel
theorem dX6_agree_139 : decode cX6_agree 139 = .ok (.ireturn, 1) := by decide +kernel
set_option maxRecDepth 20000 in
theorem ggX6_others_X6_onward : GoodIn wsX6_others wsX6_onward := goodIn_r _ [6, 7, 8, 9, 10, 5, 11, 12, 13, 14, 15, 16, 17, 18, 19, 20, 21, 22, 23, 24, 25, 26, 27, 28, 29, 30, 31, 32, 33, 34, 35, 36, 37, 38, 39, 40, 41, 42, 43, 44, 45, 46, 47, 48, 49] (by decide +kernel) (by decide +kernel)
set_option maxRecDepth 20000 in
theorem gX6_others_X6_onward : GoodIn wsX6_others (wsV RX6 182 RX6 yX6_onward wsX6_onward) := goodIn_app (goodIn_of _ (by decide +kernel)) ggX6_others_X6_onward
theorem dX6_others_0 : decode cX6_others 0 = .ok (.aload_n 0, 1) := by decide +kernel
theorem dX6_others_1 : decode cX6_others 1 = .ok (.iconst 1, 1) := by decide +kernel
theorem dX6_others_2 : decode cX6_others 2 = .ok (.iload_n 1, 1) := by decide +kernel
theorem dX6_others_3 : decode cX6_others 3 = .ok (.ishl, 1) := by decide +kernel
theorem dX6_others_4 : decode cX6_others 4 = .ok (.aload_n 0, 1) := by decide +kernel
theorem dX6_others_5 : decode cX6_others 5 = .ok (.getfield 47, 3) := by decide +kernel
theorem dX6_others_8 : decode cX6_others 8 = .ok (.iconst 0, 1) := by decide +kernel
theorem dX6_others_9 : decode cX6_others 9 = .ok (.iaload, 1) := by decide +kernel
theorem dX6_others_10 : decode cX6_others 10 = .ok (.invokevirtual 182, 3) := by decide +kernel
theorem dX6_others_13 : decode cX6_others 13 = .ok (.iconst 1, 1) := by decide +kernel
theorem dX6_others_14 : decode cX6_others 14 = .ok (.iload_n 1, 1) := by decide +kernel
theorem dX6_others_15 : decode cX6_others 15 = .ok (.ishl, 1) := by decide +kernel
theorem dX6_others_16 : decode cX6_others 16 = .ok (.iconst (-1), 1) := by decide +kernel
theorem dX6_others_17 : decode cX6_others 17 = .ok (.ixor, 1) := by decide +kernel
theorem dX6_others_18 : decode cX6_others 18 = .ok (.iand, 1) := by decide +kernel
theorem dX6_others_19 : decode cX6_others 19 = .ok (.ireturn, 1) := by decide +kernel
set_option maxRecDepth 20000 in
theorem ggX6_fold_X6_others : GoodIn wsX6_fold wsX6_others := goodIn_r _ [6, 7, 8, 9, 10, 5, 11, 12, 13, 14, 15, 16, 17, 18, 19, 20, 21, 22, 23, 24, 25, 26, 27, 28, 29, 30, 31, 32, 33, 34, 35, 36, 37, 38, 39, 40, 41, 42, 43, 44, 45, 46, 47, 48, 49, 50, 51, 52, 53, 54] (by decide +kernel) (by decide +kernel)
set_option maxRecDepth 20000 in
theorem gX6_fold_X6_others : GoodIn wsX6_fold (wsV RX6 248 RX6 yX6_others wsX6_others) := goodIn_app (goodIn_of _ (by decide +kernel)) ggX6_fold_X6_others
theorem dX6_fold_0 : decode cX6_fold 0 = .ok (.iconst 0, 1) := by decide +kernel
theorem dX6_fold_1 : decode cX6_fold 1 = .ok (.istore_n 2, 1) := by decide +kernel
theorem dX6_fold_2 : decode cX6_fold 2 = .ok (.iconst 0, 1) := by decide +kernel
theorem dX6_fold_3 : decode cX6_fold 3 = .ok (.istore_n 3, 1) := by decide +kernel
theorem dX6_fold_4 : decode cX6_fold 4 = .ok (.iload_n 3, 1) := by decide +kernel
theorem dX6_fold_5 : decode cX6_fold 5 = .ok (.aload_n 0, 1) := by decide +kernel
theorem dX6_fold_6 : decode cX6_fold 6 = .ok (.getfield 141, 3) := by decide +kernel
theorem dX6_fold_9 : decode cX6_fold 9 = .ok (.if_icmp .ge 81, 3) := by decide +kernel
theorem dX6_fold_12 : decode cX6_fold 12 = .ok (.iload_n 3, 1) := by decide +kernel
theorem dX6_fold_13 : decode cX6_fold 13 = .ok (.iconst 1, 1) := by decide +kernel
theorem dX6_fold_14 : decode cX6_fold 14 = .ok (.iadd, 1) := by decide +kernel
theorem dX6_fold_15 : decode cX6_fold 15 = .ok (.istore 4, 2) := by decide +kernel
theorem dX6_fold_17 : decode cX6_fold 17 = .ok (.iload 4, 2) := by decide +kernel
theorem dX6_fold_19 : decode cX6_fold 19 = .ok (.aload_n 0, 1) := by decide +kernel
theorem dX6_fold_20 : decode cX6_fold 20 = .ok (.getfield 141, 3) := by decide +kernel
theorem dX6_fold_23 : decode cX6_fold 23 = .ok (.if_icmp .ge 61, 3) := by decide +kernel
theorem dX6_fold_26 : decode cX6_fold 26 = .ok (.aload_n 0, 1) := by decide +kernel
theorem dX6_fold_27 : decode cX6_fold 27 = .ok (.iload_n 3, 1) := by decide +kernel
theorem dX6_fold_28 : decode cX6_fold 28 = .ok (.invokevirtual 248, 3) := by decide +kernel
theorem dX6_fold_31 : decode cX6_fold 31 = .ok (.iconst 1, 1) := by decide +kernel
theorem dX6_fold_32 : decode cX6_fold 32 = .ok (.iload 4, 2) := by decide +kernel
theorem dX6_fold_34 : decode cX6_fold 34 = .ok (.ishl, 1) := by decide +kernel
theorem dX6_fold_35 : decode cX6_fold 35 = .ok (.iconst (-1), 1) := by decide +kernel
theorem dX6_fold_36 : decode cX6_fold 36 = .ok (.ixor, 1) := by decide +kernel
theorem dX6_fold_37 : decode cX6_fold 37 = .ok (.iand, 1) := by decide +kernel
theorem dX6_fold_38 : decode cX6_fold 38 = .ok (.istore 5, 2) := by decide +kernel
theorem dX6_fold_40 : decode cX6_fold 40 = .ok (.iload 5, 2) := by decide +kernel
theorem dX6_fold_42 : decode cX6_fold 42 = .ok (.ifCond .eq 36, 3) := by decide +kernel
theorem dX6_fold_45 : decode cX6_fold 45 = .ok (.iload 5, 2) := by decide +kernel
theorem dX6_fold_47 : decode cX6_fold 47 = .ok (.aload_n 0, 1) := by decide +kernel
theorem dX6_fold_48 : decode cX6_fold 48 = .ok (.iload 4, 2) := by decide +kernel
theorem dX6_fold_50 : decode cX6_fold 50 = .ok (.invokevirtual 248, 3) := by decide +kernel
theorem dX6_fold_53 : decode cX6_fold 53 = .ok (.iconst 1, 1) := by decide +kernel
theorem dX6_fold_54 : decode cX6_fold 54 = .ok (.iload_n 3, 1) := by decide +kernel
theorem dX6_fold_55 : decode cX6_fold 55 = .ok (.ishl, 1) := by decide +kernel
theorem dX6_fold_56 : decode cX6_fold 56 = .ok (.iconst (-1), 1) := by decide +kernel
theorem dX6_fold_57 : decode cX6_fold 57 = .ok (.ixor, 1) := by decide +kernel
theorem dX6_fold_58 : decode cX6_fold 58 = .ok (.iand, 1) := by decide +kernel
theorem dX6_fold_59 : decode cX6_fold 59 = .ok (.if_icmp .ne 19, 3) := by decide +kernel
theorem dX6_fold_62 : decode cX6_fold 62 = .ok (.iload_n 2, 1) := by decide +kernel
theorem dX6_fold_63 : decode cX6_fold 63 = .ok (.iload_n 1, 1) := by decide +kernel
theorem dX6_fold_64 : decode cX6_fold 64 = .ok (.if_icmp .ne 11, 3) := by decide +kernel
theorem dX6_fold_67 : decode cX6_fold 67 = .ok (.bipush 10, 2) := by decide +kernel
theorem dX6_fold_69 : decode cX6_fold 69 = .ok (.iload_n 3, 1) := by decide +kernel
theorem dX6_fold_70 : decode cX6_fold 70 = .ok (.imul, 1) := by decide +kernel
theorem dX6_fold_71 : decode cX6_fold 71 = .ok (.iload 4, 2) := by decide +kernel
theorem dX6_fold_73 : decode cX6_fold 73 = .ok (.iadd, 1) := by decide +kernel
theorem dX6_fold_74 : decode cX6_fold 74 = .ok (.ireturn, 1) := by decide +kernel
theorem dX6_fold_75 : decode cX6_fold 75 = .ok (.iinc 2 1, 3) := by decide +kernel
theorem dX6_fold_78 : decode cX6_fold 78 = .ok (.iinc 4 1, 3) := by decide +kernel
theorem dX6_fold_81 : decode cX6_fold 81 = .ok (.goto (-64), 3) := by decide +kernel
theorem dX6_fold_84 : decode cX6_fold 84 = .ok (.iinc 3 1, 3) := by decide +kernel
theorem dX6_fold_87 : decode cX6_fold 87 = .ok (.goto (-83), 3) := by decide +kernel
theorem dX6_fold_90 : decode cX6_fold 90 = .ok (.iload_n 1, 1) := by decide +kernel
theorem dX6_fold_91 : decode cX6_fold 91 = .ok (.iconst (-1), 1) := by decide +kernel
theorem dX6_fold_92 : decode cX6_fold 92 = .ok (.if_icmp .ne 7, 3) := by decide +kernel
theorem dX6_fold_95 : decode cX6_fold 95 = .ok (.iload_n 2, 1) := by decide +kernel
theorem dX6_fold_96 : decode cX6_fold 96 = .ok (.goto 4, 3) := by decide +kernel
theorem dX6_fold_99 : decode cX6_fold 99 = .ok (.iconst (-1), 1) := by decide +kernel
theorem dX6_fold_100 : decode cX6_fold 100 = .ok (.ireturn, 1) := by decide +kernel
set_option maxRecDepth 20000 in
theorem ggX6_share_X6_in : GoodIn wsX6_share wsX6_in := goodIn_r _ [7] (by decide +kernel) (by decide +kernel)
set_option maxRecDepth 20000 in
theorem gX6_share_X6_in : GoodIn wsX6_share (va_wsS RX6 82 yX6_in wsX6_in) := goodIn_app (goodIn_of _ (by decide +kernel)) ggX6_share_X6_in
set_option maxRecDepth 20000 in
theorem ggX6_share_X6_has : GoodIn wsX6_share wsX6_has := goodIn_r _ [10] (by decide +kernel) (by decide +kernel)
set_option maxRecDepth 20000 in
theorem gX6_share_X6_has : GoodIn wsX6_share (va_wsS RX6 162 yX6_has wsX6_has) := goodIn_app (goodIn_of _ (by decide +kernel)) ggX6_share_X6_has
theorem dX6_share_0 : decode cX6_share 0 = .ok (.iload_n 1, 1) := by decide +kernel
theorem dX6_share_1 : decode cX6_share 1 = .ok (.iconst 0, 1) := by decide +kernel
theorem dX6_share_2 : decode cX6_share 2 = .ok (.bipush 99, 2) := by decide +kernel
theorem dX6_share_4 : decode cX6_share 4 = .ok (.invokestatic 82, 3) := by decide +kernel
theorem dX6_share_7 : decode cX6_share 7 = .ok (.ifCond .eq 12, 3) := by decide +kernel
theorem dX6_share_10 : decode cX6_share 10 = .ok (.iload_n 2, 1) := by decide +kernel
theorem dX6_share_11 : decode cX6_share 11 = .ok (.iconst 0, 1) := by decide +kernel
theorem dX6_share_12 : decode cX6_share 12 = .ok (.iconst 1, 1) := by decide +kernel
theorem dX6_share_13 : decode cX6_share 13 = .ok (.invokestatic 82, 3) := by decide +kernel
theorem dX6_share_16 : decode cX6_share 16 = .ok (.ifCond .ne 6, 3) := by decide +kernel
theorem dX6_share_19 : decode cX6_share 19 = .ok (.ldc 86, 2) := by decide +kernel
theorem dX6_share_21 : decode cX6_share 21 = .ok (.ireturn, 1) := by decide +kernel
theorem dX6_share_22 : decode cX6_share 22 = .ok (.iload_n 1, 1) := by decide +kernel
theorem dX6_share_23 : decode cX6_share 23 = .ok (.istore_n 3, 1) := by decide +kernel
theorem dX6_share_24 : decode cX6_share 24 = .ok (.iconst 0, 1) := by decide +kernel
theorem dX6_share_25 : decode cX6_share 25 = .ok (.istore 4, 2) := by decide +kernel
theorem dX6_share_27 : decode cX6_share 27 = .ok (.iconst 0, 1) := by decide +kernel
theorem dX6_share_28 : decode cX6_share 28 = .ok (.istore 5, 2) := by decide +kernel
theorem dX6_share_30 : decode cX6_share 30 = .ok (.iload 5, 2) := by decide +kernel
theorem dX6_share_32 : decode cX6_share 32 = .ok (.aload_n 0, 1) := by decide +kernel
theorem dX6_share_33 : decode cX6_share 33 = .ok (.getfield 144, 3) := by decide +kernel
theorem dX6_share_36 : decode cX6_share 36 = .ok (.if_icmp .ge 126, 3) := by decide +kernel
theorem dX6_share_39 : decode cX6_share 39 = .ok (.iload_n 3, 1) := by decide +kernel
theorem dX6_share_40 : decode cX6_share 40 = .ok (.ifCond .le 122, 3) := by decide +kernel
theorem dX6_share_43 : decode cX6_share 43 = .ok (.iconst (-1), 1) := by decide +kernel
theorem dX6_share_44 : decode cX6_share 44 = .ok (.istore 6, 2) := by decide +kernel
theorem dX6_share_46 : decode cX6_share 46 = .ok (.iconst 0, 1) := by decide +kernel
theorem dX6_share_47 : decode cX6_share 47 = .ok (.istore 7, 2) := by decide +kernel
theorem dX6_share_49 : decode cX6_share 49 = .ok (.iload 7, 2) := by decide +kernel
theorem dX6_share_51 : decode cX6_share 51 = .ok (.aload_n 0, 1) := by decide +kernel
theorem dX6_share_52 : decode cX6_share 52 = .ok (.getfield 144, 3) := by decide +kernel
theorem dX6_share_55 : decode cX6_share 55 = .ok (.if_icmp .ge 83, 3) := by decide +kernel
theorem dX6_share_58 : decode cX6_share 58 = .ok (.aload_n 0, 1) := by decide +kernel
theorem dX6_share_59 : decode cX6_share 59 = .ok (.getfield 47, 3) := by decide +kernel
theorem dX6_share_62 : decode cX6_share 62 = .ok (.iconst 0, 1) := by decide +kernel
theorem dX6_share_63 : decode cX6_share 63 = .ok (.iaload, 1) := by decide +kernel
theorem dX6_share_64 : decode cX6_share 64 = .ok (.iload 7, 2) := by decide +kernel
theorem dX6_share_66 : decode cX6_share 66 = .ok (.invokestatic 162, 3) := by decide +kernel
theorem dX6_share_69 : decode cX6_share 69 = .ok (.ifCond .eq 17, 3) := by decide +kernel
theorem dX6_share_72 : decode cX6_share 72 = .ok (.iload 4, 2) := by decide +kernel
theorem dX6_share_74 : decode cX6_share 74 = .ok (.iload 7, 2) := by decide +kernel
theorem dX6_share_76 : decode cX6_share 76 = .ok (.invokestatic 162, 3) := by decide +kernel
theorem dX6_share_79 : decode cX6_share 79 = .ok (.ifCond .ne 7, 3) := by decide +kernel
theorem dX6_share_82 : decode cX6_share 82 = .ok (.iconst 1, 1) := by decide +kernel
theorem dX6_share_83 : decode cX6_share 83 = .ok (.goto 4, 3) := by decide +kernel
theorem dX6_share_86 : decode cX6_share 86 = .ok (.iconst 0, 1) := by decide +kernel
theorem dX6_share_87 : decode cX6_share 87 = .ok (.istore 8, 2) := by decide +kernel
theorem dX6_share_89 : decode cX6_share 89 = .ok (.iload 8, 2) := by decide +kernel
theorem dX6_share_91 : decode cX6_share 91 = .ok (.ifCond .eq 37, 3) := by decide +kernel
theorem dX6_share_94 : decode cX6_share 94 = .ok (.iload 6, 2) := by decide +kernel
theorem dX6_share_96 : decode cX6_share 96 = .ok (.iconst (-1), 1) := by decide +kernel
theorem dX6_share_97 : decode cX6_share 97 = .ok (.if_icmp .eq 26, 3) := by decide +kernel
theorem dX6_share_100 : decode cX6_share 100 = .ok (.aload_n 0, 1) := by decide +kernel
theorem dX6_share_101 : decode cX6_share 101 = .ok (.getfield 47, 3) := by decide +kernel
theorem dX6_share_104 : decode cX6_share 104 = .ok (.bipush 6, 2) := by decide +kernel
theorem dX6_share_106 : decode cX6_share 106 = .ok (.iload 7, 2) := by decide +kernel
theorem dX6_share_108 : decode cX6_share 108 = .ok (.iadd, 1) := by decide +kernel
theorem dX6_share_109 : decode cX6_share 109 = .ok (.iaload, 1) := by decide +kernel
theorem dX6_share_110 : decode cX6_share 110 = .ok (.aload_n 0, 1) := by decide +kernel
theorem dX6_share_111 : decode cX6_share 111 = .ok (.getfield 47, 3) := by decide +kernel
theorem dX6_share_114 : decode cX6_share 114 = .ok (.bipush 6, 2) := by decide +kernel
theorem dX6_share_116 : decode cX6_share 116 = .ok (.iload 6, 2) := by decide +kernel
theorem dX6_share_118 : decode cX6_share 118 = .ok (.iadd, 1) := by decide +kernel
theorem dX6_share_119 : decode cX6_share 119 = .ok (.iaload, 1) := by decide +kernel
theorem dX6_share_120 : decode cX6_share 120 = .ok (.if_icmp .le 8, 3) := by decide +kernel
theorem dX6_share_123 : decode cX6_share 123 = .ok (.iload 7, 2) := by decide +kernel
theorem dX6_share_125 : decode cX6_share 125 = .ok (.goto 5, 3) := by decide +kernel
theorem dX6_share_128 : decode cX6_share 128 = .ok (.iload 6, 2) := by decide +kernel
theorem dX6_share_130 : decode cX6_share 130 = .ok (.istore 6, 2) := by decide +kernel
theorem dX6_share_132 : decode cX6_share 132 = .ok (.iinc 7 1, 3) := by decide +kernel
theorem dX6_share_135 : decode cX6_share 135 = .ok (.goto (-86), 3) := by decide +kernel
theorem dX6_share_138 : decode cX6_share 138 = .ok (.iload 6, 2) := by decide +kernel
theorem dX6_share_140 : decode cX6_share 140 = .ok (.iconst (-1), 1) := by decide +kernel
theorem dX6_share_141 : decode cX6_share 141 = .ok (.if_icmp .eq 15, 3) := by decide +kernel
theorem dX6_share_144 : decode cX6_share 144 = .ok (.iload 4, 2) := by decide +kernel
theorem dX6_share_146 : decode cX6_share 146 = .ok (.iconst 1, 1) := by decide +kernel
theorem dX6_share_147 : decode cX6_share 147 = .ok (.iload 6, 2) := by decide +kernel
theorem dX6_share_149 : decode cX6_share 149 = .ok (.ishl, 1) := by decide +kernel
theorem dX6_share_150 : decode cX6_share 150 = .ok (.ior, 1) := by decide +kernel
theorem dX6_share_151 : decode cX6_share 151 = .ok (.istore 4, 2) := by decide +kernel
theorem dX6_share_153 : decode cX6_share 153 = .ok (.iinc 3 (-1), 3) := by decide +kernel
theorem dX6_share_156 : decode cX6_share 156 = .ok (.iinc 5 1, 3) := by decide +kernel
theorem dX6_share_159 : decode cX6_share 159 = .ok (.goto (-129), 3) := by decide +kernel
theorem dX6_share_162 : decode cX6_share 162 = .ok (.iload_n 2, 1) := by decide +kernel
theorem dX6_share_163 : decode cX6_share 163 = .ok (.ifCond .ne 7, 3) := by decide +kernel
theorem dX6_share_166 : decode cX6_share 166 = .ok (.iload_n 3, 1) := by decide +kernel
theorem dX6_share_167 : decode cX6_share 167 = .ok (.goto 5, 3) := by decide +kernel
theorem dX6_share_170 : decode cX6_share 170 = .ok (.iload 4, 2) := by decide +kernel
theorem dX6_share_172 : decode cX6_share 172 = .ok (.ireturn, 1) := by decide +kernel
set_option maxRecDepth 20000 in
theorem ggX6_calm_X6_in : GoodIn wsX6_calm wsX6_in := goodIn_r _ [7] (by decide +kernel) (by decide +kernel)
set_option maxRecDepth 20000 in
theorem gX6_calm_X6_in : GoodIn wsX6_calm (va_wsS RX6 82 yX6_in wsX6_in) := goodIn_app (goodIn_of _ (by decide +kernel)) ggX6_calm_X6_in
theorem dX6_calm_0 : decode cX6_calm 0 = .ok (.iload_n 1, 1) := by decide +kernel
theorem dX6_calm_1 : decode cX6_calm 1 = .ok (.iconst 0, 1) := by decide +kernel
theorem dX6_calm_2 : decode cX6_calm 2 = .ok (.bipush 60, 2) := by decide +kernel
theorem dX6_calm_4 : decode cX6_calm 4 = .ok (.invokestatic 82, 3) := by decide +kernel
theorem dX6_calm_7 : decode cX6_calm 7 = .ok (.ifCond .eq 13, 3) := by decide +kernel
theorem dX6_calm_10 : decode cX6_calm 10 = .ok (.iload_n 2, 1) := by decide +kernel
theorem dX6_calm_11 : decode cX6_calm 11 = .ok (.iconst 0, 1) := by decide +kernel
theorem dX6_calm_12 : decode cX6_calm 12 = .ok (.bipush 100, 2) := by decide +kernel
theorem dX6_calm_14 : decode cX6_calm 14 = .ok (.invokestatic 82, 3) := by decide +kernel
theorem dX6_calm_17 : decode cX6_calm 17 = .ok (.ifCond .ne 6, 3) := by decide +kernel
theorem dX6_calm_20 : decode cX6_calm 20 = .ok (.ldc 86, 2) := by decide +kernel
theorem dX6_calm_22 : decode cX6_calm 22 = .ok (.ireturn, 1) := by decide +kernel
theorem dX6_calm_23 : decode cX6_calm 23 = .ok (.ldc2_w 251, 3) := by decide +kernel
theorem dX6_calm_26 : decode cX6_calm 26 = .ok (.lstore_n 3, 1) := by decide +kernel
theorem dX6_calm_27 : decode cX6_calm 27 = .ok (.iconst 0, 1) := by decide +kernel
theorem dX6_calm_28 : decode cX6_calm 28 = .ok (.istore 5, 2) := by decide +kernel
theorem dX6_calm_30 : decode cX6_calm 30 = .ok (.iload 5, 2) := by decide +kernel
theorem dX6_calm_32 : decode cX6_calm 32 = .ok (.iload_n 1, 1) := by decide +kernel
theorem dX6_calm_33 : decode cX6_calm 33 = .ok (.if_icmp .ge 18, 3) := by decide +kernel
theorem dX6_calm_36 : decode cX6_calm 36 = .ok (.lload_n 3, 1) := by decide +kernel
theorem dX6_calm_37 : decode cX6_calm 37 = .ok (.iload_n 2, 1) := by decide +kernel
theorem dX6_calm_38 : decode cX6_calm 38 = .ok (.i2l, 1) := by decide +kernel
theorem dX6_calm_39 : decode cX6_calm 39 = .ok (.lmul, 1) := by decide +kernel
theorem dX6_calm_40 : decode cX6_calm 40 = .ok (.ldc2_w 253, 3) := by decide +kernel
theorem dX6_calm_43 : decode cX6_calm 43 = .ok (.ldiv, 1) := by decide +kernel
theorem dX6_calm_44 : decode cX6_calm 44 = .ok (.lstore_n 3, 1) := by decide +kernel
theorem dX6_calm_45 : decode cX6_calm 45 = .ok (.iinc 5 1, 3) := by decide +kernel
theorem dX6_calm_48 : decode cX6_calm 48 = .ok (.goto (-18), 3) := by decide +kernel
theorem dX6_calm_51 : decode cX6_calm 51 = .ok (.lload_n 3, 1) := by decide +kernel
theorem dX6_calm_52 : decode cX6_calm 52 = .ok (.l2i, 1) := by decide +kernel
theorem dX6_calm_53 : decode cX6_calm 53 = .ok (.ireturn, 1) := by decide +kernel
set_option maxRecDepth 20000 in
theorem ggX6_hear_X6_areTwo : GoodIn wsX6_hear wsX6_areTwo := goodIn_r _ [11, 12, 13, 14, 10, 15, 16, 17, 18, 19, 20, 21, 22, 23, 24, 25, 26, 27, 28, 29, 30, 31, 32, 33, 34, 35, 36, 37, 38, 39, 40, 41, 42, 43, 44, 45, 46, 47, 48, 49, 50, 51, 52, 53, 54, 55, 56, 57] (by decide +kernel) (by decide +kernel)
set_option maxRecDepth 20000 in
theorem gX6_hear_X6_areTwo : GoodIn wsX6_hear (wsV RX6 241 RX6 yX6_areTwo wsX6_areTwo) := goodIn_app (goodIn_of _ (by decide +kernel)) ggX6_hear_X6_areTwo
theorem dX6_hear_0 : decode cX6_hear 0 = .ok (.aload_n 0, 1) := by decide +kernel
theorem dX6_hear_1 : decode cX6_hear 1 = .ok (.iload_n 1, 1) := by decide +kernel
theorem dX6_hear_2 : decode cX6_hear 2 = .ok (.iload_n 2, 1) := by decide +kernel
theorem dX6_hear_3 : decode cX6_hear 3 = .ok (.invokevirtual 241, 3) := by decide +kernel
theorem dX6_hear_6 : decode cX6_hear 6 = .ok (.ifCond .ne 6, 3) := by decide +kernel
theorem dX6_hear_9 : decode cX6_hear 9 = .ok (.ldc 176, 2) := by decide +kernel
theorem dX6_hear_11 : decode cX6_hear 11 = .ok (.ireturn, 1) := by decide +kernel
theorem dX6_hear_12 : decode cX6_hear 12 = .ok (.aload_n 0, 1) := by decide +kernel
theorem dX6_hear_13 : decode cX6_hear 13 = .ok (.getfield 153, 3) := by decide +kernel
theorem dX6_hear_16 : decode cX6_hear 16 = .ok (.bipush 6, 2) := by decide +kernel
theorem dX6_hear_18 : decode cX6_hear 18 = .ok (.if_icmp .ne 6, 3) := by decide +kernel
theorem dX6_hear_21 : decode cX6_hear 21 = .ok (.ldc 90, 2) := by decide +kernel
theorem dX6_hear_23 : decode cX6_hear 23 = .ok (.ireturn, 1) := by decide +kernel
theorem dX6_hear_24 : decode cX6_hear 24 = .ok (.aload_n 0, 1) := by decide +kernel
theorem dX6_hear_25 : decode cX6_hear 25 = .ok (.getfield 56, 3) := by decide +kernel
theorem dX6_hear_28 : decode cX6_hear 28 = .ok (.aload_n 0, 1) := by decide +kernel
theorem dX6_hear_29 : decode cX6_hear 29 = .ok (.getfield 153, 3) := by decide +kernel
theorem dX6_hear_32 : decode cX6_hear 32 = .ok (.iload_n 1, 1) := by decide +kernel
theorem dX6_hear_33 : decode cX6_hear 33 = .ok (.iastore, 1) := by decide +kernel
theorem dX6_hear_34 : decode cX6_hear 34 = .ok (.aload_n 0, 1) := by decide +kernel
theorem dX6_hear_35 : decode cX6_hear 35 = .ok (.getfield 59, 3) := by decide +kernel
theorem dX6_hear_38 : decode cX6_hear 38 = .ok (.aload_n 0, 1) := by decide +kernel
theorem dX6_hear_39 : decode cX6_hear 39 = .ok (.getfield 153, 3) := by decide +kernel
theorem dX6_hear_42 : decode cX6_hear 42 = .ok (.iload_n 2, 1) := by decide +kernel
theorem dX6_hear_43 : decode cX6_hear 43 = .ok (.iastore, 1) := by decide +kernel
theorem dX6_hear_44 : decode cX6_hear 44 = .ok (.aload_n 0, 1) := by decide +kernel
theorem dX6_hear_45 : decode cX6_hear 45 = .ok (.getfield 62, 3) := by decide +kernel
theorem dX6_hear_48 : decode cX6_hear 48 = .ok (.aload_n 0, 1) := by decide +kernel
theorem dX6_hear_49 : decode cX6_hear 49 = .ok (.getfield 153, 3) := by decide +kernel
theorem dX6_hear_52 : decode cX6_hear 52 = .ok (.iload_n 3, 1) := by decide +kernel
theorem dX6_hear_53 : decode cX6_hear 53 = .ok (.bastore, 1) := by decide +kernel
theorem dX6_hear_54 : decode cX6_hear 54 = .ok (.aload_n 0, 1) := by decide +kernel
theorem dX6_hear_55 : decode cX6_hear 55 = .ok (.dup, 1) := by decide +kernel
theorem dX6_hear_56 : decode cX6_hear 56 = .ok (.getfield 153, 3) := by decide +kernel
theorem dX6_hear_59 : decode cX6_hear 59 = .ok (.iconst 1, 1) := by decide +kernel
theorem dX6_hear_60 : decode cX6_hear 60 = .ok (.iadd, 1) := by decide +kernel
theorem dX6_hear_61 : decode cX6_hear 61 = .ok (.putfield 153, 3) := by decide +kernel
theorem dX6_hear_64 : decode cX6_hear 64 = .ok (.aload_n 0, 1) := by decide +kernel
theorem dX6_hear_65 : decode cX6_hear 65 = .ok (.getfield 153, 3) := by decide +kernel
theorem dX6_hear_68 : decode cX6_hear 68 = .ok (.ireturn, 1) := by decide +kernel
set_option maxRecDepth 20000 in
theorem ggX6_hangs_X6_reached : GoodIn wsX6_hangs wsX6_reached := goodIn_r _ [6, 7, 8, 9, 10, 5, 11, 12, 13, 14, 15, 16, 17, 18, 19, 20, 21, 22, 23, 24, 25, 26, 27, 28, 29, 30, 31, 32, 33, 34, 35, 36, 37, 38, 39, 40, 41, 42, 43, 44, 45, 46, 47, 48, 49, 50, 51, 52, 53, 54] (by decide +kernel) (by decide +kernel)
set_option maxRecDepth 20000 in
theorem gX6_hangs_X6_reached : GoodIn wsX6_hangs (wsV RX6 185 RX6 yX6_reached wsX6_reached) := goodIn_app (goodIn_of _ (by decide +kernel)) ggX6_hangs_X6_reached
set_option maxRecDepth 20000 in
theorem ggX6_hangs_X6_has : GoodIn wsX6_hangs wsX6_has := goodIn_r _ [16] (by decide +kernel) (by decide +kernel)
set_option maxRecDepth 20000 in
theorem gX6_hangs_X6_has : GoodIn wsX6_hangs (va_wsS RX6 162 yX6_has wsX6_has) := goodIn_app (goodIn_of _ (by decide +kernel)) ggX6_hangs_X6_has
theorem dX6_hangs_0 : decode cX6_hangs 0 = .ok (.aload_n 0, 1) := by decide +kernel
theorem dX6_hangs_1 : decode cX6_hangs 1 = .ok (.iload_n 1, 1) := by decide +kernel
theorem dX6_hangs_2 : decode cX6_hangs 2 = .ok (.aload_n 0, 1) := by decide +kernel
theorem dX6_hangs_3 : decode cX6_hangs 3 = .ok (.getfield 47, 3) := by decide +kernel
theorem dX6_hangs_6 : decode cX6_hangs 6 = .ok (.iconst 0, 1) := by decide +kernel
theorem dX6_hangs_7 : decode cX6_hangs 7 = .ok (.iaload, 1) := by decide +kernel
theorem dX6_hangs_8 : decode cX6_hangs 8 = .ok (.iconst 1, 1) := by decide +kernel
theorem dX6_hangs_9 : decode cX6_hangs 9 = .ok (.iload_n 3, 1) := by decide +kernel
theorem dX6_hangs_10 : decode cX6_hangs 10 = .ok (.ishl, 1) := by decide +kernel
theorem dX6_hangs_11 : decode cX6_hangs 11 = .ok (.iconst (-1), 1) := by decide +kernel
theorem dX6_hangs_12 : decode cX6_hangs 12 = .ok (.ixor, 1) := by decide +kernel
theorem dX6_hangs_13 : decode cX6_hangs 13 = .ok (.iand, 1) := by decide +kernel
theorem dX6_hangs_14 : decode cX6_hangs 14 = .ok (.invokevirtual 185, 3) := by decide +kernel
theorem dX6_hangs_17 : decode cX6_hangs 17 = .ok (.iload_n 2, 1) := by decide +kernel
theorem dX6_hangs_18 : decode cX6_hangs 18 = .ok (.invokestatic 162, 3) := by decide +kernel
theorem dX6_hangs_21 : decode cX6_hangs 21 = .ok (.ireturn, 1) := by decide +kernel
set_option maxRecDepth 20000 in
theorem ggX6_suspects_X6_has : GoodIn wsX6_suspects wsX6_has := goodIn_r _ [9] (by decide +kernel) (by decide +kernel)
set_option maxRecDepth 20000 in
theorem gX6_suspects_X6_has : GoodIn wsX6_suspects (va_wsS RX6 162 yX6_has wsX6_has) := goodIn_app (goodIn_of _ (by decide +kernel)) ggX6_suspects_X6_has
set_option maxRecDepth 20000 in
theorem ggX6_suspects_X6_hangs : GoodIn wsX6_suspects wsX6_hangs := goodIn_r _ [13, 1, 14, 15, 16, 8, 17, 18, 19, 20, 21, 22, 23, 24, 6, 7, 9, 25, 26, 27, 28, 29, 30, 31, 32, 33, 34, 35, 36, 37, 38, 39, 40, 41, 42, 43, 44, 45, 46, 47, 48, 49, 50, 51, 52, 53, 54, 55, 56, 57, 58, 59, 60, 61, 62] (by decide +kernel) (by decide +kernel)
set_option maxRecDepth 20000 in
theorem gX6_suspects_X6_hangs : GoodIn wsX6_suspects (wsV RX6 255 RX6 yX6_hangs wsX6_hangs) := goodIn_app (goodIn_of _ (by decide +kernel)) ggX6_suspects_X6_hangs
theorem dX6_suspects_0 : decode cX6_suspects 0 = .ok (.iconst 0, 1) := by decide +kernel
theorem dX6_suspects_1 : decode cX6_suspects 1 = .ok (.istore_n 1, 1) := by decide +kernel
theorem dX6_suspects_2 : decode cX6_suspects 2 = .ok (.iconst 0, 1) := by decide +kernel
theorem dX6_suspects_3 : decode cX6_suspects 3 = .ok (.istore_n 2, 1) := by decide +kernel
theorem dX6_suspects_4 : decode cX6_suspects 4 = .ok (.iload_n 2, 1) := by decide +kernel
theorem dX6_suspects_5 : decode cX6_suspects 5 = .ok (.bipush 10, 2) := by decide +kernel
theorem dX6_suspects_7 : decode cX6_suspects 7 = .ok (.if_icmp .gt 105, 3) := by decide +kernel
theorem dX6_suspects_10 : decode cX6_suspects 10 = .ok (.iload_n 2, 1) := by decide +kernel
theorem dX6_suspects_11 : decode cX6_suspects 11 = .ok (.bipush 10, 2) := by decide +kernel
theorem dX6_suspects_13 : decode cX6_suspects 13 = .ok (.if_icmp .eq 16, 3) := by decide +kernel
theorem dX6_suspects_16 : decode cX6_suspects 16 = .ok (.aload_n 0, 1) := by decide +kernel
theorem dX6_suspects_17 : decode cX6_suspects 17 = .ok (.getfield 47, 3) := by decide +kernel
theorem dX6_suspects_20 : decode cX6_suspects 20 = .ok (.iconst 0, 1) := by decide +kernel
theorem dX6_suspects_21 : decode cX6_suspects 21 = .ok (.iaload, 1) := by decide +kernel
theorem dX6_suspects_22 : decode cX6_suspects 22 = .ok (.iload_n 2, 1) := by decide +kernel
theorem dX6_suspects_23 : decode cX6_suspects 23 = .ok (.invokestatic 162, 3) := by decide +kernel
theorem dX6_suspects_26 : decode cX6_suspects 26 = .ok (.ifCond .eq 7, 3) := by decide +kernel
theorem dX6_suspects_29 : decode cX6_suspects 29 = .ok (.iconst 1, 1) := by decide +kernel
theorem dX6_suspects_30 : decode cX6_suspects 30 = .ok (.goto 4, 3) := by decide +kernel
theorem dX6_suspects_33 : decode cX6_suspects 33 = .ok (.iconst 0, 1) := by decide +kernel
theorem dX6_suspects_34 : decode cX6_suspects 34 = .ok (.istore_n 3, 1) := by decide +kernel
theorem dX6_suspects_35 : decode cX6_suspects 35 = .ok (.iconst 0, 1) := by decide +kernel
theorem dX6_suspects_36 : decode cX6_suspects 36 = .ok (.istore 4, 2) := by decide +kernel
theorem dX6_suspects_38 : decode cX6_suspects 38 = .ok (.iload 4, 2) := by decide +kernel
theorem dX6_suspects_40 : decode cX6_suspects 40 = .ok (.aload_n 0, 1) := by decide +kernel
theorem dX6_suspects_41 : decode cX6_suspects 41 = .ok (.getfield 153, 3) := by decide +kernel
theorem dX6_suspects_44 : decode cX6_suspects 44 = .ok (.if_icmp .ge 48, 3) := by decide +kernel
theorem dX6_suspects_47 : decode cX6_suspects 47 = .ok (.iload_n 3, 1) := by decide +kernel
theorem dX6_suspects_48 : decode cX6_suspects 48 = .ok (.ifCond .eq 44, 3) := by decide +kernel
theorem dX6_suspects_51 : decode cX6_suspects 51 = .ok (.aload_n 0, 1) := by decide +kernel
theorem dX6_suspects_52 : decode cX6_suspects 52 = .ok (.aload_n 0, 1) := by decide +kernel
theorem dX6_suspects_53 : decode cX6_suspects 53 = .ok (.getfield 56, 3) := by decide +kernel
theorem dX6_suspects_56 : decode cX6_suspects 56 = .ok (.iload 4, 2) := by decide +kernel
theorem dX6_suspects_58 : decode cX6_suspects 58 = .ok (.iaload, 1) := by decide +kernel
theorem dX6_suspects_59 : decode cX6_suspects 59 = .ok (.aload_n 0, 1) := by decide +kernel
theorem dX6_suspects_60 : decode cX6_suspects 60 = .ok (.getfield 59, 3) := by decide +kernel
theorem dX6_suspects_63 : decode cX6_suspects 63 = .ok (.iload 4, 2) := by decide +kernel
theorem dX6_suspects_65 : decode cX6_suspects 65 = .ok (.iaload, 1) := by decide +kernel
theorem dX6_suspects_66 : decode cX6_suspects 66 = .ok (.iload_n 2, 1) := by decide +kernel
theorem dX6_suspects_67 : decode cX6_suspects 67 = .ok (.invokevirtual 255, 3) := by decide +kernel
theorem dX6_suspects_70 : decode cX6_suspects 70 = .ok (.aload_n 0, 1) := by decide +kernel
theorem dX6_suspects_71 : decode cX6_suspects 71 = .ok (.getfield 62, 3) := by decide +kernel
theorem dX6_suspects_74 : decode cX6_suspects 74 = .ok (.iload 4, 2) := by decide +kernel
theorem dX6_suspects_76 : decode cX6_suspects 76 = .ok (.baload, 1) := by decide +kernel
theorem dX6_suspects_77 : decode cX6_suspects 77 = .ok (.if_icmp .ne 7, 3) := by decide +kernel
theorem dX6_suspects_80 : decode cX6_suspects 80 = .ok (.iconst 1, 1) := by decide +kernel
theorem dX6_suspects_81 : decode cX6_suspects 81 = .ok (.goto 4, 3) := by decide +kernel
theorem dX6_suspects_84 : decode cX6_suspects 84 = .ok (.iconst 0, 1) := by decide +kernel
theorem dX6_suspects_85 : decode cX6_suspects 85 = .ok (.istore_n 3, 1) := by decide +kernel
theorem dX6_suspects_86 : decode cX6_suspects 86 = .ok (.iinc 4 1, 3) := by decide +kernel
theorem dX6_suspects_89 : decode cX6_suspects 89 = .ok (.goto (-51), 3) := by decide +kernel
theorem dX6_suspects_92 : decode cX6_suspects 92 = .ok (.iload_n 1, 1) := by decide +kernel
theorem dX6_suspects_93 : decode cX6_suspects 93 = .ok (.iload_n 3, 1) := by decide +kernel
theorem dX6_suspects_94 : decode cX6_suspects 94 = .ok (.ifCond .eq 9, 3) := by decide +kernel
theorem dX6_suspects_97 : decode cX6_suspects 97 = .ok (.iconst 1, 1) := by decide +kernel
theorem dX6_suspects_98 : decode cX6_suspects 98 = .ok (.iload_n 2, 1) := by decide +kernel
theorem dX6_suspects_99 : decode cX6_suspects 99 = .ok (.ishl, 1) := by decide +kernel
theorem dX6_suspects_100 : decode cX6_suspects 100 = .ok (.goto 4, 3) := by decide +kernel
theorem dX6_suspects_103 : decode cX6_suspects 103 = .ok (.iconst 0, 1) := by decide +kernel
theorem dX6_suspects_104 : decode cX6_suspects 104 = .ok (.ior, 1) := by decide +kernel
theorem dX6_suspects_105 : decode cX6_suspects 105 = .ok (.istore_n 1, 1) := by decide +kernel
theorem dX6_suspects_106 : decode cX6_suspects 106 = .ok (.iinc 2 1, 3) := by decide +kernel
theorem dX6_suspects_109 : decode cX6_suspects 109 = .ok (.goto (-105), 3) := by decide +kernel
theorem dX6_suspects_112 : decode cX6_suspects 112 = .ok (.iload_n 1, 1) := by decide +kernel
theorem dX6_suspects_113 : decode cX6_suspects 113 = .ok (.ireturn, 1) := by decide +kernel
set_option maxRecDepth 20000 in
theorem ggX6_traitor_X6_suspects : GoodIn wsX6_traitor wsX6_suspects := goodIn_r _ [5, 6, 7, 8, 9, 10, 11, 12, 4, 13, 14, 15, 16, 17, 18, 19, 20, 21, 22, 23, 24, 25, 26, 27, 28, 29, 30, 31, 32, 33, 34, 35, 36, 37, 38, 39, 40, 41, 42, 43, 44, 45, 46, 47, 48, 49, 50, 51, 52, 53, 54, 55, 56, 57, 58, 59, 60, 61, 62, 63, 64, 65, 66] (by decide +kernel) (by decide +kernel)
set_option maxRecDepth 20000 in
theorem gX6_traitor_X6_suspects : GoodIn wsX6_traitor (wsV RX6 258 RX6 yX6_suspects wsX6_suspects) := goodIn_app (goodIn_of _ (by decide +kernel)) ggX6_traitor_X6_suspects
theorem dX6_traitor_0 : decode cX6_traitor 0 = .ok (.aload_n 0, 1) := by decide +kernel
theorem dX6_traitor_1 : decode cX6_traitor 1 = .ok (.invokevirtual 258, 3) := by decide +kernel
theorem dX6_traitor_4 : decode cX6_traitor 4 = .ok (.ireturn, 1) := by decide +kernel
set_option maxRecDepth 20000 in
theorem ggX6_ask_X6_suspects : GoodIn wsX6_ask wsX6_suspects := goodIn_r _ [6, 7, 8, 9, 10, 11, 12, 13, 5, 14, 15, 16, 17, 18, 19, 20, 21, 22, 1, 23, 24, 25, 26, 27, 28, 32, 33, 34, 35, 36, 37, 38, 39, 40, 41, 42, 43, 44, 45, 46, 47, 48, 49, 50, 51, 52, 53, 54, 55, 56, 57, 58, 59, 60, 61, 62, 63, 64, 65, 66, 67, 68, 69] (by decide +kernel) (by decide +kernel)
set_option maxRecDepth 20000 in
theorem gX6_ask_X6_suspects : GoodIn wsX6_ask (wsV RX6 258 RX6 yX6_suspects wsX6_suspects) := goodIn_app (goodIn_of _ (by decide +kernel)) ggX6_ask_X6_suspects
set_option maxRecDepth 20000 in
theorem ggX6_ask_X6_bits : GoodIn wsX6_ask wsX6_bits := goodIn_r _ [31] (by decide +kernel) (by decide +kernel)
set_option maxRecDepth 20000 in
theorem gX6_ask_X6_bits : GoodIn wsX6_ask (va_wsS RX6 211 yX6_bits wsX6_bits) := goodIn_app (goodIn_of _ (by decide +kernel)) ggX6_ask_X6_bits
set_option maxRecDepth 20000 in
theorem ggX6_ask_X6_has : GoodIn wsX6_ask wsX6_has := goodIn_r _ [14] (by decide +kernel) (by decide +kernel)
set_option maxRecDepth 20000 in
theorem gX6_ask_X6_has : GoodIn wsX6_ask (va_wsS RX6 162 yX6_has wsX6_has) := goodIn_app (goodIn_of _ (by decide +kernel)) ggX6_ask_X6_has
set_option maxRecDepth 20000 in
theorem ggX6_ask_X6_hangs : GoodIn wsX6_ask wsX6_hangs := goodIn_r _ [18, 7, 19, 20, 21, 5, 22, 1, 23, 24, 25, 26, 27, 28, 12, 13, 14, 32, 33, 34, 35, 36, 37, 38, 39, 40, 41, 42, 43, 44, 45, 46, 47, 48, 49, 50, 51, 52, 53, 54, 55, 56, 57, 58, 59, 60, 61, 62, 63, 64, 65, 66, 67, 68, 69] (by decide +kernel) (by decide +kernel)
set_option maxRecDepth 20000 in
theorem gX6_ask_X6_hangs : GoodIn wsX6_ask (wsV RX6 255 RX6 yX6_hangs wsX6_hangs) := goodIn_app (goodIn_of _ (by decide +kernel)) ggX6_ask_X6_hangs
theorem dX6_ask_0 : decode cX6_ask 0 = .ok (.aload_n 0, 1) := by decide +kernel
theorem dX6_ask_1 : decode cX6_ask 1 = .ok (.invokevirtual 258, 3) := by decide +kernel
theorem dX6_ask_4 : decode cX6_ask 4 = .ok (.istore_n 1, 1) := by decide +kernel
theorem dX6_ask_5 : decode cX6_ask 5 = .ok (.iload_n 1, 1) := by decide +kernel
theorem dX6_ask_6 : decode cX6_ask 6 = .ok (.invokestatic 211, 3) := by decide +kernel
theorem dX6_ask_9 : decode cX6_ask 9 = .ok (.istore_n 2, 1) := by decide +kernel
theorem dX6_ask_10 : decode cX6_ask 10 = .ok (.iconst (-1), 1) := by decide +kernel
theorem dX6_ask_11 : decode cX6_ask 11 = .ok (.istore_n 3, 1) := by decide +kernel
theorem dX6_ask_12 : decode cX6_ask 12 = .ok (.iload_n 2, 1) := by decide +kernel
theorem dX6_ask_13 : decode cX6_ask 13 = .ok (.istore 4, 2) := by decide +kernel
theorem dX6_ask_15 : decode cX6_ask 15 = .ok (.iconst 0, 1) := by decide +kernel
theorem dX6_ask_16 : decode cX6_ask 16 = .ok (.istore 5, 2) := by decide +kernel
theorem dX6_ask_18 : decode cX6_ask 18 = .ok (.iload 5, 2) := by decide +kernel
theorem dX6_ask_20 : decode cX6_ask 20 = .ok (.aload_n 0, 1) := by decide +kernel
theorem dX6_ask_21 : decode cX6_ask 21 = .ok (.getfield 141, 3) := by decide +kernel
theorem dX6_ask_24 : decode cX6_ask 24 = .ok (.if_icmp .ge 137, 3) := by decide +kernel
theorem dX6_ask_27 : decode cX6_ask 27 = .ok (.iload 5, 2) := by decide +kernel
theorem dX6_ask_29 : decode cX6_ask 29 = .ok (.iconst 1, 1) := by decide +kernel
theorem dX6_ask_30 : decode cX6_ask 30 = .ok (.iadd, 1) := by decide +kernel
theorem dX6_ask_31 : decode cX6_ask 31 = .ok (.istore 6, 2) := by decide +kernel
theorem dX6_ask_33 : decode cX6_ask 33 = .ok (.iload 6, 2) := by decide +kernel
theorem dX6_ask_35 : decode cX6_ask 35 = .ok (.aload_n 0, 1) := by decide +kernel
theorem dX6_ask_36 : decode cX6_ask 36 = .ok (.getfield 141, 3) := by decide +kernel
theorem dX6_ask_39 : decode cX6_ask 39 = .ok (.if_icmp .ge 116, 3) := by decide +kernel
theorem dX6_ask_42 : decode cX6_ask 42 = .ok (.iconst 0, 1) := by decide +kernel
theorem dX6_ask_43 : decode cX6_ask 43 = .ok (.istore 7, 2) := by decide +kernel
theorem dX6_ask_45 : decode cX6_ask 45 = .ok (.iconst 0, 1) := by decide +kernel
theorem dX6_ask_46 : decode cX6_ask 46 = .ok (.istore 8, 2) := by decide +kernel
theorem dX6_ask_48 : decode cX6_ask 48 = .ok (.iload 8, 2) := by decide +kernel
theorem dX6_ask_50 : decode cX6_ask 50 = .ok (.bipush 10, 2) := by decide +kernel
theorem dX6_ask_52 : decode cX6_ask 52 = .ok (.if_icmp .gt 41, 3) := by decide +kernel
theorem dX6_ask_55 : decode cX6_ask 55 = .ok (.iload 7, 2) := by decide +kernel
theorem dX6_ask_57 : decode cX6_ask 57 = .ok (.iload_n 1, 1) := by decide +kernel
theorem dX6_ask_58 : decode cX6_ask 58 = .ok (.iload 8, 2) := by decide +kernel
theorem dX6_ask_60 : decode cX6_ask 60 = .ok (.invokestatic 162, 3) := by decide +kernel
theorem dX6_ask_63 : decode cX6_ask 63 = .ok (.ifCond .eq 20, 3) := by decide +kernel
theorem dX6_ask_66 : decode cX6_ask 66 = .ok (.aload_n 0, 1) := by decide +kernel
theorem dX6_ask_67 : decode cX6_ask 67 = .ok (.iload 5, 2) := by decide +kernel
theorem dX6_ask_69 : decode cX6_ask 69 = .ok (.iload 6, 2) := by decide +kernel
theorem dX6_ask_71 : decode cX6_ask 71 = .ok (.iload 8, 2) := by decide +kernel
theorem dX6_ask_73 : decode cX6_ask 73 = .ok (.invokevirtual 255, 3) := by decide +kernel
theorem dX6_ask_76 : decode cX6_ask 76 = .ok (.ifCond .eq 7, 3) := by decide +kernel
theorem dX6_ask_79 : decode cX6_ask 79 = .ok (.iconst 1, 1) := by decide +kernel
theorem dX6_ask_80 : decode cX6_ask 80 = .ok (.goto 4, 3) := by decide +kernel
theorem dX6_ask_83 : decode cX6_ask 83 = .ok (.iconst 0, 1) := by decide +kernel
theorem dX6_ask_84 : decode cX6_ask 84 = .ok (.iadd, 1) := by decide +kernel
theorem dX6_ask_85 : decode cX6_ask 85 = .ok (.istore 7, 2) := by decide +kernel
theorem dX6_ask_87 : decode cX6_ask 87 = .ok (.iinc 8 1, 3) := by decide +kernel
theorem dX6_ask_90 : decode cX6_ask 90 = .ok (.goto (-42), 3) := by decide +kernel
theorem dX6_ask_93 : decode cX6_ask 93 = .ok (.iload 7, 2) := by decide +kernel
theorem dX6_ask_95 : decode cX6_ask 95 = .ok (.iload_n 2, 1) := by decide +kernel
theorem dX6_ask_96 : decode cX6_ask 96 = .ok (.iload 7, 2) := by decide +kernel
theorem dX6_ask_98 : decode cX6_ask 98 = .ok (.isub, 1) := by decide +kernel
theorem dX6_ask_99 : decode cX6_ask 99 = .ok (.if_icmp .le 8, 3) := by decide +kernel
theorem dX6_ask_102 : decode cX6_ask 102 = .ok (.iload 7, 2) := by decide +kernel
theorem dX6_ask_104 : decode cX6_ask 104 = .ok (.goto 7, 3) := by decide +kernel
theorem dX6_ask_107 : decode cX6_ask 107 = .ok (.iload_n 2, 1) := by decide +kernel
theorem dX6_ask_108 : decode cX6_ask 108 = .ok (.iload 7, 2) := by decide +kernel
theorem dX6_ask_110 : decode cX6_ask 110 = .ok (.isub, 1) := by decide +kernel
theorem dX6_ask_111 : decode cX6_ask 111 = .ok (.istore 8, 2) := by decide +kernel
theorem dX6_ask_113 : decode cX6_ask 113 = .ok (.iload 8, 2) := by decide +kernel
theorem dX6_ask_115 : decode cX6_ask 115 = .ok (.iload 4, 2) := by decide +kernel
theorem dX6_ask_117 : decode cX6_ask 117 = .ok (.if_icmp .ge 14, 3) := by decide +kernel
theorem dX6_ask_120 : decode cX6_ask 120 = .ok (.bipush 10, 2) := by decide +kernel
theorem dX6_ask_122 : decode cX6_ask 122 = .ok (.iload 5, 2) := by decide +kernel
theorem dX6_ask_124 : decode cX6_ask 124 = .ok (.imul, 1) := by decide +kernel
theorem dX6_ask_125 : decode cX6_ask 125 = .ok (.iload 6, 2) := by decide +kernel
theorem dX6_ask_127 : decode cX6_ask 127 = .ok (.iadd, 1) := by decide +kernel
theorem dX6_ask_128 : decode cX6_ask 128 = .ok (.goto 4, 3) := by decide +kernel
theorem dX6_ask_131 : decode cX6_ask 131 = .ok (.iload_n 3, 1) := by decide +kernel
theorem dX6_ask_132 : decode cX6_ask 132 = .ok (.istore_n 3, 1) := by decide +kernel
theorem dX6_ask_133 : decode cX6_ask 133 = .ok (.iload 8, 2) := by decide +kernel
theorem dX6_ask_135 : decode cX6_ask 135 = .ok (.iload 4, 2) := by decide +kernel
theorem dX6_ask_137 : decode cX6_ask 137 = .ok (.if_icmp .ge 8, 3) := by decide +kernel
theorem dX6_ask_140 : decode cX6_ask 140 = .ok (.iload 8, 2) := by decide +kernel
theorem dX6_ask_142 : decode cX6_ask 142 = .ok (.goto 5, 3) := by decide +kernel
theorem dX6_ask_145 : decode cX6_ask 145 = .ok (.iload 4, 2) := by decide +kernel
theorem dX6_ask_147 : decode cX6_ask 147 = .ok (.istore 4, 2) := by decide +kernel
theorem dX6_ask_149 : decode cX6_ask 149 = .ok (.iinc 6 1, 3) := by decide +kernel
theorem dX6_ask_152 : decode cX6_ask 152 = .ok (.goto (-119), 3) := by decide +kernel
theorem dX6_ask_155 : decode cX6_ask 155 = .ok (.iinc 5 1, 3) := by decide +kernel
theorem dX6_ask_158 : decode cX6_ask 158 = .ok (.goto (-140), 3) := by decide +kernel
theorem dX6_ask_161 : decode cX6_ask 161 = .ok (.iload_n 3, 1) := by decide +kernel
theorem dX6_ask_162 : decode cX6_ask 162 = .ok (.ireturn, 1) := by decide +kernel
set_option maxRecDepth 20000 in
theorem ggX6_write_X6_isLink : GoodIn wsX6_write wsX6_isLink := goodIn_r _ [11, 12, 13, 14, 10, 15, 16, 17, 18, 19, 20, 21, 22, 23, 24, 25, 26, 27, 28, 29, 30, 31, 32, 33, 34, 35, 36, 37, 38, 39, 40, 41, 42, 43, 44, 45, 46, 47, 48, 49, 50, 51, 52, 53] (by decide +kernel) (by decide +kernel)
set_option maxRecDepth 20000 in
theorem gX6_write_X6_isLink : GoodIn wsX6_write (wsV RX6 173 RX6 yX6_isLink wsX6_isLink) := goodIn_app (goodIn_of _ (by decide +kernel)) ggX6_write_X6_isLink
set_option maxRecDepth 20000 in
theorem ggX6_write_X6_in : GoodIn wsX6_write wsX6_in := goodIn_r _ [15] (by decide +kernel) (by decide +kernel)
set_option maxRecDepth 20000 in
theorem gX6_write_X6_in : GoodIn wsX6_write (va_wsS RX6 82 yX6_in wsX6_in) := goodIn_app (goodIn_of _ (by decide +kernel)) ggX6_write_X6_in
theorem dX6_write_0 : decode cX6_write 0 = .ok (.aload_n 0, 1) := by decide +kernel
theorem dX6_write_1 : decode cX6_write 1 = .ok (.iload_n 1, 1) := by decide +kernel
theorem dX6_write_2 : decode cX6_write 2 = .ok (.invokevirtual 173, 3) := by decide +kernel
theorem dX6_write_5 : decode cX6_write 5 = .ok (.ifCond .ne 6, 3) := by decide +kernel
theorem dX6_write_8 : decode cX6_write 8 = .ok (.ldc 176, 2) := by decide +kernel
theorem dX6_write_10 : decode cX6_write 10 = .ok (.ireturn, 1) := by decide +kernel
theorem dX6_write_11 : decode cX6_write 11 = .ok (.iload_n 2, 1) := by decide +kernel
theorem dX6_write_12 : decode cX6_write 12 = .ok (.iconst 0, 1) := by decide +kernel
theorem dX6_write_13 : decode cX6_write 13 = .ok (.iconst 1, 1) := by decide +kernel
theorem dX6_write_14 : decode cX6_write 14 = .ok (.invokestatic 82, 3) := by decide +kernel
theorem dX6_write_17 : decode cX6_write 17 = .ok (.ifCond .ne 6, 3) := by decide +kernel
theorem dX6_write_20 : decode cX6_write 20 = .ok (.ldc 86, 2) := by decide +kernel
theorem dX6_write_22 : decode cX6_write 22 = .ok (.ireturn, 1) := by decide +kernel
theorem dX6_write_23 : decode cX6_write 23 = .ok (.aload_n 0, 1) := by decide +kernel
theorem dX6_write_24 : decode cX6_write 24 = .ok (.getfield 156, 3) := by decide +kernel
theorem dX6_write_27 : decode cX6_write 27 = .ok (.bipush 20, 2) := by decide +kernel
theorem dX6_write_29 : decode cX6_write 29 = .ok (.if_icmp .ne 6, 3) := by decide +kernel
theorem dX6_write_32 : decode cX6_write 32 = .ok (.ldc 90, 2) := by decide +kernel
theorem dX6_write_34 : decode cX6_write 34 = .ok (.ireturn, 1) := by decide +kernel
theorem dX6_write_35 : decode cX6_write 35 = .ok (.aload_n 0, 1) := by decide +kernel
theorem dX6_write_36 : decode cX6_write 36 = .ok (.getfield 66, 3) := by decide +kernel
theorem dX6_write_39 : decode cX6_write 39 = .ok (.aload_n 0, 1) := by decide +kernel
theorem dX6_write_40 : decode cX6_write 40 = .ok (.getfield 156, 3) := by decide +kernel
theorem dX6_write_43 : decode cX6_write 43 = .ok (.iload_n 1, 1) := by decide +kernel
theorem dX6_write_44 : decode cX6_write 44 = .ok (.iastore, 1) := by decide +kernel
theorem dX6_write_45 : decode cX6_write 45 = .ok (.aload_n 0, 1) := by decide +kernel
theorem dX6_write_46 : decode cX6_write 46 = .ok (.getfield 69, 3) := by decide +kernel
theorem dX6_write_49 : decode cX6_write 49 = .ok (.aload_n 0, 1) := by decide +kernel
theorem dX6_write_50 : decode cX6_write 50 = .ok (.getfield 156, 3) := by decide +kernel
theorem dX6_write_53 : decode cX6_write 53 = .ok (.iload_n 2, 1) := by decide +kernel
theorem dX6_write_54 : decode cX6_write 54 = .ok (.iastore, 1) := by decide +kernel
theorem dX6_write_55 : decode cX6_write 55 = .ok (.aload_n 0, 1) := by decide +kernel
theorem dX6_write_56 : decode cX6_write 56 = .ok (.dup, 1) := by decide +kernel
theorem dX6_write_57 : decode cX6_write 57 = .ok (.getfield 156, 3) := by decide +kernel
theorem dX6_write_60 : decode cX6_write 60 = .ok (.iconst 1, 1) := by decide +kernel
theorem dX6_write_61 : decode cX6_write 61 = .ok (.iadd, 1) := by decide +kernel
theorem dX6_write_62 : decode cX6_write 62 = .ok (.putfield 156, 3) := by decide +kernel
theorem dX6_write_65 : decode cX6_write 65 = .ok (.aload_n 0, 1) := by decide +kernel
theorem dX6_write_66 : decode cX6_write 66 = .ok (.getfield 156, 3) := by decide +kernel
theorem dX6_write_69 : decode cX6_write 69 = .ok (.ireturn, 1) := by decide +kernel
theorem dX6_judge_0 : decode cX6_judge 0 = .ok (.iconst 0, 1) := by decide +kernel
theorem dX6_judge_1 : decode cX6_judge 1 = .ok (.istore_n 1, 1) := by decide +kernel
theorem dX6_judge_2 : decode cX6_judge 2 = .ok (.iload_n 1, 1) := by decide +kernel
theorem dX6_judge_3 : decode cX6_judge 3 = .ok (.aload_n 0, 1) := by decide +kernel
theorem dX6_judge_4 : decode cX6_judge 4 = .ok (.getfield 156, 3) := by decide +kernel
theorem dX6_judge_7 : decode cX6_judge 7 = .ok (.if_icmp .ge 35, 3) := by decide +kernel
theorem dX6_judge_10 : decode cX6_judge 10 = .ok (.aload_n 0, 1) := by decide +kernel
theorem dX6_judge_11 : decode cX6_judge 11 = .ok (.getfield 47, 3) := by decide +kernel
theorem dX6_judge_14 : decode cX6_judge 14 = .ok (.iconst 0, 1) := by decide +kernel
theorem dX6_judge_15 : decode cX6_judge 15 = .ok (.iaload, 1) := by decide +kernel
theorem dX6_judge_16 : decode cX6_judge 16 = .ok (.aload_n 0, 1) := by decide +kernel
theorem dX6_judge_17 : decode cX6_judge 17 = .ok (.getfield 66, 3) := by decide +kernel
theorem dX6_judge_20 : decode cX6_judge 20 = .ok (.iload_n 1, 1) := by decide +kernel
theorem dX6_judge_21 : decode cX6_judge 21 = .ok (.iaload, 1) := by decide +kernel
theorem dX6_judge_22 : decode cX6_judge 22 = .ok (.ishr, 1) := by decide +kernel
theorem dX6_judge_23 : decode cX6_judge 23 = .ok (.iconst 1, 1) := by decide +kernel
theorem dX6_judge_24 : decode cX6_judge 24 = .ok (.iand, 1) := by decide +kernel
theorem dX6_judge_25 : decode cX6_judge 25 = .ok (.aload_n 0, 1) := by decide +kernel
theorem dX6_judge_26 : decode cX6_judge 26 = .ok (.getfield 69, 3) := by decide +kernel
theorem dX6_judge_29 : decode cX6_judge 29 = .ok (.iload_n 1, 1) := by decide +kernel
theorem dX6_judge_30 : decode cX6_judge 30 = .ok (.iaload, 1) := by decide +kernel
theorem dX6_judge_31 : decode cX6_judge 31 = .ok (.if_icmp .eq 5, 3) := by decide +kernel
theorem dX6_judge_34 : decode cX6_judge 34 = .ok (.iload_n 1, 1) := by decide +kernel
theorem dX6_judge_35 : decode cX6_judge 35 = .ok (.ireturn, 1) := by decide +kernel
theorem dX6_judge_36 : decode cX6_judge 36 = .ok (.iinc 1 1, 3) := by decide +kernel
theorem dX6_judge_39 : decode cX6_judge 39 = .ok (.goto (-37), 3) := by decide +kernel
theorem dX6_judge_42 : decode cX6_judge 42 = .ok (.iconst (-1), 1) := by decide +kernel
theorem dX6_judge_43 : decode cX6_judge 43 = .ok (.ireturn, 1) := by decide +kernel
theorem dX6_tear_0 : decode cX6_tear 0 = .ok (.aload_n 0, 1) := by decide +kernel
theorem dX6_tear_1 : decode cX6_tear 1 = .ok (.getfield 153, 3) := by decide +kernel
theorem dX6_tear_4 : decode cX6_tear 4 = .ok (.aload_n 0, 1) := by decide +kernel
theorem dX6_tear_5 : decode cX6_tear 5 = .ok (.getfield 156, 3) := by decide +kernel
theorem dX6_tear_8 : decode cX6_tear 8 = .ok (.iadd, 1) := by decide +kernel
theorem dX6_tear_9 : decode cX6_tear 9 = .ok (.istore_n 1, 1) := by decide +kernel
theorem dX6_tear_10 : decode cX6_tear 10 = .ok (.aload_n 0, 1) := by decide +kernel
theorem dX6_tear_11 : decode cX6_tear 11 = .ok (.iconst 0, 1) := by decide +kernel
theorem dX6_tear_12 : decode cX6_tear 12 = .ok (.putfield 153, 3) := by decide +kernel
theorem dX6_tear_15 : decode cX6_tear 15 = .ok (.aload_n 0, 1) := by decide +kernel
theorem dX6_tear_16 : decode cX6_tear 16 = .ok (.iconst 0, 1) := by decide +kernel
theorem dX6_tear_17 : decode cX6_tear 17 = .ok (.putfield 156, 3) := by decide +kernel
theorem dX6_tear_20 : decode cX6_tear 20 = .ok (.iload_n 1, 1) := by decide +kernel
theorem dX6_tear_21 : decode cX6_tear 21 = .ok (.ireturn, 1) := by decide +kernel
theorem dX6_seed_0 : decode cX6_seed 0 = .ok (.iload_n 1, 1) := by decide +kernel
theorem dX6_seed_1 : decode cX6_seed 1 = .ok (.ifCond .ge 6, 3) := by decide +kernel
theorem dX6_seed_4 : decode cX6_seed 4 = .ok (.ldc 86, 2) := by decide +kernel
theorem dX6_seed_6 : decode cX6_seed 6 = .ok (.ireturn, 1) := by decide +kernel
theorem dX6_seed_7 : decode cX6_seed 7 = .ok (.aload_n 0, 1) := by decide +kernel
theorem dX6_seed_8 : decode cX6_seed 8 = .ok (.getfield 217, 3) := by decide +kernel
theorem dX6_seed_11 : decode cX6_seed 11 = .ok (.l2i, 1) := by decide +kernel
theorem dX6_seed_12 : decode cX6_seed 12 = .ok (.istore_n 2, 1) := by decide +kernel
theorem dX6_seed_13 : decode cX6_seed 13 = .ok (.aload_n 0, 1) := by decide +kernel
theorem dX6_seed_14 : decode cX6_seed 14 = .ok (.iload_n 1, 1) := by decide +kernel
theorem dX6_seed_15 : decode cX6_seed 15 = .ok (.i2l, 1) := by decide +kernel
theorem dX6_seed_16 : decode cX6_seed 16 = .ok (.putfield 217, 3) := by decide +kernel
theorem dX6_seed_19 : decode cX6_seed 19 = .ok (.iload_n 2, 1) := by decide +kernel
theorem dX6_seed_20 : decode cX6_seed 20 = .ok (.ireturn, 1) := by decide +kernel
set_option maxRecDepth 20000 in
theorem ggX6_keep_X6_in : GoodIn wsX6_keep wsX6_in := goodIn_r _ [11] (by decide +kernel) (by decide +kernel)
set_option maxRecDepth 20000 in
theorem gX6_keep_X6_in : GoodIn wsX6_keep (va_wsS RX6 82 yX6_in wsX6_in) := goodIn_app (goodIn_of _ (by decide +kernel)) ggX6_keep_X6_in
theorem dX6_keep_0 : decode cX6_keep 0 = .ok (.iload_n 1, 1) := by decide +kernel
theorem dX6_keep_1 : decode cX6_keep 1 = .ok (.iconst 0, 1) := by decide +kernel
theorem dX6_keep_2 : decode cX6_keep 2 = .ok (.iconst 1, 1) := by decide +kernel
theorem dX6_keep_3 : decode cX6_keep 3 = .ok (.invokestatic 82, 3) := by decide +kernel
theorem dX6_keep_6 : decode cX6_keep 6 = .ok (.ifCond .ne 6, 3) := by decide +kernel
theorem dX6_keep_9 : decode cX6_keep 9 = .ok (.ldc 176, 2) := by decide +kernel
theorem dX6_keep_11 : decode cX6_keep 11 = .ok (.ireturn, 1) := by decide +kernel
theorem dX6_keep_12 : decode cX6_keep 12 = .ok (.aload_n 0, 1) := by decide +kernel
theorem dX6_keep_13 : decode cX6_keep 13 = .ok (.getfield 72, 3) := by decide +kernel
theorem dX6_keep_16 : decode cX6_keep 16 = .ok (.iload_n 1, 1) := by decide +kernel
theorem dX6_keep_17 : decode cX6_keep 17 = .ok (.iconst 1, 1) := by decide +kernel
theorem dX6_keep_18 : decode cX6_keep 18 = .ok (.bastore, 1) := by decide +kernel
theorem dX6_keep_19 : decode cX6_keep 19 = .ok (.aload_n 0, 1) := by decide +kernel
theorem dX6_keep_20 : decode cX6_keep 20 = .ok (.getfield 78, 3) := by decide +kernel
theorem dX6_keep_23 : decode cX6_keep 23 = .ok (.iload_n 1, 1) := by decide +kernel
theorem dX6_keep_24 : decode cX6_keep 24 = .ok (.aload_n 0, 1) := by decide +kernel
theorem dX6_keep_25 : decode cX6_keep 25 = .ok (.getfield 217, 3) := by decide +kernel
theorem dX6_keep_28 : decode cX6_keep 28 = .ok (.lastore, 1) := by decide +kernel
theorem dX6_keep_29 : decode cX6_keep 29 = .ok (.aload_n 0, 1) := by decide +kernel
theorem dX6_keep_30 : decode cX6_keep 30 = .ok (.iconst 0, 1) := by decide +kernel
theorem dX6_keep_31 : decode cX6_keep 31 = .ok (.putfield 150, 3) := by decide +kernel
theorem dX6_keep_34 : decode cX6_keep 34 = .ok (.iconst 0, 1) := by decide +kernel
theorem dX6_keep_35 : decode cX6_keep 35 = .ok (.istore_n 2, 1) := by decide +kernel
theorem dX6_keep_36 : decode cX6_keep 36 = .ok (.iload_n 2, 1) := by decide +kernel
theorem dX6_keep_37 : decode cX6_keep 37 = .ok (.bipush 16, 2) := by decide +kernel
theorem dX6_keep_39 : decode cX6_keep 39 = .ok (.if_icmp .ge 26, 3) := by decide +kernel
theorem dX6_keep_42 : decode cX6_keep 42 = .ok (.aload_n 0, 1) := by decide +kernel
theorem dX6_keep_43 : decode cX6_keep 43 = .ok (.getfield 75, 3) := by decide +kernel
theorem dX6_keep_46 : decode cX6_keep 46 = .ok (.bipush 16, 2) := by decide +kernel
theorem dX6_keep_48 : decode cX6_keep 48 = .ok (.iload_n 1, 1) := by decide +kernel
theorem dX6_keep_49 : decode cX6_keep 49 = .ok (.imul, 1) := by decide +kernel
theorem dX6_keep_50 : decode cX6_keep 50 = .ok (.iload_n 2, 1) := by decide +kernel
theorem dX6_keep_51 : decode cX6_keep 51 = .ok (.iadd, 1) := by decide +kernel
theorem dX6_keep_52 : decode cX6_keep 52 = .ok (.aload_n 0, 1) := by decide +kernel
theorem dX6_keep_53 : decode cX6_keep 53 = .ok (.getfield 47, 3) := by decide +kernel
theorem dX6_keep_56 : decode cX6_keep 56 = .ok (.iload_n 2, 1) := by decide +kernel
theorem dX6_keep_57 : decode cX6_keep 57 = .ok (.iaload, 1) := by decide +kernel
theorem dX6_keep_58 : decode cX6_keep 58 = .ok (.iastore, 1) := by decide +kernel
theorem dX6_keep_59 : decode cX6_keep 59 = .ok (.iinc 2 1, 3) := by decide +kernel
theorem dX6_keep_62 : decode cX6_keep 62 = .ok (.goto (-26), 3) := by decide +kernel
theorem dX6_keep_65 : decode cX6_keep 65 = .ok (.iconst 1, 1) := by decide +kernel
theorem dX6_keep_66 : decode cX6_keep 66 = .ok (.ireturn, 1) := by decide +kernel
set_option maxRecDepth 20000 in
theorem ggX6_goBack_X6_in : GoodIn wsX6_goBack wsX6_in := goodIn_r _ [12] (by decide +kernel) (by decide +kernel)
set_option maxRecDepth 20000 in
theorem gX6_goBack_X6_in : GoodIn wsX6_goBack (va_wsS RX6 82 yX6_in wsX6_in) := goodIn_app (goodIn_of _ (by decide +kernel)) ggX6_goBack_X6_in
theorem dX6_goBack_0 : decode cX6_goBack 0 = .ok (.iload_n 1, 1) := by decide +kernel
theorem dX6_goBack_1 : decode cX6_goBack 1 = .ok (.iconst 0, 1) := by decide +kernel
theorem dX6_goBack_2 : decode cX6_goBack 2 = .ok (.iconst 1, 1) := by decide +kernel
theorem dX6_goBack_3 : decode cX6_goBack 3 = .ok (.invokestatic 82, 3) := by decide +kernel
theorem dX6_goBack_6 : decode cX6_goBack 6 = .ok (.ifCond .ne 6, 3) := by decide +kernel
theorem dX6_goBack_9 : decode cX6_goBack 9 = .ok (.ldc 176, 2) := by decide +kernel
theorem dX6_goBack_11 : decode cX6_goBack 11 = .ok (.ireturn, 1) := by decide +kernel
theorem dX6_goBack_12 : decode cX6_goBack 12 = .ok (.aload_n 0, 1) := by decide +kernel
theorem dX6_goBack_13 : decode cX6_goBack 13 = .ok (.getfield 72, 3) := by decide +kernel
theorem dX6_goBack_16 : decode cX6_goBack 16 = .ok (.iload_n 1, 1) := by decide +kernel
theorem dX6_goBack_17 : decode cX6_goBack 17 = .ok (.baload, 1) := by decide +kernel
