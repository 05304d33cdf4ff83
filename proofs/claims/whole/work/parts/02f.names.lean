theorem dX6_readsLink_34 : decode cX6_readsLink 34 = .ok (.invokevirtual 118, 3) := by decide +kernel
theorem dX6_readsLink_37 : decode cX6_readsLink 37 = .ok (.istore_n 3, 1) := by decide +kernel
theorem dX6_readsLink_38 : decode cX6_readsLink 38 = .ok (.iload_n 3, 1) := by decide +kernel
theorem dX6_readsLink_39 : decode cX6_readsLink 39 = .ok (.iconst (-1), 1) := by decide +kernel
theorem dX6_readsLink_40 : decode cX6_readsLink 40 = .ok (.if_icmp .ne 5, 3) := by decide +kernel
theorem dX6_readsLink_43 : decode cX6_readsLink 43 = .ok (.iconst 0, 1) := by decide +kernel
theorem dX6_readsLink_44 : decode cX6_readsLink 44 = .ok (.ireturn, 1) := by decide +kernel
theorem dX6_readsLink_45 : decode cX6_readsLink 45 = .ok (.iload_n 2, 1) := by decide +kernel
theorem dX6_readsLink_46 : decode cX6_readsLink 46 = .ok (.iload_n 3, 1) := by decide +kernel
theorem dX6_readsLink_47 : decode cX6_readsLink 47 = .ok (.if_icmp .ne 15, 3) := by decide +kernel
theorem dX6_readsLink_50 : decode cX6_readsLink 50 = .ok (.aload_n 0, 1) := by decide +kernel
theorem dX6_readsLink_51 : decode cX6_readsLink 51 = .ok (.iconst 4, 1) := by decide +kernel
theorem dX6_readsLink_52 : decode cX6_readsLink 52 = .ok (.aload_n 0, 1) := by decide +kernel
theorem dX6_readsLink_53 : decode cX6_readsLink 53 = .ok (.getfield 109, 3) := by decide +kernel
theorem dX6_readsLink_56 : decode cX6_readsLink 56 = .ok (.invokevirtual 105, 3) := by decide +kernel
theorem dX6_readsLink_59 : decode cX6_readsLink 59 = .ok (.pop, 1) := by decide +kernel
theorem dX6_readsLink_60 : decode cX6_readsLink 60 = .ok (.iconst 0, 1) := by decide +kernel
theorem dX6_readsLink_61 : decode cX6_readsLink 61 = .ok (.ireturn, 1) := by decide +kernel
theorem dX6_readsLink_62 : decode cX6_readsLink 62 = .ok (.aload_n 0, 1) := by decide +kernel
theorem dX6_readsLink_63 : decode cX6_readsLink 63 = .ok (.getfield 17, 3) := by decide +kernel
theorem dX6_readsLink_66 : decode cX6_readsLink 66 = .ok (.iconst 2, 1) := by decide +kernel
theorem dX6_readsLink_67 : decode cX6_readsLink 67 = .ok (.iload_n 1, 1) := by decide +kernel
theorem dX6_readsLink_68 : decode cX6_readsLink 68 = .ok (.imul, 1) := by decide +kernel
theorem dX6_readsLink_69 : decode cX6_readsLink 69 = .ok (.iload_n 2, 1) := by decide +kernel
theorem dX6_readsLink_70 : decode cX6_readsLink 70 = .ok (.iastore, 1) := by decide +kernel
theorem dX6_readsLink_71 : decode cX6_readsLink 71 = .ok (.aload_n 0, 1) := by decide +kernel
theorem dX6_readsLink_72 : decode cX6_readsLink 72 = .ok (.getfield 17, 3) := by decide +kernel
theorem dX6_readsLink_75 : decode cX6_readsLink 75 = .ok (.iconst 2, 1) := by decide +kernel
theorem dX6_readsLink_76 : decode cX6_readsLink 76 = .ok (.iload_n 1, 1) := by decide +kernel
theorem dX6_readsLink_77 : decode cX6_readsLink 77 = .ok (.imul, 1) := by decide +kernel
theorem dX6_readsLink_78 : decode cX6_readsLink 78 = .ok (.iconst 1, 1) := by decide +kernel
theorem dX6_readsLink_79 : decode cX6_readsLink 79 = .ok (.iadd, 1) := by decide +kernel
theorem dX6_readsLink_80 : decode cX6_readsLink 80 = .ok (.iload_n 3, 1) := by decide +kernel
theorem dX6_readsLink_81 : decode cX6_readsLink 81 = .ok (.iastore, 1) := by decide +kernel
theorem dX6_readsLink_82 : decode cX6_readsLink 82 = .ok (.aload_n 0, 1) := by decide +kernel
theorem dX6_readsLink_83 : decode cX6_readsLink 83 = .ok (.getfield 20, 3) := by decide +kernel
theorem dX6_readsLink_86 : decode cX6_readsLink 86 = .ok (.iload_n 1, 1) := by decide +kernel
theorem dX6_readsLink_87 : decode cX6_readsLink 87 = .ok (.aload_n 0, 1) := by decide +kernel
theorem dX6_readsLink_88 : decode cX6_readsLink 88 = .ok (.iconst 0, 1) := by decide +kernel
theorem dX6_readsLink_89 : decode cX6_readsLink 89 = .ok (.iconst 3, 1) := by decide +kernel
theorem dX6_readsLink_90 : decode cX6_readsLink 90 = .ok (.invokevirtual 118, 3) := by decide +kernel
theorem dX6_readsLink_93 : decode cX6_readsLink 93 = .ok (.iastore, 1) := by decide +kernel
theorem dX6_readsLink_94 : decode cX6_readsLink 94 = .ok (.aload_n 0, 1) := by decide +kernel
theorem dX6_readsLink_95 : decode cX6_readsLink 95 = .ok (.getfield 23, 3) := by decide +kernel
theorem dX6_readsLink_98 : decode cX6_readsLink 98 = .ok (.iload_n 1, 1) := by decide +kernel
theorem dX6_readsLink_99 : decode cX6_readsLink 99 = .ok (.aload_n 0, 1) := by decide +kernel
theorem dX6_readsLink_100 : decode cX6_readsLink 100 = .ok (.getfield 20, 3) := by decide +kernel
theorem dX6_readsLink_103 : decode cX6_readsLink 103 = .ok (.iload_n 1, 1) := by decide +kernel
theorem dX6_readsLink_104 : decode cX6_readsLink 104 = .ok (.iaload, 1) := by decide +kernel
theorem dX6_readsLink_105 : decode cX6_readsLink 105 = .ok (.iconst (-1), 1) := by decide +kernel
theorem dX6_readsLink_106 : decode cX6_readsLink 106 = .ok (.if_icmp .ne 7, 3) := by decide +kernel
theorem dX6_readsLink_109 : decode cX6_readsLink 109 = .ok (.iconst (-1), 1) := by decide +kernel
theorem dX6_readsLink_110 : decode cX6_readsLink 110 = .ok (.goto 10, 3) := by decide +kernel
theorem dX6_readsLink_113 : decode cX6_readsLink 113 = .ok (.aload_n 0, 1) := by decide +kernel
theorem dX6_readsLink_114 : decode cX6_readsLink 114 = .ok (.iconst 1, 1) := by decide +kernel
theorem dX6_readsLink_115 : decode cX6_readsLink 115 = .ok (.bipush 99, 2) := by decide +kernel
theorem dX6_readsLink_117 : decode cX6_readsLink 117 = .ok (.invokevirtual 118, 3) := by decide +kernel
theorem dX6_readsLink_120 : decode cX6_readsLink 120 = .ok (.iastore, 1) := by decide +kernel
theorem dX6_readsLink_121 : decode cX6_readsLink 121 = .ok (.aload_n 0, 1) := by decide +kernel
theorem dX6_readsLink_122 : decode cX6_readsLink 122 = .ok (.getfield 26, 3) := by decide +kernel
theorem dX6_readsLink_125 : decode cX6_readsLink 125 = .ok (.iconst 2, 1) := by decide +kernel
theorem dX6_readsLink_126 : decode cX6_readsLink 126 = .ok (.iload_n 1, 1) := by decide +kernel
theorem dX6_readsLink_127 : decode cX6_readsLink 127 = .ok (.imul, 1) := by decide +kernel
theorem dX6_readsLink_128 : decode cX6_readsLink 128 = .ok (.aload_n 0, 1) := by decide +kernel
theorem dX6_readsLink_129 : decode cX6_readsLink 129 = .ok (.getfield 23, 3) := by decide +kernel
theorem dX6_readsLink_132 : decode cX6_readsLink 132 = .ok (.iload_n 1, 1) := by decide +kernel
theorem dX6_readsLink_133 : decode cX6_readsLink 133 = .ok (.iaload, 1) := by decide +kernel
theorem dX6_readsLink_134 : decode cX6_readsLink 134 = .ok (.iconst (-1), 1) := by decide +kernel
theorem dX6_readsLink_135 : decode cX6_readsLink 135 = .ok (.if_icmp .ne 7, 3) := by decide +kernel
theorem dX6_readsLink_138 : decode cX6_readsLink 138 = .ok (.iconst (-1), 1) := by decide +kernel
theorem dX6_readsLink_139 : decode cX6_readsLink 139 = .ok (.goto 10, 3) := by decide +kernel
theorem dX6_readsLink_142 : decode cX6_readsLink 142 = .ok (.aload_n 0, 1) := by decide +kernel
theorem dX6_readsLink_143 : decode cX6_readsLink 143 = .ok (.iconst 0, 1) := by decide +kernel
theorem dX6_readsLink_144 : decode cX6_readsLink 144 = .ok (.bipush 9, 2) := by decide +kernel
theorem dX6_readsLink_146 : decode cX6_readsLink 146 = .ok (.invokevirtual 118, 3) := by decide +kernel
theorem dX6_readsLink_149 : decode cX6_readsLink 149 = .ok (.iastore, 1) := by decide +kernel
theorem dX6_readsLink_150 : decode cX6_readsLink 150 = .ok (.aload_n 0, 1) := by decide +kernel
theorem dX6_readsLink_151 : decode cX6_readsLink 151 = .ok (.getfield 26, 3) := by decide +kernel
theorem dX6_readsLink_154 : decode cX6_readsLink 154 = .ok (.iconst 2, 1) := by decide +kernel
theorem dX6_readsLink_155 : decode cX6_readsLink 155 = .ok (.iload_n 1, 1) := by decide +kernel
theorem dX6_readsLink_156 : decode cX6_readsLink 156 = .ok (.imul, 1) := by decide +kernel
theorem dX6_readsLink_157 : decode cX6_readsLink 157 = .ok (.iconst 1, 1) := by decide +kernel
theorem dX6_readsLink_158 : decode cX6_readsLink 158 = .ok (.iadd, 1) := by decide +kernel
theorem dX6_readsLink_159 : decode cX6_readsLink 159 = .ok (.aload_n 0, 1) := by decide +kernel
theorem dX6_readsLink_160 : decode cX6_readsLink 160 = .ok (.getfield 26, 3) := by decide +kernel
theorem dX6_readsLink_163 : decode cX6_readsLink 163 = .ok (.iconst 2, 1) := by decide +kernel
theorem dX6_readsLink_164 : decode cX6_readsLink 164 = .ok (.iload_n 1, 1) := by decide +kernel
theorem dX6_readsLink_165 : decode cX6_readsLink 165 = .ok (.imul, 1) := by decide +kernel
theorem dX6_readsLink_166 : decode cX6_readsLink 166 = .ok (.iaload, 1) := by decide +kernel
theorem dX6_readsLink_167 : decode cX6_readsLink 167 = .ok (.iconst (-1), 1) := by decide +kernel
theorem dX6_readsLink_168 : decode cX6_readsLink 168 = .ok (.if_icmp .ne 7, 3) := by decide +kernel
theorem dX6_readsLink_171 : decode cX6_readsLink 171 = .ok (.iconst (-1), 1) := by decide +kernel
theorem dX6_readsLink_172 : decode cX6_readsLink 172 = .ok (.goto 10, 3) := by decide +kernel
theorem dX6_readsLink_175 : decode cX6_readsLink 175 = .ok (.aload_n 0, 1) := by decide +kernel
theorem dX6_readsLink_176 : decode cX6_readsLink 176 = .ok (.iconst 0, 1) := by decide +kernel
theorem dX6_readsLink_177 : decode cX6_readsLink 177 = .ok (.bipush 9, 2) := by decide +kernel
theorem dX6_readsLink_179 : decode cX6_readsLink 179 = .ok (.invokevirtual 118, 3) := by decide +kernel
theorem dX6_readsLink_182 : decode cX6_readsLink 182 = .ok (.iastore, 1) := by decide +kernel
theorem dX6_readsLink_183 : decode cX6_readsLink 183 = .ok (.aload_n 0, 1) := by decide +kernel
theorem dX6_readsLink_184 : decode cX6_readsLink 184 = .ok (.dup, 1) := by decide +kernel
theorem dX6_readsLink_185 : decode cX6_readsLink 185 = .ok (.getfield 112, 3) := by decide +kernel
theorem dX6_readsLink_188 : decode cX6_readsLink 188 = .ok (.iconst 1, 1) := by decide +kernel
theorem dX6_readsLink_189 : decode cX6_readsLink 189 = .ok (.iadd, 1) := by decide +kernel
theorem dX6_readsLink_190 : decode cX6_readsLink 190 = .ok (.putfield 112, 3) := by decide +kernel
theorem dX6_readsLink_193 : decode cX6_readsLink 193 = .ok (.aload_n 0, 1) := by decide +kernel
theorem dX6_readsLink_194 : decode cX6_readsLink 194 = .ok (.getfield 26, 3) := by decide +kernel
theorem dX6_readsLink_197 : decode cX6_readsLink 197 = .ok (.iconst 2, 1) := by decide +kernel
theorem dX6_readsLink_198 : decode cX6_readsLink 198 = .ok (.iload_n 1, 1) := by decide +kernel
theorem dX6_readsLink_199 : decode cX6_readsLink 199 = .ok (.imul, 1) := by decide +kernel
theorem dX6_readsLink_200 : decode cX6_readsLink 200 = .ok (.iconst 1, 1) := by decide +kernel
theorem dX6_readsLink_201 : decode cX6_readsLink 201 = .ok (.iadd, 1) := by decide +kernel
theorem dX6_readsLink_202 : decode cX6_readsLink 202 = .ok (.iaload, 1) := by decide +kernel
theorem dX6_readsLink_203 : decode cX6_readsLink 203 = .ok (.iconst (-1), 1) := by decide +kernel
theorem dX6_readsLink_204 : decode cX6_readsLink 204 = .ok (.if_icmp .eq 16, 3) := by decide +kernel
theorem dX6_readsLink_207 : decode cX6_readsLink 207 = .ok (.aload_n 0, 1) := by decide +kernel
theorem dX6_readsLink_208 : decode cX6_readsLink 208 = .ok (.bipush 59, 2) := by decide +kernel
theorem dX6_readsLink_210 : decode cX6_readsLink 210 = .ok (.invokevirtual 121, 3) := by decide +kernel
theorem dX6_readsLink_213 : decode cX6_readsLink 213 = .ok (.ifCond .eq 7, 3) := by decide +kernel
theorem dX6_readsLink_216 : decode cX6_readsLink 216 = .ok (.iconst 1, 1) := by decide +kernel
theorem dX6_readsLink_217 : decode cX6_readsLink 217 = .ok (.goto 4, 3) := by decide +kernel
theorem dX6_readsLink_220 : decode cX6_readsLink 220 = .ok (.iconst 0, 1) := by decide +kernel
theorem dX6_readsLink_221 : decode cX6_readsLink 221 = .ok (.ireturn, 1) := by decide +kernel
set_option maxRecDepth 20000 in
theorem ggX6_readsWinds_X6_readsNumber : GoodIn wsX6_readsWinds wsX6_readsNumber := goodIn_r _ [8, 3, 9, 10, 11, 12, 7, 13, 14, 15, 16, 17, 18, 19, 20, 21, 22, 23, 24, 25, 26, 27, 32, 33, 34, 35, 36, 37, 38, 39, 40, 41, 42, 43, 44, 45, 46, 47, 48, 49, 50, 51, 52, 53, 54, 55, 56, 57, 58, 59, 60, 61, 62, 63, 64, 65, 66, 67, 68, 69] (by decide +kernel) (by decide +kernel)
set_option maxRecDepth 20000 in
theorem gX6_readsWinds_X6_readsNumber : GoodIn wsX6_readsWinds (wsV RX6 118 RX6 yX6_readsNumber wsX6_readsNumber) := goodIn_app (goodIn_of _ (by decide +kernel)) ggX6_readsWinds_X6_readsNumber
set_option maxRecDepth 20000 in
theorem ggX6_readsWinds_X6_nextLetter : GoodIn wsX6_readsWinds wsX6_nextLetter := goodIn_r _ [13, 3, 14, 15, 16, 7, 17, 18, 19, 32, 33, 34, 35, 36, 37, 38, 39, 40, 41, 42, 43, 44, 45, 46, 47, 48, 49, 50, 51, 52, 53, 54, 55, 56, 57, 58, 59, 60, 61, 62, 63, 64, 65, 66, 67, 68, 69] (by decide +kernel) (by decide +kernel)
set_option maxRecDepth 20000 in
theorem gX6_readsWinds_X6_nextLetter : GoodIn wsX6_readsWinds (wsV RX6 101 RX6 yX6_nextLetter wsX6_nextLetter) := goodIn_app (goodIn_of _ (by decide +kernel)) ggX6_readsWinds_X6_nextLetter
set_option maxRecDepth 20000 in
theorem ggX6_readsWinds_X6_readsSign : GoodIn wsX6_readsWinds wsX6_readsSign := goodIn_r _ [31, 3, 10, 11, 12, 7, 13, 14, 15, 16, 17, 18, 19, 23, 24, 25, 26, 27, 32, 33, 34, 35, 36, 37, 38, 39, 40, 41, 42, 43, 44, 45, 46, 47, 48, 49, 50, 51, 52, 53, 54, 55, 56, 57, 58, 59, 60, 61, 62, 63, 64, 65, 66, 67, 68, 69] (by decide +kernel) (by decide +kernel)
set_option maxRecDepth 20000 in
theorem gX6_readsWinds_X6_readsSign : GoodIn wsX6_readsWinds (wsV RX6 121 RX6 yX6_readsSign wsX6_readsSign) := goodIn_app (goodIn_of _ (by decide +kernel)) ggX6_readsWinds_X6_readsSign
theorem dX6_readsWinds_0 : decode cX6_readsWinds 0 = .ok (.iconst 1, 1) := by decide +kernel
theorem dX6_readsWinds_1 : decode cX6_readsWinds 1 = .ok (.istore_n 1, 1) := by decide +kernel
theorem dX6_readsWinds_2 : decode cX6_readsWinds 2 = .ok (.iload_n 1, 1) := by decide +kernel
theorem dX6_readsWinds_3 : decode cX6_readsWinds 3 = .ok (.ifCond .eq 89, 3) := by decide +kernel
theorem dX6_readsWinds_6 : decode cX6_readsWinds 6 = .ok (.aload_n 0, 1) := by decide +kernel
theorem dX6_readsWinds_7 : decode cX6_readsWinds 7 = .ok (.getfield 29, 3) := by decide +kernel
theorem dX6_readsWinds_10 : decode cX6_readsWinds 10 = .ok (.aload_n 0, 1) := by decide +kernel
theorem dX6_readsWinds_11 : decode cX6_readsWinds 11 = .ok (.getfield 125, 3) := by decide +kernel
theorem dX6_readsWinds_14 : decode cX6_readsWinds 14 = .ok (.aload_n 0, 1) := by decide +kernel
theorem dX6_readsWinds_15 : decode cX6_readsWinds 15 = .ok (.iconst 0, 1) := by decide +kernel
theorem dX6_readsWinds_16 : decode cX6_readsWinds 16 = .ok (.bipush 9, 2) := by decide +kernel
theorem dX6_readsWinds_18 : decode cX6_readsWinds 18 = .ok (.invokevirtual 118, 3) := by decide +kernel
theorem dX6_readsWinds_21 : decode cX6_readsWinds 21 = .ok (.iastore, 1) := by decide +kernel
theorem dX6_readsWinds_22 : decode cX6_readsWinds 22 = .ok (.aload_n 0, 1) := by decide +kernel
theorem dX6_readsWinds_23 : decode cX6_readsWinds 23 = .ok (.getfield 29, 3) := by decide +kernel
theorem dX6_readsWinds_26 : decode cX6_readsWinds 26 = .ok (.aload_n 0, 1) := by decide +kernel
theorem dX6_readsWinds_27 : decode cX6_readsWinds 27 = .ok (.getfield 125, 3) := by decide +kernel
theorem dX6_readsWinds_30 : decode cX6_readsWinds 30 = .ok (.iaload, 1) := by decide +kernel
theorem dX6_readsWinds_31 : decode cX6_readsWinds 31 = .ok (.iconst (-1), 1) := by decide +kernel
theorem dX6_readsWinds_32 : decode cX6_readsWinds 32 = .ok (.if_icmp .ne 5, 3) := by decide +kernel
theorem dX6_readsWinds_35 : decode cX6_readsWinds 35 = .ok (.iconst 0, 1) := by decide +kernel
theorem dX6_readsWinds_36 : decode cX6_readsWinds 36 = .ok (.ireturn, 1) := by decide +kernel
theorem dX6_readsWinds_37 : decode cX6_readsWinds 37 = .ok (.aload_n 0, 1) := by decide +kernel
theorem dX6_readsWinds_38 : decode cX6_readsWinds 38 = .ok (.dup, 1) := by decide +kernel
theorem dX6_readsWinds_39 : decode cX6_readsWinds 39 = .ok (.getfield 125, 3) := by decide +kernel
theorem dX6_readsWinds_42 : decode cX6_readsWinds 42 = .ok (.iconst 1, 1) := by decide +kernel
theorem dX6_readsWinds_43 : decode cX6_readsWinds 43 = .ok (.iadd, 1) := by decide +kernel
theorem dX6_readsWinds_44 : decode cX6_readsWinds 44 = .ok (.putfield 125, 3) := by decide +kernel
theorem dX6_readsWinds_47 : decode cX6_readsWinds 47 = .ok (.aload_n 0, 1) := by decide +kernel
theorem dX6_readsWinds_48 : decode cX6_readsWinds 48 = .ok (.invokevirtual 101, 3) := by decide +kernel
theorem dX6_readsWinds_51 : decode cX6_readsWinds 51 = .ok (.bipush 44, 2) := by decide +kernel
theorem dX6_readsWinds_53 : decode cX6_readsWinds 53 = .ok (.if_icmp .ne 16, 3) := by decide +kernel
theorem dX6_readsWinds_56 : decode cX6_readsWinds 56 = .ok (.aload_n 0, 1) := by decide +kernel
theorem dX6_readsWinds_57 : decode cX6_readsWinds 57 = .ok (.getfield 125, 3) := by decide +kernel
theorem dX6_readsWinds_60 : decode cX6_readsWinds 60 = .ok (.bipush 12, 2) := by decide +kernel
theorem dX6_readsWinds_62 : decode cX6_readsWinds 62 = .ok (.if_icmp .ge 7, 3) := by decide +kernel
theorem dX6_readsWinds_65 : decode cX6_readsWinds 65 = .ok (.iconst 1, 1) := by decide +kernel
theorem dX6_readsWinds_66 : decode cX6_readsWinds 66 = .ok (.goto 4, 3) := by decide +kernel
theorem dX6_readsWinds_69 : decode cX6_readsWinds 69 = .ok (.iconst 0, 1) := by decide +kernel
theorem dX6_readsWinds_70 : decode cX6_readsWinds 70 = .ok (.istore_n 1, 1) := by decide +kernel
theorem dX6_readsWinds_71 : decode cX6_readsWinds 71 = .ok (.aload_n 0, 1) := by decide +kernel
theorem dX6_readsWinds_72 : decode cX6_readsWinds 72 = .ok (.dup, 1) := by decide +kernel
theorem dX6_readsWinds_73 : decode cX6_readsWinds 73 = .ok (.getfield 91, 3) := by decide +kernel
theorem dX6_readsWinds_76 : decode cX6_readsWinds 76 = .ok (.iload_n 1, 1) := by decide +kernel
theorem dX6_readsWinds_77 : decode cX6_readsWinds 77 = .ok (.ifCond .eq 7, 3) := by decide +kernel
theorem dX6_readsWinds_80 : decode cX6_readsWinds 80 = .ok (.iconst 1, 1) := by decide +kernel
theorem dX6_readsWinds_81 : decode cX6_readsWinds 81 = .ok (.goto 4, 3) := by decide +kernel
theorem dX6_readsWinds_84 : decode cX6_readsWinds 84 = .ok (.iconst 0, 1) := by decide +kernel
theorem dX6_readsWinds_85 : decode cX6_readsWinds 85 = .ok (.iadd, 1) := by decide +kernel
theorem dX6_readsWinds_86 : decode cX6_readsWinds 86 = .ok (.putfield 91, 3) := by decide +kernel
theorem dX6_readsWinds_89 : decode cX6_readsWinds 89 = .ok (.goto (-87), 3) := by decide +kernel
theorem dX6_readsWinds_92 : decode cX6_readsWinds 92 = .ok (.aload_n 0, 1) := by decide +kernel
theorem dX6_readsWinds_93 : decode cX6_readsWinds 93 = .ok (.bipush 59, 2) := by decide +kernel
theorem dX6_readsWinds_95 : decode cX6_readsWinds 95 = .ok (.invokevirtual 121, 3) := by decide +kernel
theorem dX6_readsWinds_98 : decode cX6_readsWinds 98 = .ok (.ireturn, 1) := by decide +kernel
set_option maxRecDepth 20000 in
theorem ggX6_readsClause_X6_nextLetter : GoodIn wsX6_readsClause wsX6_nextLetter := goodIn_r _ [9, 1, 10, 11, 12, 8, 13, 14, 15, 46, 47, 48, 49, 50, 51, 52, 53, 54, 55, 56, 57, 58, 59, 60, 61, 62, 63, 64, 65, 66, 67, 68, 69, 70, 71, 72, 73, 74, 75, 76, 77, 78, 79, 80, 81, 82, 83] (by decide +kernel) (by decide +kernel)
set_option maxRecDepth 20000 in
theorem gX6_readsClause_X6_nextLetter : GoodIn wsX6_readsClause (wsV RX6 101 RX6 yX6_nextLetter wsX6_nextLetter) := goodIn_app (goodIn_of _ (by decide +kernel)) ggX6_readsClause_X6_nextLetter
set_option maxRecDepth 20000 in
theorem ggX6_readsClause_X6_readsNumber : GoodIn wsX6_readsClause wsX6_readsNumber := goodIn_r _ [19, 1, 20, 5, 6, 7, 8, 9, 10, 11, 12, 13, 14, 15, 21, 22, 23, 24, 25, 26, 27, 28, 46, 47, 48, 49, 50, 51, 52, 53, 54, 55, 56, 57, 58, 59, 60, 61, 62, 63, 64, 65, 66, 67, 68, 69, 70, 71, 72, 73, 74, 75, 76, 77, 78, 79, 80, 81, 82, 83] (by decide +kernel) (by decide +kernel)
set_option maxRecDepth 20000 in
theorem gX6_readsClause_X6_readsNumber : GoodIn wsX6_readsClause (wsV RX6 118 RX6 yX6_readsNumber wsX6_readsNumber) := goodIn_app (goodIn_of _ (by decide +kernel)) ggX6_readsClause_X6_readsNumber
set_option maxRecDepth 20000 in
theorem ggX6_readsClause_X6_readsSign : GoodIn wsX6_readsClause wsX6_readsSign := goodIn_r _ [32, 1, 5, 6, 7, 8, 9, 10, 11, 12, 13, 14, 15, 24, 25, 26, 27, 28, 46, 47, 48, 49, 50, 51, 52, 53, 54, 55, 56, 57, 58, 59, 60, 61, 62, 63, 64, 65, 66, 67, 68, 69, 70, 71, 72, 73, 74, 75, 76, 77, 78, 79, 80, 81, 82, 83] (by decide +kernel) (by decide +kernel)
set_option maxRecDepth 20000 in
theorem gX6_readsClause_X6_readsSign : GoodIn wsX6_readsClause (wsV RX6 121 RX6 yX6_readsSign wsX6_readsSign) := goodIn_app (goodIn_of _ (by decide +kernel)) ggX6_readsClause_X6_readsSign
set_option maxRecDepth 20000 in
theorem ggX6_readsClause_X6_fails : GoodIn wsX6_readsClause wsX6_fails := goodIn_r _ [27, 28, 1, 46, 47, 48, 49, 50, 51, 52, 53, 54, 55, 56, 57, 58, 59, 60, 61, 62, 63, 64, 65, 66, 67, 68, 69, 70, 71, 72, 73, 74, 75, 76, 77, 78, 79, 80, 81, 82, 83] (by decide +kernel) (by decide +kernel)
set_option maxRecDepth 20000 in
theorem gX6_readsClause_X6_fails : GoodIn wsX6_readsClause (wsV RX6 105 RX6 yX6_fails wsX6_fails) := goodIn_app (goodIn_of _ (by decide +kernel)) ggX6_readsClause_X6_fails
set_option maxRecDepth 20000 in
theorem ggX6_readsClause_X6_readsLink : GoodIn wsX6_readsClause wsX6_readsLink := goodIn_r _ [36, 4, 2, 20, 37, 38, 39, 40, 16, 17, 18, 8, 19, 1, 5, 6, 7, 9, 10, 11, 12, 13, 14, 15, 21, 22, 23, 24, 25, 26, 27, 28, 29, 30, 31, 32, 46, 47, 48, 49, 50, 51, 52, 53, 54, 55, 56, 57, 58, 59, 60, 61, 62, 63, 64, 65, 66, 67, 68, 69, 70, 71, 72, 73, 74, 75, 76, 77, 78, 79, 80, 81, 82, 83] (by decide +kernel) (by decide +kernel)
set_option maxRecDepth 20000 in
theorem gX6_readsClause_X6_readsLink : GoodIn wsX6_readsClause (wsV RX6 128 RX6 yX6_readsLink wsX6_readsLink) := goodIn_app (goodIn_of _ (by decide +kernel)) ggX6_readsClause_X6_readsLink
set_option maxRecDepth 20000 in
theorem ggX6_readsClause_X6_readsWinds : GoodIn wsX6_readsClause wsX6_readsWinds := goodIn_r _ [44, 45, 3, 1, 16, 17, 18, 8, 19, 20, 5, 6, 7, 9, 10, 11, 12, 13, 14, 15, 21, 22, 23, 24, 25, 26, 27, 28, 29, 30, 31, 32, 46, 47, 48, 49, 50, 51, 52, 53, 54, 55, 56, 57, 58, 59, 60, 61, 62, 63, 64, 65, 66, 67, 68, 69, 70, 71, 72, 73, 74, 75, 76, 77, 78, 79, 80, 81, 82, 83] (by decide +kernel) (by decide +kernel)
set_option maxRecDepth 20000 in
theorem gX6_readsClause_X6_readsWinds : GoodIn wsX6_readsClause (wsV RX6 132 RX6 yX6_readsWinds wsX6_readsWinds) := goodIn_app (goodIn_of _ (by decide +kernel)) ggX6_readsClause_X6_readsWinds
theorem dX6_readsClause_0 : decode cX6_readsClause 0 = .ok (.aload_n 0, 1) := by decide +kernel
theorem dX6_readsClause_1 : decode cX6_readsClause 1 = .ok (.invokevirtual 101, 3) := by decide +kernel
theorem dX6_readsClause_4 : decode cX6_readsClause 4 = .ok (.istore_n 1, 1) := by decide +kernel
theorem dX6_readsClause_5 : decode cX6_readsClause 5 = .ok (.aload_n 0, 1) := by decide +kernel
theorem dX6_readsClause_6 : decode cX6_readsClause 6 = .ok (.getfield 91, 3) := by decide +kernel
theorem dX6_readsClause_9 : decode cX6_readsClause 9 = .ok (.istore_n 2, 1) := by decide +kernel
theorem dX6_readsClause_10 : decode cX6_readsClause 10 = .ok (.aload_n 0, 1) := by decide +kernel
theorem dX6_readsClause_11 : decode cX6_readsClause 11 = .ok (.dup, 1) := by decide +kernel
theorem dX6_readsClause_12 : decode cX6_readsClause 12 = .ok (.getfield 91, 3) := by decide +kernel
theorem dX6_readsClause_15 : decode cX6_readsClause 15 = .ok (.iconst 1, 1) := by decide +kernel
theorem dX6_readsClause_16 : decode cX6_readsClause 16 = .ok (.iadd, 1) := by decide +kernel
theorem dX6_readsClause_17 : decode cX6_readsClause 17 = .ok (.putfield 91, 3) := by decide +kernel
theorem dX6_readsClause_20 : decode cX6_readsClause 20 = .ok (.iload_n 1, 1) := by decide +kernel
theorem dX6_readsClause_21 : decode cX6_readsClause 21 = .ok (.bipush 115, 2) := by decide +kernel
theorem dX6_readsClause_23 : decode cX6_readsClause 23 = .ok (.if_icmp .ne 52, 3) := by decide +kernel
theorem dX6_readsClause_26 : decode cX6_readsClause 26 = .ok (.aload_n 0, 1) := by decide +kernel
theorem dX6_readsClause_27 : decode cX6_readsClause 27 = .ok (.getfield 115, 3) := by decide +kernel
theorem dX6_readsClause_30 : decode cX6_readsClause 30 = .ok (.ifCond .ne 45, 3) := by decide +kernel
theorem dX6_readsClause_33 : decode cX6_readsClause 33 = .ok (.aload_n 0, 1) := by decide +kernel
theorem dX6_readsClause_34 : decode cX6_readsClause 34 = .ok (.iconst 2, 1) := by decide +kernel
theorem dX6_readsClause_35 : decode cX6_readsClause 35 = .ok (.bipush 8, 2) := by decide +kernel
theorem dX6_readsClause_37 : decode cX6_readsClause 37 = .ok (.invokevirtual 118, 3) := by decide +kernel
theorem dX6_readsClause_40 : decode cX6_readsClause 40 = .ok (.istore_n 3, 1) := by decide +kernel
theorem dX6_readsClause_41 : decode cX6_readsClause 41 = .ok (.aload_n 0, 1) := by decide +kernel
theorem dX6_readsClause_42 : decode cX6_readsClause 42 = .ok (.iload_n 3, 1) := by decide +kernel
theorem dX6_readsClause_43 : decode cX6_readsClause 43 = .ok (.iconst (-1), 1) := by decide +kernel
theorem dX6_readsClause_44 : decode cX6_readsClause 44 = .ok (.if_icmp .ne 7, 3) := by decide +kernel
theorem dX6_readsClause_47 : decode cX6_readsClause 47 = .ok (.iconst 0, 1) := by decide +kernel
theorem dX6_readsClause_48 : decode cX6_readsClause 48 = .ok (.goto 4, 3) := by decide +kernel
theorem dX6_readsClause_51 : decode cX6_readsClause 51 = .ok (.iload_n 3, 1) := by decide +kernel
theorem dX6_readsClause_52 : decode cX6_readsClause 52 = .ok (.putfield 115, 3) := by decide +kernel
theorem dX6_readsClause_55 : decode cX6_readsClause 55 = .ok (.iload_n 3, 1) := by decide +kernel
theorem dX6_readsClause_56 : decode cX6_readsClause 56 = .ok (.iconst (-1), 1) := by decide +kernel
theorem dX6_readsClause_57 : decode cX6_readsClause 57 = .ok (.if_icmp .eq 16, 3) := by decide +kernel
theorem dX6_readsClause_60 : decode cX6_readsClause 60 = .ok (.aload_n 0, 1) := by decide +kernel
theorem dX6_readsClause_61 : decode cX6_readsClause 61 = .ok (.bipush 59, 2) := by decide +kernel
theorem dX6_readsClause_63 : decode cX6_readsClause 63 = .ok (.invokevirtual 121, 3) := by decide +kernel
theorem dX6_readsClause_66 : decode cX6_readsClause 66 = .ok (.ifCond .eq 7, 3) := by decide +kernel
theorem dX6_readsClause_69 : decode cX6_readsClause 69 = .ok (.iconst 1, 1) := by decide +kernel
theorem dX6_readsClause_70 : decode cX6_readsClause 70 = .ok (.goto 4, 3) := by decide +kernel
theorem dX6_readsClause_73 : decode cX6_readsClause 73 = .ok (.iconst 0, 1) := by decide +kernel
theorem dX6_readsClause_74 : decode cX6_readsClause 74 = .ok (.ireturn, 1) := by decide +kernel
theorem dX6_readsClause_75 : decode cX6_readsClause 75 = .ok (.iload_n 1, 1) := by decide +kernel
theorem dX6_readsClause_76 : decode cX6_readsClause 76 = .ok (.bipush 115, 2) := by decide +kernel
theorem dX6_readsClause_78 : decode cX6_readsClause 78 = .ok (.if_icmp .eq 15, 3) := by decide +kernel
theorem dX6_readsClause_81 : decode cX6_readsClause 81 = .ok (.iload_n 1, 1) := by decide +kernel
theorem dX6_readsClause_82 : decode cX6_readsClause 82 = .ok (.bipush 108, 2) := by decide +kernel
theorem dX6_readsClause_84 : decode cX6_readsClause 84 = .ok (.if_icmp .eq 9, 3) := by decide +kernel
theorem dX6_readsClause_87 : decode cX6_readsClause 87 = .ok (.iload_n 1, 1) := by decide +kernel
theorem dX6_readsClause_88 : decode cX6_readsClause 88 = .ok (.bipush 119, 2) := by decide +kernel
theorem dX6_readsClause_90 : decode cX6_readsClause 90 = .ok (.if_icmp .ne 7, 3) := by decide +kernel
theorem dX6_readsClause_93 : decode cX6_readsClause 93 = .ok (.iconst 1, 1) := by decide +kernel
theorem dX6_readsClause_94 : decode cX6_readsClause 94 = .ok (.goto 4, 3) := by decide +kernel
theorem dX6_readsClause_97 : decode cX6_readsClause 97 = .ok (.iconst 0, 1) := by decide +kernel
theorem dX6_readsClause_98 : decode cX6_readsClause 98 = .ok (.istore_n 3, 1) := by decide +kernel
theorem dX6_readsClause_99 : decode cX6_readsClause 99 = .ok (.iload_n 3, 1) := by decide +kernel
theorem dX6_readsClause_100 : decode cX6_readsClause 100 = .ok (.ifCond .eq 10, 3) := by decide +kernel
theorem dX6_readsClause_103 : decode cX6_readsClause 103 = .ok (.aload_n 0, 1) := by decide +kernel
theorem dX6_readsClause_104 : decode cX6_readsClause 104 = .ok (.getfield 115, 3) := by decide +kernel
theorem dX6_readsClause_107 : decode cX6_readsClause 107 = .ok (.ifCond .ne 12, 3) := by decide +kernel
theorem dX6_readsClause_110 : decode cX6_readsClause 110 = .ok (.aload_n 0, 1) := by decide +kernel
theorem dX6_readsClause_111 : decode cX6_readsClause 111 = .ok (.iconst 1, 1) := by decide +kernel
theorem dX6_readsClause_112 : decode cX6_readsClause 112 = .ok (.iload_n 2, 1) := by decide +kernel
theorem dX6_readsClause_113 : decode cX6_readsClause 113 = .ok (.invokevirtual 105, 3) := by decide +kernel
theorem dX6_readsClause_116 : decode cX6_readsClause 116 = .ok (.pop, 1) := by decide +kernel
theorem dX6_readsClause_117 : decode cX6_readsClause 117 = .ok (.iconst 0, 1) := by decide +kernel
theorem dX6_readsClause_118 : decode cX6_readsClause 118 = .ok (.ireturn, 1) := by decide +kernel
theorem dX6_readsClause_119 : decode cX6_readsClause 119 = .ok (.iload_n 1, 1) := by decide +kernel
theorem dX6_readsClause_120 : decode cX6_readsClause 120 = .ok (.bipush 115, 2) := by decide +kernel
theorem dX6_readsClause_122 : decode cX6_readsClause 122 = .ok (.if_icmp .eq 28, 3) := by decide +kernel
theorem dX6_readsClause_125 : decode cX6_readsClause 125 = .ok (.iload_n 1, 1) := by decide +kernel
theorem dX6_readsClause_126 : decode cX6_readsClause 126 = .ok (.bipush 119, 2) := by decide +kernel
theorem dX6_readsClause_128 : decode cX6_readsClause 128 = .ok (.if_icmp .ne 13, 3) := by decide +kernel
theorem dX6_readsClause_131 : decode cX6_readsClause 131 = .ok (.aload_n 0, 1) := by decide +kernel
theorem dX6_readsClause_132 : decode cX6_readsClause 132 = .ok (.getfield 125, 3) := by decide +kernel
theorem dX6_readsClause_135 : decode cX6_readsClause 135 = .ok (.ifCond .le 19, 3) := by decide +kernel
theorem dX6_readsClause_138 : decode cX6_readsClause 138 = .ok (.goto 12, 3) := by decide +kernel
theorem dX6_readsClause_141 : decode cX6_readsClause 141 = .ok (.aload_n 0, 1) := by decide +kernel
theorem dX6_readsClause_142 : decode cX6_readsClause 142 = .ok (.getfield 112, 3) := by decide +kernel
theorem dX6_readsClause_145 : decode cX6_readsClause 145 = .ok (.bipush 10, 2) := by decide +kernel
theorem dX6_readsClause_147 : decode cX6_readsClause 147 = .ok (.if_icmp .ne 7, 3) := by decide +kernel
theorem dX6_readsClause_150 : decode cX6_readsClause 150 = .ok (.iconst 1, 1) := by decide +kernel
theorem dX6_readsClause_151 : decode cX6_readsClause 151 = .ok (.goto 4, 3) := by decide +kernel
theorem dX6_readsClause_154 : decode cX6_readsClause 154 = .ok (.iconst 0, 1) := by decide +kernel
theorem dX6_readsClause_155 : decode cX6_readsClause 155 = .ok (.istore 4, 2) := by decide +kernel
theorem dX6_readsClause_157 : decode cX6_readsClause 157 = .ok (.iload 4, 2) := by decide +kernel
theorem dX6_readsClause_159 : decode cX6_readsClause 159 = .ok (.ifCond .eq 12, 3) := by decide +kernel
theorem dX6_readsClause_162 : decode cX6_readsClause 162 = .ok (.aload_n 0, 1) := by decide +kernel
theorem dX6_readsClause_163 : decode cX6_readsClause 163 = .ok (.iconst 3, 1) := by decide +kernel
theorem dX6_readsClause_164 : decode cX6_readsClause 164 = .ok (.iload_n 2, 1) := by decide +kernel
theorem dX6_readsClause_165 : decode cX6_readsClause 165 = .ok (.invokevirtual 105, 3) := by decide +kernel
theorem dX6_readsClause_168 : decode cX6_readsClause 168 = .ok (.pop, 1) := by decide +kernel
theorem dX6_readsClause_169 : decode cX6_readsClause 169 = .ok (.iconst 0, 1) := by decide +kernel
theorem dX6_readsClause_170 : decode cX6_readsClause 170 = .ok (.ireturn, 1) := by decide +kernel
theorem dX6_readsClause_171 : decode cX6_readsClause 171 = .ok (.iload_n 1, 1) := by decide +kernel
theorem dX6_readsClause_172 : decode cX6_readsClause 172 = .ok (.bipush 108, 2) := by decide +kernel
theorem dX6_readsClause_174 : decode cX6_readsClause 174 = .ok (.if_icmp .ne 10, 3) := by decide +kernel
theorem dX6_readsClause_177 : decode cX6_readsClause 177 = .ok (.aload_n 0, 1) := by decide +kernel
theorem dX6_readsClause_178 : decode cX6_readsClause 178 = .ok (.invokevirtual 128, 3) := by decide +kernel
theorem dX6_readsClause_181 : decode cX6_readsClause 181 = .ok (.goto 7, 3) := by decide +kernel
theorem dX6_readsClause_184 : decode cX6_readsClause 184 = .ok (.aload_n 0, 1) := by decide +kernel
theorem dX6_readsClause_185 : decode cX6_readsClause 185 = .ok (.invokevirtual 132, 3) := by decide +kernel
theorem dX6_readsClause_188 : decode cX6_readsClause 188 = .ok (.ireturn, 1) := by decide +kernel
set_option maxRecDepth 20000 in
theorem ggX6_readsSea_X6_nextLetter : GoodIn wsX6_readsSea wsX6_nextLetter := goodIn_r _ [9, 1, 10, 11, 12, 8, 13, 14, 15, 50, 51, 52, 53, 54, 55, 56, 57, 58, 59, 60, 61, 62, 63, 64, 65, 66, 67, 68, 69, 70, 71, 72, 73, 74, 75, 76, 77, 78, 79, 80, 81, 82, 83, 84, 85, 86, 87] (by decide +kernel) (by decide +kernel)
set_option maxRecDepth 20000 in
theorem gX6_readsSea_X6_nextLetter : GoodIn wsX6_readsSea (wsV RX6 101 RX6 yX6_nextLetter wsX6_nextLetter) := goodIn_app (goodIn_of _ (by decide +kernel)) ggX6_readsSea_X6_nextLetter
set_option maxRecDepth 20000 in
theorem ggX6_readsSea_X6_readsClause : GoodIn wsX6_readsSea wsX6_readsClause := goodIn_r _ [19, 1, 2, 4, 3, 5, 6, 7, 8, 9, 10, 11, 12, 13, 14, 15, 20, 21, 22, 23, 24, 25, 26, 27, 28, 29, 30, 31, 32, 33, 34, 35, 36, 37, 38, 39, 40, 41, 42, 43, 44, 45, 46, 47, 48, 49, 50, 51, 52, 53, 54, 55, 56, 57, 58, 59, 60, 61, 62, 63, 64, 65, 66, 67, 68, 69, 70, 71, 72, 73, 74, 75, 76, 77, 78, 79, 80, 81, 82, 83, 84, 85, 86, 87] (by decide +kernel) (by decide +kernel)
set_option maxRecDepth 20000 in
theorem gX6_readsSea_X6_readsClause : GoodIn wsX6_readsSea (wsV RX6 135 RX6 yX6_readsClause wsX6_readsClause) := goodIn_app (goodIn_of _ (by decide +kernel)) ggX6_readsSea_X6_readsClause
theorem dX6_readsSea_0 : decode cX6_readsSea 0 = .ok (.aload_n 0, 1) := by decide +kernel
theorem dX6_readsSea_1 : decode cX6_readsSea 1 = .ok (.iconst 0, 1) := by decide +kernel
theorem dX6_readsSea_2 : decode cX6_readsSea 2 = .ok (.putfield 91, 3) := by decide +kernel
theorem dX6_readsSea_5 : decode cX6_readsSea 5 = .ok (.aload_n 0, 1) := by decide +kernel
theorem dX6_readsSea_6 : decode cX6_readsSea 6 = .ok (.iconst 0, 1) := by decide +kernel
theorem dX6_readsSea_7 : decode cX6_readsSea 7 = .ok (.putfield 115, 3) := by decide +kernel
theorem dX6_readsSea_10 : decode cX6_readsSea 10 = .ok (.aload_n 0, 1) := by decide +kernel
theorem dX6_readsSea_11 : decode cX6_readsSea 11 = .ok (.iconst 0, 1) := by decide +kernel
theorem dX6_readsSea_12 : decode cX6_readsSea 12 = .ok (.putfield 112, 3) := by decide +kernel
theorem dX6_readsSea_15 : decode cX6_readsSea 15 = .ok (.aload_n 0, 1) := by decide +kernel
theorem dX6_readsSea_16 : decode cX6_readsSea 16 = .ok (.iconst 0, 1) := by decide +kernel
theorem dX6_readsSea_17 : decode cX6_readsSea 17 = .ok (.putfield 125, 3) := by decide +kernel
theorem dX6_readsSea_20 : decode cX6_readsSea 20 = .ok (.iconst 1, 1) := by decide +kernel
theorem dX6_readsSea_21 : decode cX6_readsSea 21 = .ok (.istore_n 1, 1) := by decide +kernel
theorem dX6_readsSea_22 : decode cX6_readsSea 22 = .ok (.iload_n 1, 1) := by decide +kernel
theorem dX6_readsSea_23 : decode cX6_readsSea 23 = .ok (.ifCond .eq 19, 3) := by decide +kernel
theorem dX6_readsSea_26 : decode cX6_readsSea 26 = .ok (.aload_n 0, 1) := by decide +kernel
theorem dX6_readsSea_27 : decode cX6_readsSea 27 = .ok (.invokevirtual 101, 3) := by decide +kernel
theorem dX6_readsSea_30 : decode cX6_readsSea 30 = .ok (.iconst (-1), 1) := by decide +kernel
theorem dX6_readsSea_31 : decode cX6_readsSea 31 = .ok (.if_icmp .eq 11, 3) := by decide +kernel
theorem dX6_readsSea_34 : decode cX6_readsSea 34 = .ok (.aload_n 0, 1) := by decide +kernel
theorem dX6_readsSea_35 : decode cX6_readsSea 35 = .ok (.invokevirtual 135, 3) := by decide +kernel
theorem dX6_readsSea_38 : decode cX6_readsSea 38 = .ok (.istore_n 1, 1) := by decide +kernel
theorem dX6_readsSea_39 : decode cX6_readsSea 39 = .ok (.goto (-17), 3) := by decide +kernel
theorem dX6_readsSea_42 : decode cX6_readsSea 42 = .ok (.iload_n 1, 1) := by decide +kernel
theorem dX6_readsSea_43 : decode cX6_readsSea 43 = .ok (.ireturn, 1) := by decide +kernel
set_option maxRecDepth 20000 in
theorem ggX6_sea_X6_readsSea : GoodIn wsX6_sea wsX6_readsSea := goodIn_r _ [30, 2, 5, 7, 9, 31, 32, 33, 29, 34, 35, 36, 37, 38, 1, 39, 40, 41, 42, 43, 44, 45, 46, 47, 48, 49, 50, 51, 52, 53, 54, 55, 4, 56, 57, 58, 59, 60, 61, 62, 63, 12, 16, 18, 14, 64, 65, 66, 67, 20, 68, 69, 70, 71, 72, 73, 74, 75, 76, 77, 78, 79, 80, 81, 82, 83, 84, 85, 86, 87, 88, 89, 90, 91, 92, 93, 94, 95, 96, 97, 98, 99, 100, 101, 102, 103, 104, 105] (by decide +kernel) (by decide +kernel)
set_option maxRecDepth 20000 in
theorem gX6_sea_X6_readsSea : GoodIn wsX6_sea (wsV RX6 138 RX6 yX6_readsSea wsX6_readsSea) := goodIn_app (goodIn_of _ (by decide +kernel)) ggX6_sea_X6_readsSea
theorem dX6_sea_0 : decode cX6_sea 0 = .ok (.aload_n 0, 1) := by decide +kernel
theorem dX6_sea_1 : decode cX6_sea 1 = .ok (.invokevirtual 138, 3) := by decide +kernel
theorem dX6_sea_4 : decode cX6_sea 4 = .ok (.istore_n 1, 1) := by decide +kernel
theorem dX6_sea_5 : decode cX6_sea 5 = .ok (.aload_n 0, 1) := by decide +kernel
theorem dX6_sea_6 : decode cX6_sea 6 = .ok (.iconst 0, 1) := by decide +kernel
theorem dX6_sea_7 : decode cX6_sea 7 = .ok (.putfield 87, 3) := by decide +kernel
theorem dX6_sea_10 : decode cX6_sea 10 = .ok (.aload_n 0, 1) := by decide +kernel
theorem dX6_sea_11 : decode cX6_sea 11 = .ok (.iload_n 1, 1) := by decide +kernel
theorem dX6_sea_12 : decode cX6_sea 12 = .ok (.ifCond .eq 7, 3) := by decide +kernel
theorem dX6_sea_15 : decode cX6_sea 15 = .ok (.iconst (-1), 1) := by decide +kernel
theorem dX6_sea_16 : decode cX6_sea 16 = .ok (.goto 7, 3) := by decide +kernel
theorem dX6_sea_19 : decode cX6_sea 19 = .ok (.aload_n 0, 1) := by decide +kernel
theorem dX6_sea_20 : decode cX6_sea 20 = .ok (.getfield 91, 3) := by decide +kernel
theorem dX6_sea_23 : decode cX6_sea 23 = .ok (.putfield 13, 3) := by decide +kernel
theorem dX6_sea_26 : decode cX6_sea 26 = .ok (.iload_n 1, 1) := by decide +kernel
theorem dX6_sea_27 : decode cX6_sea 27 = .ok (.ifCond .ne 11, 3) := by decide +kernel
theorem dX6_sea_30 : decode cX6_sea 30 = .ok (.bipush (-10), 2) := by decide +kernel
theorem dX6_sea_32 : decode cX6_sea 32 = .ok (.aload_n 0, 1) := by decide +kernel
theorem dX6_sea_33 : decode cX6_sea 33 = .ok (.getfield 98, 3) := by decide +kernel
theorem dX6_sea_36 : decode cX6_sea 36 = .ok (.isub, 1) := by decide +kernel
theorem dX6_sea_37 : decode cX6_sea 37 = .ok (.ireturn, 1) := by decide +kernel
theorem dX6_sea_38 : decode cX6_sea 38 = .ok (.aload_n 0, 1) := by decide +kernel
theorem dX6_sea_39 : decode cX6_sea 39 = .ok (.aload_n 0, 1) := by decide +kernel
theorem dX6_sea_40 : decode cX6_sea 40 = .ok (.getfield 115, 3) := by decide +kernel
theorem dX6_sea_43 : decode cX6_sea 43 = .ok (.putfield 141, 3) := by decide +kernel
theorem dX6_sea_46 : decode cX6_sea 46 = .ok (.aload_n 0, 1) := by decide +kernel
theorem dX6_sea_47 : decode cX6_sea 47 = .ok (.aload_n 0, 1) := by decide +kernel
theorem dX6_sea_48 : decode cX6_sea 48 = .ok (.getfield 112, 3) := by decide +kernel
theorem dX6_sea_51 : decode cX6_sea 51 = .ok (.putfield 144, 3) := by decide +kernel
theorem dX6_sea_54 : decode cX6_sea 54 = .ok (.aload_n 0, 1) := by decide +kernel
theorem dX6_sea_55 : decode cX6_sea 55 = .ok (.aload_n 0, 1) := by decide +kernel
theorem dX6_sea_56 : decode cX6_sea 56 = .ok (.getfield 125, 3) := by decide +kernel
theorem dX6_sea_59 : decode cX6_sea 59 = .ok (.putfield 147, 3) := by decide +kernel
theorem dX6_sea_62 : decode cX6_sea 62 = .ok (.iconst 0, 1) := by decide +kernel
theorem dX6_sea_63 : decode cX6_sea 63 = .ok (.istore_n 2, 1) := by decide +kernel
theorem dX6_sea_64 : decode cX6_sea 64 = .ok (.iload_n 2, 1) := by decide +kernel
theorem dX6_sea_65 : decode cX6_sea 65 = .ok (.iconst 2, 1) := by decide +kernel
theorem dX6_sea_66 : decode cX6_sea 66 = .ok (.aload_n 0, 1) := by decide +kernel
theorem dX6_sea_67 : decode cX6_sea 67 = .ok (.getfield 144, 3) := by decide +kernel
theorem dX6_sea_70 : decode cX6_sea 70 = .ok (.imul, 1) := by decide +kernel
theorem dX6_sea_71 : decode cX6_sea 71 = .ok (.if_icmp .ge 33, 3) := by decide +kernel
theorem dX6_sea_74 : decode cX6_sea 74 = .ok (.aload_n 0, 1) := by decide +kernel
theorem dX6_sea_75 : decode cX6_sea 75 = .ok (.getfield 32, 3) := by decide +kernel
theorem dX6_sea_78 : decode cX6_sea 78 = .ok (.iload_n 2, 1) := by decide +kernel
theorem dX6_sea_79 : decode cX6_sea 79 = .ok (.aload_n 0, 1) := by decide +kernel
theorem dX6_sea_80 : decode cX6_sea 80 = .ok (.getfield 17, 3) := by decide +kernel
theorem dX6_sea_83 : decode cX6_sea 83 = .ok (.iload_n 2, 1) := by decide +kernel
theorem dX6_sea_84 : decode cX6_sea 84 = .ok (.iaload, 1) := by decide +kernel
theorem dX6_sea_85 : decode cX6_sea 85 = .ok (.iastore, 1) := by decide +kernel
theorem dX6_sea_86 : decode cX6_sea 86 = .ok (.aload_n 0, 1) := by decide +kernel
theorem dX6_sea_87 : decode cX6_sea 87 = .ok (.getfield 41, 3) := by decide +kernel
theorem dX6_sea_90 : decode cX6_sea 90 = .ok (.iload_n 2, 1) := by decide +kernel
theorem dX6_sea_91 : decode cX6_sea 91 = .ok (.aload_n 0, 1) := by decide +kernel
theorem dX6_sea_92 : decode cX6_sea 92 = .ok (.getfield 26, 3) := by decide +kernel
theorem dX6_sea_95 : decode cX6_sea 95 = .ok (.iload_n 2, 1) := by decide +kernel
theorem dX6_sea_96 : decode cX6_sea 96 = .ok (.iaload, 1) := by decide +kernel
theorem dX6_sea_97 : decode cX6_sea 97 = .ok (.iastore, 1) := by decide +kernel
theorem dX6_sea_98 : decode cX6_sea 98 = .ok (.iinc 2 1, 3) := by decide +kernel
theorem dX6_sea_101 : decode cX6_sea 101 = .ok (.goto (-37), 3) := by decide +kernel
theorem dX6_sea_104 : decode cX6_sea 104 = .ok (.iconst 0, 1) := by decide +kernel
theorem dX6_sea_105 : decode cX6_sea 105 = .ok (.istore_n 2, 1) := by decide +kernel
theorem dX6_sea_106 : decode cX6_sea 106 = .ok (.iload_n 2, 1) := by decide +kernel
theorem dX6_sea_107 : decode cX6_sea 107 = .ok (.aload_n 0, 1) := by decide +kernel
theorem dX6_sea_108 : decode cX6_sea 108 = .ok (.getfield 144, 3) := by decide +kernel
theorem dX6_sea_111 : decode cX6_sea 111 = .ok (.if_icmp .ge 33, 3) := by decide +kernel
theorem dX6_sea_114 : decode cX6_sea 114 = .ok (.aload_n 0, 1) := by decide +kernel
theorem dX6_sea_115 : decode cX6_sea 115 = .ok (.getfield 35, 3) := by decide +kernel
theorem dX6_sea_118 : decode cX6_sea 118 = .ok (.iload_n 2, 1) := by decide +kernel
theorem dX6_sea_119 : decode cX6_sea 119 = .ok (.aload_n 0, 1) := by decide +kernel
theorem dX6_sea_120 : decode cX6_sea 120 = .ok (.getfield 20, 3) := by decide +kernel
theorem dX6_sea_123 : decode cX6_sea 123 = .ok (.iload_n 2, 1) := by decide +kernel
theorem dX6_sea_124 : decode cX6_sea 124 = .ok (.iaload, 1) := by decide +kernel
theorem dX6_sea_125 : decode cX6_sea 125 = .ok (.iastore, 1) := by decide +kernel
theorem dX6_sea_126 : decode cX6_sea 126 = .ok (.aload_n 0, 1) := by decide +kernel
theorem dX6_sea_127 : decode cX6_sea 127 = .ok (.getfield 38, 3) := by decide +kernel
theorem dX6_sea_130 : decode cX6_sea 130 = .ok (.iload_n 2, 1) := by decide +kernel
theorem dX6_sea_131 : decode cX6_sea 131 = .ok (.aload_n 0, 1) := by decide +kernel
theorem dX6_sea_132 : decode cX6_sea 132 = .ok (.getfield 23, 3) := by decide +kernel
theorem dX6_sea_135 : decode cX6_sea 135 = .ok (.iload_n 2, 1) := by decide +kernel
theorem dX6_sea_136 : decode cX6_sea 136 = .ok (.iaload, 1) := by decide +kernel
theorem dX6_sea_137 : decode cX6_sea 137 = .ok (.iastore, 1) := by decide +kernel
theorem dX6_sea_138 : decode cX6_sea 138 = .ok (.iinc 2 1, 3) := by decide +kernel
theorem dX6_sea_141 : decode cX6_sea 141 = .ok (.goto (-35), 3) := by decide +kernel
theorem dX6_sea_144 : decode cX6_sea 144 = .ok (.iconst 0, 1) := by decide +kernel
theorem dX6_sea_145 : decode cX6_sea 145 = .ok (.istore_n 2, 1) := by decide +kernel
theorem dX6_sea_146 : decode cX6_sea 146 = .ok (.iload_n 2, 1) := by decide +kernel
theorem dX6_sea_147 : decode cX6_sea 147 = .ok (.aload_n 0, 1) := by decide +kernel
theorem dX6_sea_148 : decode cX6_sea 148 = .ok (.getfield 147, 3) := by decide +kernel
theorem dX6_sea_151 : decode cX6_sea 151 = .ok (.if_icmp .ge 21, 3) := by decide +kernel
theorem dX6_sea_154 : decode cX6_sea 154 = .ok (.aload_n 0, 1) := by decide +kernel
theorem dX6_sea_155 : decode cX6_sea 155 = .ok (.getfield 44, 3) := by decide +kernel
theorem dX6_sea_158 : decode cX6_sea 158 = .ok (.iload_n 2, 1) := by decide +kernel
theorem dX6_sea_159 : decode cX6_sea 159 = .ok (.aload_n 0, 1) := by decide +kernel
theorem dX6_sea_160 : decode cX6_sea 160 = .ok (.getfield 29, 3) := by decide +kernel
theorem dX6_sea_163 : decode cX6_sea 163 = .ok (.iload_n 2, 1) := by decide +kernel
theorem dX6_sea_164 : decode cX6_sea 164 = .ok (.iaload, 1) := by decide +kernel
theorem dX6_sea_165 : decode cX6_sea 165 = .ok (.iastore, 1) := by decide +kernel
theorem dX6_sea_166 : decode cX6_sea 166 = .ok (.iinc 2 1, 3) := by decide +kernel
theorem dX6_sea_169 : decode cX6_sea 169 = .ok (.goto (-23), 3) := by decide +kernel
theorem dX6_sea_172 : decode cX6_sea 172 = .ok (.iconst 0, 1) := by decide +kernel
theorem dX6_sea_173 : decode cX6_sea 173 = .ok (.istore_n 2, 1) := by decide +kernel
theorem dX6_sea_174 : decode cX6_sea 174 = .ok (.iload_n 2, 1) := by decide +kernel
theorem dX6_sea_175 : decode cX6_sea 175 = .ok (.bipush 16, 2) := by decide +kernel
theorem dX6_sea_177 : decode cX6_sea 177 = .ok (.if_icmp .ge 16, 3) := by decide +kernel
theorem dX6_sea_180 : decode cX6_sea 180 = .ok (.aload_n 0, 1) := by decide +kernel
theorem dX6_sea_181 : decode cX6_sea 181 = .ok (.getfield 47, 3) := by decide +kernel
theorem dX6_sea_184 : decode cX6_sea 184 = .ok (.iload_n 2, 1) := by decide +kernel
theorem dX6_sea_185 : decode cX6_sea 185 = .ok (.iconst 0, 1) := by decide +kernel
theorem dX6_sea_186 : decode cX6_sea 186 = .ok (.iastore, 1) := by decide +kernel
theorem dX6_sea_187 : decode cX6_sea 187 = .ok (.iinc 2 1, 3) := by decide +kernel
theorem dX6_sea_190 : decode cX6_sea 190 = .ok (.goto (-16), 3) := by decide +kernel
theorem dX6_sea_193 : decode cX6_sea 193 = .ok (.aload_n 0, 1) := by decide +kernel
theorem dX6_sea_194 : decode cX6_sea 194 = .ok (.getfield 47, 3) := by decide +kernel
theorem dX6_sea_197 : decode cX6_sea 197 = .ok (.iconst 0, 1) := by decide +kernel
theorem dX6_sea_198 : decode cX6_sea 198 = .ok (.iconst 1, 1) := by decide +kernel
theorem dX6_sea_199 : decode cX6_sea 199 = .ok (.aload_n 0, 1) := by decide +kernel
theorem dX6_sea_200 : decode cX6_sea 200 = .ok (.getfield 144, 3) := by decide +kernel
theorem dX6_sea_203 : decode cX6_sea 203 = .ok (.ishl, 1) := by decide +kernel
theorem dX6_sea_204 : decode cX6_sea 204 = .ok (.iconst 1, 1) := by decide +kernel
theorem dX6_sea_205 : decode cX6_sea 205 = .ok (.isub, 1) := by decide +kernel
theorem dX6_sea_206 : decode cX6_sea 206 = .ok (.iastore, 1) := by decide +kernel
theorem dX6_sea_207 : decode cX6_sea 207 = .ok (.aload_n 0, 1) := by decide +kernel
theorem dX6_sea_208 : decode cX6_sea 208 = .ok (.getfield 47, 3) := by decide +kernel
theorem dX6_sea_211 : decode cX6_sea 211 = .ok (.iconst 4, 1) := by decide +kernel
theorem dX6_sea_212 : decode cX6_sea 212 = .ok (.aload_n 0, 1) := by decide +kernel
theorem dX6_sea_213 : decode cX6_sea 213 = .ok (.getfield 141, 3) := by decide +kernel
theorem dX6_sea_216 : decode cX6_sea 216 = .ok (.ifCond .ne 7, 3) := by decide +kernel
theorem dX6_sea_219 : decode cX6_sea 219 = .ok (.iconst 0, 1) := by decide +kernel
theorem dX6_sea_220 : decode cX6_sea 220 = .ok (.goto 4, 3) := by decide +kernel
theorem dX6_sea_223 : decode cX6_sea 223 = .ok (.iconst 3, 1) := by decide +kernel
theorem dX6_sea_224 : decode cX6_sea 224 = .ok (.iastore, 1) := by decide +kernel
theorem dX6_sea_225 : decode cX6_sea 225 = .ok (.aload_n 0, 1) := by decide +kernel
theorem dX6_sea_226 : decode cX6_sea 226 = .ok (.iconst 0, 1) := by decide +kernel
theorem dX6_sea_227 : decode cX6_sea 227 = .ok (.putfield 150, 3) := by decide +kernel
theorem dX6_sea_230 : decode cX6_sea 230 = .ok (.aload_n 0, 1) := by decide +kernel
theorem dX6_sea_231 : decode cX6_sea 231 = .ok (.iconst 0, 1) := by decide +kernel
theorem dX6_sea_232 : decode cX6_sea 232 = .ok (.putfield 153, 3) := by decide +kernel
theorem dX6_sea_235 : decode cX6_sea 235 = .ok (.aload_n 0, 1) := by decide +kernel
theorem dX6_sea_236 : decode cX6_sea 236 = .ok (.iconst 0, 1) := by decide +kernel
theorem dX6_sea_237 : decode cX6_sea 237 = .ok (.putfield 156, 3) := by decide +kernel
theorem dX6_sea_240 : decode cX6_sea 240 = .ok (.aload_n 0, 1) := by decide +kernel
theorem dX6_sea_241 : decode cX6_sea 241 = .ok (.getfield 72, 3) := by decide +kernel
theorem dX6_sea_244 : decode cX6_sea 244 = .ok (.iconst 0, 1) := by decide +kernel
theorem dX6_sea_245 : decode cX6_sea 245 = .ok (.iconst 0, 1) := by decide +kernel
theorem dX6_sea_246 : decode cX6_sea 246 = .ok (.bastore, 1) := by decide +kernel
theorem dX6_sea_247 : decode cX6_sea 247 = .ok (.aload_n 0, 1) := by decide +kernel
theorem dX6_sea_248 : decode cX6_sea 248 = .ok (.getfield 72, 3) := by decide +kernel
theorem dX6_sea_251 : decode cX6_sea 251 = .ok (.iconst 1, 1) := by decide +kernel
theorem dX6_sea_252 : decode cX6_sea 252 = .ok (.iconst 0, 1) := by decide +kernel
theorem dX6_sea_253 : decode cX6_sea 253 = .ok (.bastore, 1) := by decide +kernel
theorem dX6_sea_254 : decode cX6_sea 254 = .ok (.aload_n 0, 1) := by decide +kernel
theorem dX6_sea_255 : decode cX6_sea 255 = .ok (.getfield 144, 3) := by decide +kernel
theorem dX6_sea_258 : decode cX6_sea 258 = .ok (.ireturn, 1) := by decide +kernel
theorem dX6_fault_0 : decode cX6_fault 0 = .ok (.aload_n 0, 1) := by decide +kernel
theorem dX6_fault_1 : decode cX6_fault 1 = .ok (.getfield 13, 3) := by decide +kernel
theorem dX6_fault_4 : decode cX6_fault 4 = .ok (.ireturn, 1) := by decide +kernel
set_option maxRecDepth 20000 in
theorem ggX6_isIsland_X6_in : GoodIn wsX6_isIsland wsX6_in := goodIn_r _ [5] (by decide +kernel) (by decide +kernel)
set_option maxRecDepth 20000 in
theorem gX6_isIsland_X6_in : GoodIn wsX6_isIsland (va_wsS RX6 82 yX6_in wsX6_in) := goodIn_app (goodIn_of _ (by decide +kernel)) ggX6_isIsland_X6_in
theorem dX6_isIsland_0 : decode cX6_isIsland 0 = .ok (.iload_n 1, 1) := by decide +kernel
theorem dX6_isIsland_1 : decode cX6_isIsland 1 = .ok (.iconst 0, 1) := by decide +kernel
theorem dX6_isIsland_2 : decode cX6_isIsland 2 = .ok (.aload_n 0, 1) := by decide +kernel
theorem dX6_isIsland_3 : decode cX6_isIsland 3 = .ok (.getfield 141, 3) := by decide +kernel
theorem dX6_isIsland_6 : decode cX6_isIsland 6 = .ok (.iconst 1, 1) := by decide +kernel
theorem dX6_isIsland_7 : decode cX6_isIsland 7 = .ok (.isub, 1) := by decide +kernel
theorem dX6_isIsland_8 : decode cX6_isIsland 8 = .ok (.invokestatic 82, 3) := by decide +kernel
theorem dX6_isIsland_11 : decode cX6_isIsland 11 = .ok (.ireturn, 1) := by decide +kernel
set_option maxRecDepth 20000 in
theorem ggX6_isLink_X6_in : GoodIn wsX6_isLink wsX6_in := goodIn_r _ [5] (by decide +kernel) (by decide +kernel)
set_option maxRecDepth 20000 in
theorem gX6_isLink_X6_in : GoodIn wsX6_isLink (va_wsS RX6 82 yX6_in wsX6_in) := goodIn_app (goodIn_of _ (by decide +kernel)) ggX6_isLink_X6_in
theorem dX6_isLink_0 : decode cX6_isLink 0 = .ok (.iload_n 1, 1) := by decide +kernel
theorem dX6_isLink_1 : decode cX6_isLink 1 = .ok (.iconst 0, 1) := by decide +kernel
theorem dX6_isLink_2 : decode cX6_isLink 2 = .ok (.aload_n 0, 1) := by decide +kernel
theorem dX6_isLink_3 : decode cX6_isLink 3 = .ok (.getfield 144, 3) := by decide +kernel
theorem dX6_isLink_6 : decode cX6_isLink 6 = .ok (.iconst 1, 1) := by decide +kernel
theorem dX6_isLink_7 : decode cX6_isLink 7 = .ok (.isub, 1) := by decide +kernel
theorem dX6_isLink_8 : decode cX6_isLink 8 = .ok (.invokestatic 82, 3) := by decide +kernel
theorem dX6_isLink_11 : decode cX6_isLink 11 = .ok (.ireturn, 1) := by decide +kernel
set_option maxRecDepth 20000 in
theorem ggX6_areTwo_X6_isIsland : GoodIn wsX6_areTwo wsX6_isIsland := goodIn_r _ [5, 6, 7, 8, 4, 9, 10, 11, 12, 13, 14, 15, 16, 17, 18, 19, 20, 21, 22, 23, 24, 25, 26, 27, 28, 29, 30, 31, 32, 33, 34, 35, 36, 37, 38, 39, 40, 41, 42, 43, 44, 45, 46, 47] (by decide +kernel) (by decide +kernel)
set_option maxRecDepth 20000 in
theorem gX6_areTwo_X6_isIsland : GoodIn wsX6_areTwo (wsV RX6 159 RX6 yX6_isIsland wsX6_isIsland) := goodIn_app (goodIn_of _ (by decide +kernel)) ggX6_areTwo_X6_isIsland
theorem dX6_areTwo_0 : decode cX6_areTwo 0 = .ok (.aload_n 0, 1) := by decide +kernel
theorem dX6_areTwo_1 : decode cX6_areTwo 1 = .ok (.iload_n 1, 1) := by decide +kernel
theorem dX6_areTwo_2 : decode cX6_areTwo 2 = .ok (.invokevirtual 159, 3) := by decide +kernel
theorem dX6_areTwo_5 : decode cX6_areTwo 5 = .ok (.ifCond .eq 20, 3) := by decide +kernel
theorem dX6_areTwo_8 : decode cX6_areTwo 8 = .ok (.aload_n 0, 1) := by decide +kernel
theorem dX6_areTwo_9 : decode cX6_areTwo 9 = .ok (.iload_n 2, 1) := by decide +kernel
theorem dX6_areTwo_10 : decode cX6_areTwo 10 = .ok (.invokevirtual 159, 3) := by decide +kernel
theorem dX6_areTwo_13 : decode cX6_areTwo 13 = .ok (.ifCond .eq 12, 3) := by decide +kernel
theorem dX6_areTwo_16 : decode cX6_areTwo 16 = .ok (.iload_n 1, 1) := by decide +kernel
theorem dX6_areTwo_17 : decode cX6_areTwo 17 = .ok (.iload_n 2, 1) := by decide +kernel
theorem dX6_areTwo_18 : decode cX6_areTwo 18 = .ok (.if_icmp .eq 7, 3) := by decide +kernel
theorem dX6_areTwo_21 : decode cX6_areTwo 21 = .ok (.iconst 1, 1) := by decide +kernel
theorem dX6_areTwo_22 : decode cX6_areTwo 22 = .ok (.goto 4, 3) := by decide +kernel
theorem dX6_areTwo_25 : decode cX6_areTwo 25 = .ok (.iconst 0, 1) := by decide +kernel
theorem dX6_areTwo_26 : decode cX6_areTwo 26 = .ok (.ireturn, 1) := by decide +kernel
theorem dX6_windOf_0 : decode cX6_windOf 0 = .ok (.aload_n 0, 1) := by decide +kernel
theorem dX6_windOf_1 : decode cX6_windOf 1 = .ok (.getfield 147, 3) := by decide +kernel
theorem dX6_windOf_4 : decode cX6_windOf 4 = .ok (.ifCond .ne 7, 3) := by decide +kernel
theorem dX6_windOf_7 : decode cX6_windOf 7 = .ok (.iconst 0, 1) := by decide +kernel
theorem dX6_windOf_8 : decode cX6_windOf 8 = .ok (.goto 14, 3) := by decide +kernel
theorem dX6_windOf_11 : decode cX6_windOf 11 = .ok (.aload_n 0, 1) := by decide +kernel
theorem dX6_windOf_12 : decode cX6_windOf 12 = .ok (.getfield 44, 3) := by decide +kernel
theorem dX6_windOf_15 : decode cX6_windOf 15 = .ok (.iload_n 1, 1) := by decide +kernel
theorem dX6_windOf_16 : decode cX6_windOf 16 = .ok (.aload_n 0, 1) := by decide +kernel
theorem dX6_windOf_17 : decode cX6_windOf 17 = .ok (.getfield 147, 3) := by decide +kernel
theorem dX6_windOf_20 : decode cX6_windOf 20 = .ok (.irem, 1) := by decide +kernel
theorem dX6_windOf_21 : decode cX6_windOf 21 = .ok (.iaload, 1) := by decide +kernel
theorem dX6_windOf_22 : decode cX6_windOf 22 = .ok (.ireturn, 1) := by decide +kernel
set_option maxRecDepth 20000 in
theorem ggX6_strains_X6_has : GoodIn wsX6_strains wsX6_has := goodIn_r _ [5] (by decide +kernel) (by decide +kernel)
set_option maxRecDepth 20000 in
theorem gX6_strains_X6_has : GoodIn wsX6_strains (va_wsS RX6 162 yX6_has wsX6_has) := goodIn_app (goodIn_of _ (by decide +kernel)) ggX6_strains_X6_has
theorem dX6_strains_0 : decode cX6_strains 0 = .ok (.aload_n 0, 1) := by decide +kernel
theorem dX6_strains_1 : decode cX6_strains 1 = .ok (.getfield 35, 3) := by decide +kernel
theorem dX6_strains_4 : decode cX6_strains 4 = .ok (.iload_n 2, 1) := by decide +kernel
theorem dX6_strains_5 : decode cX6_strains 5 = .ok (.iaload, 1) := by decide +kernel
theorem dX6_strains_6 : decode cX6_strains 6 = .ok (.tableswitch 46 0 2 #[26, 28, 42], 26) := by decide +kernel
theorem dX6_strains_32 : decode cX6_strains 32 = .ok (.iload_n 3, 1) := by decide +kernel
theorem dX6_strains_33 : decode cX6_strains 33 = .ok (.ireturn, 1) := by decide +kernel
theorem dX6_strains_34 : decode cX6_strains 34 = .ok (.iload_n 3, 1) := by decide +kernel
theorem dX6_strains_35 : decode cX6_strains 35 = .ok (.bipush 6, 2) := by decide +kernel
theorem dX6_strains_37 : decode cX6_strains 37 = .ok (.if_icmp .ge 7, 3) := by decide +kernel
theorem dX6_strains_40 : decode cX6_strains 40 = .ok (.iconst 0, 1) := by decide +kernel
theorem dX6_strains_41 : decode cX6_strains 41 = .ok (.goto 6, 3) := by decide +kernel
theorem dX6_strains_44 : decode cX6_strains 44 = .ok (.iconst 2, 1) := by decide +kernel
theorem dX6_strains_45 : decode cX6_strains 45 = .ok (.iload_n 3, 1) := by decide +kernel
theorem dX6_strains_46 : decode cX6_strains 46 = .ok (.imul, 1) := by decide +kernel
theorem dX6_strains_47 : decode cX6_strains 47 = .ok (.ireturn, 1) := by decide +kernel
theorem dX6_strains_48 : decode cX6_strains 48 = .ok (.iload_n 3, 1) := by decide +kernel
theorem dX6_strains_49 : decode cX6_strains 49 = .ok (.iconst 2, 1) := by decide +kernel
theorem dX6_strains_50 : decode cX6_strains 50 = .ok (.idiv, 1) := by decide +kernel
theorem dX6_strains_51 : decode cX6_strains 51 = .ok (.ireturn, 1) := by decide +kernel
theorem dX6_strains_52 : decode cX6_strains 52 = .ok (.aload_n 1, 1) := by decide +kernel
theorem dX6_strains_53 : decode cX6_strains 53 = .ok (.iconst 2, 1) := by decide +kernel
theorem dX6_strains_54 : decode cX6_strains 54 = .ok (.iaload, 1) := by decide +kernel
theorem dX6_strains_55 : decode cX6_strains 55 = .ok (.iload_n 2, 1) := by decide +kernel
theorem dX6_strains_56 : decode cX6_strains 56 = .ok (.invokestatic 162, 3) := by decide +kernel
theorem dX6_strains_59 : decode cX6_strains 59 = .ok (.ifCond .ne 7, 3) := by decide +kernel
theorem dX6_strains_62 : decode cX6_strains 62 = .ok (.iload_n 3, 1) := by decide +kernel
theorem dX6_strains_63 : decode cX6_strains 63 = .ok (.goto 15, 3) := by decide +kernel
theorem dX6_strains_66 : decode cX6_strains 66 = .ok (.iload_n 3, 1) := by decide +kernel
theorem dX6_strains_67 : decode cX6_strains 67 = .ok (.iconst 3, 1) := by decide +kernel
theorem dX6_strains_68 : decode cX6_strains 68 = .ok (.if_icmp .le 9, 3) := by decide +kernel
theorem dX6_strains_71 : decode cX6_strains 71 = .ok (.iload_n 3, 1) := by decide +kernel
theorem dX6_strains_72 : decode cX6_strains 72 = .ok (.iconst 3, 1) := by decide +kernel
theorem dX6_strains_73 : decode cX6_strains 73 = .ok (.isub, 1) := by decide +kernel
theorem dX6_strains_74 : decode cX6_strains 74 = .ok (.goto 4, 3) := by decide +kernel
theorem dX6_strains_77 : decode cX6_strains 77 = .ok (.iconst 0, 1) := by decide +kernel
theorem dX6_strains_78 : decode cX6_strains 78 = .ok (.ireturn, 1) := by decide +kernel
set_option maxRecDepth 20000 in
theorem ggX6_passes_X6_windOf : GoodIn wsX6_passes wsX6_windOf := goodIn_r _ [7, 8, 9, 18, 19, 20, 21, 22, 23, 24, 25, 26, 27, 28, 29, 30, 31, 32, 33, 34, 35, 36, 37, 38, 39, 40, 41, 42, 43, 44, 45, 46, 47, 48, 49, 50, 51, 52, 53, 54, 55] (by decide +kernel) (by decide +kernel)
set_option maxRecDepth 20000 in
theorem gX6_passes_X6_windOf : GoodIn wsX6_passes (wsV RX6 166 RX6 yX6_windOf wsX6_windOf) := goodIn_app (goodIn_of _ (by decide +kernel)) ggX6_passes_X6_windOf
set_option maxRecDepth 20000 in
theorem ggX6_passes_X6_has : GoodIn wsX6_passes wsX6_has := goodIn_r _ [12] (by decide +kernel) (by decide +kernel)
set_option maxRecDepth 20000 in
theorem gX6_passes_X6_has : GoodIn wsX6_passes (va_wsS RX6 162 yX6_has wsX6_has) := goodIn_app (goodIn_of _ (by decide +kernel)) ggX6_passes_X6_has
set_option maxRecDepth 20000 in
theorem ggX6_passes_X6_strains : GoodIn wsX6_passes wsX6_strains := goodIn_r _ [16, 17, 10, 11, 6, 12, 18, 19, 20, 21, 22, 23, 24, 25, 26, 27, 28, 29, 30, 31, 32, 33, 34, 35, 36, 37, 38, 39, 40, 41, 42, 43, 44, 45, 46, 47, 48, 49, 50, 51, 52, 53, 54, 55] (by decide +kernel) (by decide +kernel)
set_option maxRecDepth 20000 in
theorem gX6_passes_X6_strains : GoodIn wsX6_passes (wsV RX6 169 RX6 yX6_strains wsX6_strains) := goodIn_app (goodIn_of _ (by decide +kernel)) ggX6_passes_X6_strains
theorem dX6_passes_0 : decode cX6_passes 0 = .ok (.aload_n 0, 1) := by decide +kernel
theorem dX6_passes_1 : decode cX6_passes 1 = .ok (.aload_n 1, 1) := by decide +kernel
theorem dX6_passes_2 : decode cX6_passes 2 = .ok (.iconst 3, 1) := by decide +kernel
theorem dX6_passes_3 : decode cX6_passes 3 = .ok (.iaload, 1) := by decide +kernel
theorem dX6_passes_4 : decode cX6_passes 4 = .ok (.invokevirtual 166, 3) := by decide +kernel
theorem dX6_passes_7 : decode cX6_passes 7 = .ok (.istore_n 2, 1) := by decide +kernel
theorem dX6_passes_8 : decode cX6_passes 8 = .ok (.iconst (-1), 1) := by decide +kernel
theorem dX6_passes_9 : decode cX6_passes 9 = .ok (.istore_n 3, 1) := by decide +kernel
theorem dX6_passes_10 : decode cX6_passes 10 = .ok (.aload_n 0, 1) := by decide +kernel
theorem dX6_passes_11 : decode cX6_passes 11 = .ok (.getfield 144, 3) := by decide +kernel
theorem dX6_passes_14 : decode cX6_passes 14 = .ok (.iconst 1, 1) := by decide +kernel
theorem dX6_passes_15 : decode cX6_passes 15 = .ok (.isub, 1) := by decide +kernel
theorem dX6_passes_16 : decode cX6_passes 16 = .ok (.istore 4, 2) := by decide +kernel
theorem dX6_passes_18 : decode cX6_passes 18 = .ok (.iload 4, 2) := by decide +kernel
theorem dX6_passes_20 : decode cX6_passes 20 = .ok (.ifCond .lt 100, 3) := by decide +kernel
theorem dX6_passes_23 : decode cX6_passes 23 = .ok (.aload_n 1, 1) := by decide +kernel
theorem dX6_passes_24 : decode cX6_passes 24 = .ok (.iconst 0, 1) := by decide +kernel
theorem dX6_passes_25 : decode cX6_passes 25 = .ok (.iaload, 1) := by decide +kernel
theorem dX6_passes_26 : decode cX6_passes 26 = .ok (.iload 4, 2) := by decide +kernel
theorem dX6_passes_28 : decode cX6_passes 28 = .ok (.invokestatic 162, 3) := by decide +kernel
theorem dX6_passes_31 : decode cX6_passes 31 = .ok (.ifCond .eq 83, 3) := by decide +kernel
theorem dX6_passes_34 : decode cX6_passes 34 = .ok (.aload_n 1, 1) := by decide +kernel
theorem dX6_passes_35 : decode cX6_passes 35 = .ok (.bipush 6, 2) := by decide +kernel
theorem dX6_passes_37 : decode cX6_passes 37 = .ok (.iload 4, 2) := by decide +kernel
theorem dX6_passes_39 : decode cX6_passes 39 = .ok (.iadd, 1) := by decide +kernel
theorem dX6_passes_40 : decode cX6_passes 40 = .ok (.iaload, 1) := by decide +kernel
theorem dX6_passes_41 : decode cX6_passes 41 = .ok (.aload_n 0, 1) := by decide +kernel
theorem dX6_passes_42 : decode cX6_passes 42 = .ok (.aload_n 1, 1) := by decide +kernel
theorem dX6_passes_43 : decode cX6_passes 43 = .ok (.iload 4, 2) := by decide +kernel
theorem dX6_passes_45 : decode cX6_passes 45 = .ok (.iload_n 2, 1) := by decide +kernel
theorem dX6_passes_46 : decode cX6_passes 46 = .ok (.invokevirtual 169, 3) := by decide +kernel
theorem dX6_passes_49 : decode cX6_passes 49 = .ok (.iadd, 1) := by decide +kernel
theorem dX6_passes_50 : decode cX6_passes 50 = .ok (.istore 5, 2) := by decide +kernel
theorem dX6_passes_52 : decode cX6_passes 52 = .ok (.aload_n 1, 1) := by decide +kernel
theorem dX6_passes_53 : decode cX6_passes 53 = .ok (.bipush 6, 2) := by decide +kernel
theorem dX6_passes_55 : decode cX6_passes 55 = .ok (.iload 4, 2) := by decide +kernel
theorem dX6_passes_57 : decode cX6_passes 57 = .ok (.iadd, 1) := by decide +kernel
theorem dX6_passes_58 : decode cX6_passes 58 = .ok (.iload 5, 2) := by decide +kernel
theorem dX6_passes_60 : decode cX6_passes 60 = .ok (.sipush 999, 3) := by decide +kernel
theorem dX6_passes_63 : decode cX6_passes 63 = .ok (.if_icmp .le 9, 3) := by decide +kernel
theorem dX6_passes_66 : decode cX6_passes 66 = .ok (.sipush 999, 3) := by decide +kernel
theorem dX6_passes_69 : decode cX6_passes 69 = .ok (.goto 5, 3) := by decide +kernel
theorem dX6_passes_72 : decode cX6_passes 72 = .ok (.iload 5, 2) := by decide +kernel
theorem dX6_passes_74 : decode cX6_passes 74 = .ok (.iastore, 1) := by decide +kernel
theorem dX6_passes_75 : decode cX6_passes 75 = .ok (.aload_n 1, 1) := by decide +kernel
theorem dX6_passes_76 : decode cX6_passes 76 = .ok (.bipush 6, 2) := by decide +kernel
theorem dX6_passes_78 : decode cX6_passes 78 = .ok (.iload 4, 2) := by decide +kernel
theorem dX6_passes_80 : decode cX6_passes 80 = .ok (.iadd, 1) := by decide +kernel
theorem dX6_passes_81 : decode cX6_passes 81 = .ok (.iaload, 1) := by decide +kernel
theorem dX6_passes_82 : decode cX6_passes 82 = .ok (.aload_n 0, 1) := by decide +kernel
theorem dX6_passes_83 : decode cX6_passes 83 = .ok (.getfield 38, 3) := by decide +kernel
theorem dX6_passes_86 : decode cX6_passes 86 = .ok (.iload 4, 2) := by decide +kernel
theorem dX6_passes_88 : decode cX6_passes 88 = .ok (.iaload, 1) := by decide +kernel
theorem dX6_passes_89 : decode cX6_passes 89 = .ok (.if_icmp .lt 25, 3) := by decide +kernel
theorem dX6_passes_92 : decode cX6_passes 92 = .ok (.aload_n 1, 1) := by decide +kernel
theorem dX6_passes_93 : decode cX6_passes 93 = .ok (.iconst 0, 1) := by decide +kernel
theorem dX6_passes_94 : decode cX6_passes 94 = .ok (.dup2, 1) := by decide +kernel
theorem dX6_passes_95 : decode cX6_passes 95 = .ok (.iaload, 1) := by decide +kernel
theorem dX6_passes_96 : decode cX6_passes 96 = .ok (.iconst 1, 1) := by decide +kernel
theorem dX6_passes_97 : decode cX6_passes 97 = .ok (.iload 4, 2) := by decide +kernel
theorem dX6_passes_99 : decode cX6_passes 99 = .ok (.ishl, 1) := by decide +kernel
theorem dX6_passes_100 : decode cX6_passes 100 = .ok (.iconst (-1), 1) := by decide +kernel
theorem dX6_passes_101 : decode cX6_passes 101 = .ok (.ixor, 1) := by decide +kernel
theorem dX6_passes_102 : decode cX6_passes 102 = .ok (.iand, 1) := by decide +kernel
theorem dX6_passes_103 : decode cX6_passes 103 = .ok (.iastore, 1) := by decide +kernel
theorem dX6_passes_104 : decode cX6_passes 104 = .ok (.aload_n 1, 1) := by decide +kernel
theorem dX6_passes_105 : decode cX6_passes 105 = .ok (.iconst 5, 1) := by decide +kernel
theorem dX6_passes_106 : decode cX6_passes 106 = .ok (.dup2, 1) := by decide +kernel
theorem dX6_passes_107 : decode cX6_passes 107 = .ok (.iaload, 1) := by decide +kernel
theorem dX6_passes_108 : decode cX6_passes 108 = .ok (.iconst 1, 1) := by decide +kernel
theorem dX6_passes_109 : decode cX6_passes 109 = .ok (.iadd, 1) := by decide +kernel
theorem dX6_passes_110 : decode cX6_passes 110 = .ok (.iastore, 1) := by decide +kernel
theorem dX6_passes_111 : decode cX6_passes 111 = .ok (.iload 4, 2) := by decide +kernel
theorem dX6_passes_113 : decode cX6_passes 113 = .ok (.istore_n 3, 1) := by decide +kernel
theorem dX6_passes_114 : decode cX6_passes 114 = .ok (.iinc 4 (-1), 3) := by decide +kernel
theorem dX6_passes_117 : decode cX6_passes 117 = .ok (.goto (-99), 3) := by decide +kernel
theorem dX6_passes_120 : decode cX6_passes 120 = .ok (.aload_n 1, 1) := by decide +kernel
theorem dX6_passes_121 : decode cX6_passes 121 = .ok (.iconst 3, 1) := by decide +kernel
theorem dX6_passes_122 : decode cX6_passes 122 = .ok (.dup2, 1) := by decide +kernel
theorem dX6_passes_123 : decode cX6_passes 123 = .ok (.iaload, 1) := by decide +kernel
theorem dX6_passes_124 : decode cX6_passes 124 = .ok (.iconst 1, 1) := by decide +kernel
theorem dX6_passes_125 : decode cX6_passes 125 = .ok (.iadd, 1) := by decide +kernel
theorem dX6_passes_126 : decode cX6_passes 126 = .ok (.iastore, 1) := by decide +kernel
theorem dX6_passes_127 : decode cX6_passes 127 = .ok (.iload_n 3, 1) := by decide +kernel
theorem dX6_passes_128 : decode cX6_passes 128 = .ok (.ireturn, 1) := by decide +kernel
set_option maxRecDepth 20000 in
theorem ggX6_link_X6_isLink : GoodIn wsX6_link wsX6_isLink := goodIn_r _ [12, 13, 14, 15, 11, 16, 17, 18, 19, 20, 21, 22, 23, 24, 25, 26, 27, 28, 29, 30, 31, 32, 33, 34, 35, 36, 37, 38, 39, 40, 41, 42, 43, 44, 45, 46, 47, 48, 49, 50, 51, 52, 53, 54] (by decide +kernel) (by decide +kernel)
set_option maxRecDepth 20000 in
theorem gX6_link_X6_isLink : GoodIn wsX6_link (wsV RX6 173 RX6 yX6_isLink wsX6_isLink) := goodIn_app (goodIn_of _ (by decide +kernel)) ggX6_link_X6_isLink
theorem dX6_link_0 : decode cX6_link 0 = .ok (.aload_n 0, 1) := by decide +kernel
theorem dX6_link_1 : decode cX6_link 1 = .ok (.iload_n 1, 1) := by decide +kernel
theorem dX6_link_2 : decode cX6_link 2 = .ok (.invokevirtual 173, 3) := by decide +kernel
theorem dX6_link_5 : decode cX6_link 5 = .ok (.ifCond .ne 6, 3) := by decide +kernel
theorem dX6_link_8 : decode cX6_link 8 = .ok (.ldc 176, 2) := by decide +kernel
theorem dX6_link_10 : decode cX6_link 10 = .ok (.ireturn, 1) := by decide +kernel
theorem dX6_link_11 : decode cX6_link 11 = .ok (.iload_n 2, 1) := by decide +kernel
theorem dX6_link_12 : decode cX6_link 12 = .ok (.tableswitch 153 0 9 #[56, 65, 76, 83, 90, 100, 111, 122, 133, 142], 56) := by decide +kernel
theorem dX6_link_68 : decode cX6_link 68 = .ok (.aload_n 0, 1) := by decide +kernel
theorem dX6_link_69 : decode cX6_link 69 = .ok (.getfield 32, 3) := by decide +kernel
theorem dX6_link_72 : decode cX6_link 72 = .ok (.iconst 2, 1) := by decide +kernel
theorem dX6_link_73 : decode cX6_link 73 = .ok (.iload_n 1, 1) := by decide +kernel
theorem dX6_link_74 : decode cX6_link 74 = .ok (.imul, 1) := by decide +kernel
theorem dX6_link_75 : decode cX6_link 75 = .ok (.iaload, 1) := by decide +kernel
theorem dX6_link_76 : decode cX6_link 76 = .ok (.ireturn, 1) := by decide +kernel
theorem dX6_link_77 : decode cX6_link 77 = .ok (.aload_n 0, 1) := by decide +kernel
theorem dX6_link_78 : decode cX6_link 78 = .ok (.getfield 32, 3) := by decide +kernel
theorem dX6_link_81 : decode cX6_link 81 = .ok (.iconst 2, 1) := by decide +kernel
theorem dX6_link_82 : decode cX6_link 82 = .ok (.iload_n 1, 1) := by decide +kernel
theorem dX6_link_83 : decode cX6_link 83 = .ok (.imul, 1) := by decide +kernel
theorem dX6_link_84 : decode cX6_link 84 = .ok (.iconst 1, 1) := by decide +kernel
theorem dX6_link_85 : decode cX6_link 85 = .ok (.iadd, 1) := by decide +kernel
theorem dX6_link_86 : decode cX6_link 86 = .ok (.iaload, 1) := by decide +kernel
theorem dX6_link_87 : decode cX6_link 87 = .ok (.ireturn, 1) := by decide +kernel
theorem dX6_link_88 : decode cX6_link 88 = .ok (.aload_n 0, 1) := by decide +kernel
theorem dX6_link_89 : decode cX6_link 89 = .ok (.getfield 35, 3) := by decide +kernel
theorem dX6_link_92 : decode cX6_link 92 = .ok (.iload_n 1, 1) := by decide +kernel
theorem dX6_link_93 : decode cX6_link 93 = .ok (.iaload, 1) := by decide +kernel
theorem dX6_link_94 : decode cX6_link 94 = .ok (.ireturn, 1) := by decide +kernel
theorem dX6_link_95 : decode cX6_link 95 = .ok (.aload_n 0, 1) := by decide +kernel
theorem dX6_link_96 : decode cX6_link 96 = .ok (.getfield 38, 3) := by decide +kernel
theorem dX6_link_99 : decode cX6_link 99 = .ok (.iload_n 1, 1) := by decide +kernel
theorem dX6_link_100 : decode cX6_link 100 = .ok (.iaload, 1) := by decide +kernel
theorem dX6_link_101 : decode cX6_link 101 = .ok (.ireturn, 1) := by decide +kernel
theorem dX6_link_102 : decode cX6_link 102 = .ok (.aload_n 0, 1) := by decide +kernel
theorem dX6_link_103 : decode cX6_link 103 = .ok (.getfield 47, 3) := by decide +kernel
theorem dX6_link_106 : decode cX6_link 106 = .ok (.bipush 6, 2) := by decide +kernel
theorem dX6_link_108 : decode cX6_link 108 = .ok (.iload_n 1, 1) := by decide +kernel
theorem dX6_link_109 : decode cX6_link 109 = .ok (.iadd, 1) := by decide +kernel
theorem dX6_link_110 : decode cX6_link 110 = .ok (.iaload, 1) := by decide +kernel
theorem dX6_link_111 : decode cX6_link 111 = .ok (.ireturn, 1) := by decide +kernel
theorem dX6_link_112 : decode cX6_link 112 = .ok (.aload_n 0, 1) := by decide +kernel
theorem dX6_link_113 : decode cX6_link 113 = .ok (.getfield 47, 3) := by decide +kernel
theorem dX6_link_116 : decode cX6_link 116 = .ok (.iconst 0, 1) := by decide +kernel
theorem dX6_link_117 : decode cX6_link 117 = .ok (.iaload, 1) := by decide +kernel
theorem dX6_link_118 : decode cX6_link 118 = .ok (.iload_n 1, 1) := by decide +kernel
theorem dX6_link_119 : decode cX6_link 119 = .ok (.ishr, 1) := by decide +kernel
theorem dX6_link_120 : decode cX6_link 120 = .ok (.iconst 1, 1) := by decide +kernel
theorem dX6_link_121 : decode cX6_link 121 = .ok (.iand, 1) := by decide +kernel
theorem dX6_link_122 : decode cX6_link 122 = .ok (.ireturn, 1) := by decide +kernel
theorem dX6_link_123 : decode cX6_link 123 = .ok (.aload_n 0, 1) := by decide +kernel
theorem dX6_link_124 : decode cX6_link 124 = .ok (.getfield 47, 3) := by decide +kernel
theorem dX6_link_127 : decode cX6_link 127 = .ok (.iconst 1, 1) := by decide +kernel
theorem dX6_link_128 : decode cX6_link 128 = .ok (.iaload, 1) := by decide +kernel
theorem dX6_link_129 : decode cX6_link 129 = .ok (.iload_n 1, 1) := by decide +kernel
theorem dX6_link_130 : decode cX6_link 130 = .ok (.ishr, 1) := by decide +kernel
theorem dX6_link_131 : decode cX6_link 131 = .ok (.iconst 1, 1) := by decide +kernel
theorem dX6_link_132 : decode cX6_link 132 = .ok (.iand, 1) := by decide +kernel
theorem dX6_link_133 : decode cX6_link 133 = .ok (.ireturn, 1) := by decide +kernel
theorem dX6_link_134 : decode cX6_link 134 = .ok (.aload_n 0, 1) := by decide +kernel
theorem dX6_link_135 : decode cX6_link 135 = .ok (.getfield 47, 3) := by decide +kernel
theorem dX6_link_138 : decode cX6_link 138 = .ok (.iconst 2, 1) := by decide +kernel
theorem dX6_link_139 : decode cX6_link 139 = .ok (.iaload, 1) := by decide +kernel
theorem dX6_link_140 : decode cX6_link 140 = .ok (.iload_n 1, 1) := by decide +kernel
theorem dX6_link_141 : decode cX6_link 141 = .ok (.ishr, 1) := by decide +kernel
theorem dX6_link_142 : decode cX6_link 142 = .ok (.iconst 1, 1) := by decide +kernel
theorem dX6_link_143 : decode cX6_link 143 = .ok (.iand, 1) := by decide +kernel
theorem dX6_link_144 : decode cX6_link 144 = .ok (.ireturn, 1) := by decide +kernel
theorem dX6_link_145 : decode cX6_link 145 = .ok (.aload_n 0, 1) := by decide +kernel
theorem dX6_link_146 : decode cX6_link 146 = .ok (.getfield 41, 3) := by decide +kernel
theorem dX6_link_149 : decode cX6_link 149 = .ok (.iconst 2, 1) := by decide +kernel
theorem dX6_link_150 : decode cX6_link 150 = .ok (.iload_n 1, 1) := by decide +kernel
theorem dX6_link_151 : decode cX6_link 151 = .ok (.imul, 1) := by decide +kernel
theorem dX6_link_152 : decode cX6_link 152 = .ok (.iaload, 1) := by decide +kernel
theorem dX6_link_153 : decode cX6_link 153 = .ok (.ireturn, 1) := by decide +kernel
theorem dX6_link_154 : decode cX6_link 154 = .ok (.aload_n 0, 1) := by decide +kernel
theorem dX6_link_155 : decode cX6_link 155 = .ok (.getfield 41, 3) := by decide +kernel
theorem dX6_link_158 : decode cX6_link 158 = .ok (.iconst 2, 1) := by decide +kernel
theorem dX6_link_159 : decode cX6_link 159 = .ok (.iload_n 1, 1) := by decide +kernel
theorem dX6_link_160 : decode cX6_link 160 = .ok (.imul, 1) := by decide +kernel
theorem dX6_link_161 : decode cX6_link 161 = .ok (.iconst 1, 1) := by decide +kernel
theorem dX6_link_162 : decode cX6_link 162 = .ok (.iadd, 1) := by decide +kernel
theorem dX6_link_163 : decode cX6_link 163 = .ok (.iaload, 1) := by decide +kernel
theorem dX6_link_164 : decode cX6_link 164 = .ok (.ireturn, 1) := by decide +kernel
theorem dX6_link_165 : decode cX6_link 165 = .ok (.ldc 86, 2) := by decide +kernel
theorem dX6_link_167 : decode cX6_link 167 = .ok (.ireturn, 1) := by decide +kernel
set_option maxRecDepth 20000 in
theorem ggX6_readBy_X6_has : GoodIn wsX6_readBy wsX6_has := goodIn_r _ [6] (by decide +kernel) (by decide +kernel)
set_option maxRecDepth 20000 in
theorem gX6_readBy_X6_has : GoodIn wsX6_readBy (va_wsS RX6 162 yX6_has wsX6_has) := goodIn_app (goodIn_of _ (by decide +kernel)) ggX6_readBy_X6_has
theorem dX6_readBy_0 : decode cX6_readBy 0 = .ok (.aload_n 0, 1) := by decide +kernel
theorem dX6_readBy_1 : decode cX6_readBy 1 = .ok (.getfield 32, 3) := by decide +kernel
theorem dX6_readBy_4 : decode cX6_readBy 4 = .ok (.iconst 2, 1) := by decide +kernel
theorem dX6_readBy_5 : decode cX6_readBy 5 = .ok (.iload_n 2, 1) := by decide +kernel
theorem dX6_readBy_6 : decode cX6_readBy 6 = .ok (.imul, 1) := by decide +kernel
theorem dX6_readBy_7 : decode cX6_readBy 7 = .ok (.iaload, 1) := by decide +kernel
theorem dX6_readBy_8 : decode cX6_readBy 8 = .ok (.iload_n 1, 1) := by decide +kernel
theorem dX6_readBy_9 : decode cX6_readBy 9 = .ok (.if_icmp .ne 7, 3) := by decide +kernel
theorem dX6_readBy_12 : decode cX6_readBy 12 = .ok (.iconst 1, 1) := by decide +kernel
theorem dX6_readBy_13 : decode cX6_readBy 13 = .ok (.goto 4, 3) := by decide +kernel
theorem dX6_readBy_16 : decode cX6_readBy 16 = .ok (.iconst 0, 1) := by decide +kernel
theorem dX6_readBy_17 : decode cX6_readBy 17 = .ok (.istore 5, 2) := by decide +kernel
theorem dX6_readBy_19 : decode cX6_readBy 19 = .ok (.iload_n 3, 1) := by decide +kernel
theorem dX6_readBy_20 : decode cX6_readBy 20 = .ok (.iload_n 2, 1) := by decide +kernel
theorem dX6_readBy_21 : decode cX6_readBy 21 = .ok (.invokestatic 162, 3) := by decide +kernel
theorem dX6_readBy_24 : decode cX6_readBy 24 = .ok (.ifCond .eq 22, 3) := by decide +kernel
theorem dX6_readBy_27 : decode cX6_readBy 27 = .ok (.iload 5, 2) := by decide +kernel
theorem dX6_readBy_29 : decode cX6_readBy 29 = .ok (.ifCond .ne 19, 3) := by decide +kernel
theorem dX6_readBy_32 : decode cX6_readBy 32 = .ok (.aload_n 0, 1) := by decide +kernel
theorem dX6_readBy_33 : decode cX6_readBy 33 = .ok (.getfield 32, 3) := by decide +kernel
theorem dX6_readBy_36 : decode cX6_readBy 36 = .ok (.iconst 2, 1) := by decide +kernel
theorem dX6_readBy_37 : decode cX6_readBy 37 = .ok (.iload_n 2, 1) := by decide +kernel
theorem dX6_readBy_38 : decode cX6_readBy 38 = .ok (.imul, 1) := by decide +kernel
theorem dX6_readBy_39 : decode cX6_readBy 39 = .ok (.iconst 1, 1) := by decide +kernel
theorem dX6_readBy_40 : decode cX6_readBy 40 = .ok (.iadd, 1) := by decide +kernel
theorem dX6_readBy_41 : decode cX6_readBy 41 = .ok (.iaload, 1) := by decide +kernel
theorem dX6_readBy_42 : decode cX6_readBy 42 = .ok (.iload_n 1, 1) := by decide +kernel
theorem dX6_readBy_43 : decode cX6_readBy 43 = .ok (.if_icmp .eq 5, 3) := by decide +kernel
theorem dX6_readBy_46 : decode cX6_readBy 46 = .ok (.iconst (-1), 1) := by decide +kernel
theorem dX6_readBy_47 : decode cX6_readBy 47 = .ok (.ireturn, 1) := by decide +kernel
theorem dX6_readBy_48 : decode cX6_readBy 48 = .ok (.iload 5, 2) := by decide +kernel
theorem dX6_readBy_50 : decode cX6_readBy 50 = .ok (.iload 4, 2) := by decide +kernel
theorem dX6_readBy_52 : decode cX6_readBy 52 = .ok (.iload_n 2, 1) := by decide +kernel
theorem dX6_readBy_53 : decode cX6_readBy 53 = .ok (.invokestatic 162, 3) := by decide +kernel
theorem dX6_readBy_56 : decode cX6_readBy 56 = .ok (.if_icmp .ne 16, 3) := by decide +kernel
theorem dX6_readBy_59 : decode cX6_readBy 59 = .ok (.aload_n 0, 1) := by decide +kernel
theorem dX6_readBy_60 : decode cX6_readBy 60 = .ok (.getfield 41, 3) := by decide +kernel
theorem dX6_readBy_63 : decode cX6_readBy 63 = .ok (.iconst 2, 1) := by decide +kernel
theorem dX6_readBy_64 : decode cX6_readBy 64 = .ok (.iload_n 2, 1) := by decide +kernel
theorem dX6_readBy_65 : decode cX6_readBy 65 = .ok (.imul, 1) := by decide +kernel
theorem dX6_readBy_66 : decode cX6_readBy 66 = .ok (.iconst 1, 1) := by decide +kernel
theorem dX6_readBy_67 : decode cX6_readBy 67 = .ok (.iadd, 1) := by decide +kernel
theorem dX6_readBy_68 : decode cX6_readBy 68 = .ok (.iaload, 1) := by decide +kernel
theorem dX6_readBy_69 : decode cX6_readBy 69 = .ok (.goto 11, 3) := by decide +kernel
theorem dX6_readBy_72 : decode cX6_readBy 72 = .ok (.aload_n 0, 1) := by decide +kernel
theorem dX6_readBy_73 : decode cX6_readBy 73 = .ok (.getfield 41, 3) := by decide +kernel
theorem dX6_readBy_76 : decode cX6_readBy 76 = .ok (.iconst 2, 1) := by decide +kernel
theorem dX6_readBy_77 : decode cX6_readBy 77 = .ok (.iload_n 2, 1) := by decide +kernel
theorem dX6_readBy_78 : decode cX6_readBy 78 = .ok (.imul, 1) := by decide +kernel
theorem dX6_readBy_79 : decode cX6_readBy 79 = .ok (.iaload, 1) := by decide +kernel
theorem dX6_readBy_80 : decode cX6_readBy 80 = .ok (.ireturn, 1) := by decide +kernel
set_option maxRecDepth 20000 in
theorem ggX6_reads_X6_isIsland : GoodIn wsX6_reads wsX6_isIsland := goodIn_r _ [7, 8, 9, 10, 6, 11, 26, 27, 28, 29, 30, 31, 32, 33, 34, 35, 36, 37, 38, 39, 40, 41, 42, 43, 44, 45, 46, 47, 48, 49, 50, 51, 52, 53, 54, 55, 56, 57, 58, 59, 60, 61, 62, 63] (by decide +kernel) (by decide +kernel)
set_option maxRecDepth 20000 in
theorem gX6_reads_X6_isIsland : GoodIn wsX6_reads (wsV RX6 159 RX6 yX6_isIsland wsX6_isIsland) := goodIn_app (goodIn_of _ (by decide +kernel)) ggX6_reads_X6_isIsland
set_option maxRecDepth 20000 in
theorem ggX6_reads_X6_isLink : GoodIn wsX6_reads wsX6_isLink := goodIn_r _ [15, 16, 9, 10, 6, 11, 26, 27, 28, 29, 30, 31, 32, 33, 34, 35, 36, 37, 38, 39, 40, 41, 42, 43, 44, 45, 46, 47, 48, 49, 50, 51, 52, 53, 54, 55, 56, 57, 58, 59, 60, 61, 62, 63] (by decide +kernel) (by decide +kernel)
set_option maxRecDepth 20000 in
theorem gX6_reads_X6_isLink : GoodIn wsX6_reads (wsV RX6 173 RX6 yX6_isLink wsX6_isLink) := goodIn_app (goodIn_of _ (by decide +kernel)) ggX6_reads_X6_isLink
set_option maxRecDepth 20000 in
theorem ggX6_reads_X6_readBy : GoodIn wsX6_reads wsX6_readBy := goodIn_r _ [20, 21, 22, 23, 24, 6, 25, 26, 27, 28, 29, 30, 31, 32, 33, 34, 35, 36, 37, 38, 39, 40, 41, 42, 43, 44, 45, 46, 47, 48, 49, 50, 51, 52, 53, 54, 55, 56, 57, 58, 59, 60, 61, 62, 63] (by decide +kernel) (by decide +kernel)
set_option maxRecDepth 20000 in
theorem gX6_reads_X6_readBy : GoodIn wsX6_reads (wsV RX6 177 RX6 yX6_readBy wsX6_readBy) := goodIn_app (goodIn_of _ (by decide +kernel)) ggX6_reads_X6_readBy
theorem dX6_reads_0 : decode cX6_reads 0 = .ok (.aload_n 0, 1) := by decide +kernel
theorem dX6_reads_1 : decode cX6_reads 1 = .ok (.iload_n 1, 1) := by decide +kernel
theorem dX6_reads_2 : decode cX6_reads 2 = .ok (.invokevirtual 159, 3) := by decide +kernel
theorem dX6_reads_5 : decode cX6_reads 5 = .ok (.ifCond .eq 32, 3) := by decide +kernel
theorem dX6_reads_8 : decode cX6_reads 8 = .ok (.aload_n 0, 1) := by decide +kernel
theorem dX6_reads_9 : decode cX6_reads 9 = .ok (.iload_n 2, 1) := by decide +kernel
theorem dX6_reads_10 : decode cX6_reads 10 = .ok (.invokevirtual 173, 3) := by decide +kernel
theorem dX6_reads_13 : decode cX6_reads 13 = .ok (.ifCond .eq 24, 3) := by decide +kernel
theorem dX6_reads_16 : decode cX6_reads 16 = .ok (.aload_n 0, 1) := by decide +kernel
theorem dX6_reads_17 : decode cX6_reads 17 = .ok (.iload_n 1, 1) := by decide +kernel
theorem dX6_reads_18 : decode cX6_reads 18 = .ok (.iload_n 2, 1) := by decide +kernel
theorem dX6_reads_19 : decode cX6_reads 19 = .ok (.aload_n 0, 1) := by decide +kernel
theorem dX6_reads_20 : decode cX6_reads 20 = .ok (.getfield 47, 3) := by decide +kernel
theorem dX6_reads_23 : decode cX6_reads 23 = .ok (.iconst 0, 1) := by decide +kernel
theorem dX6_reads_24 : decode cX6_reads 24 = .ok (.iaload, 1) := by decide +kernel
theorem dX6_reads_25 : decode cX6_reads 25 = .ok (.aload_n 0, 1) := by decide +kernel
theorem dX6_reads_26 : decode cX6_reads 26 = .ok (.getfield 47, 3) := by decide +kernel
theorem dX6_reads_29 : decode cX6_reads 29 = .ok (.iconst 1, 1) := by decide +kernel
theorem dX6_reads_30 : decode cX6_reads 30 = .ok (.iaload, 1) := by decide +kernel
theorem dX6_reads_31 : decode cX6_reads 31 = .ok (.invokevirtual 177, 3) := by decide +kernel
theorem dX6_reads_34 : decode cX6_reads 34 = .ok (.goto 5, 3) := by decide +kernel
theorem dX6_reads_37 : decode cX6_reads 37 = .ok (.ldc 176, 2) := by decide +kernel
theorem dX6_reads_39 : decode cX6_reads 39 = .ok (.ireturn, 1) := by decide +kernel
set_option maxRecDepth 20000 in
theorem ggX6_wind_X6_in : GoodIn wsX6_wind wsX6_in := goodIn_r _ [8] (by decide +kernel) (by decide +kernel)
set_option maxRecDepth 20000 in
theorem gX6_wind_X6_in : GoodIn wsX6_wind (va_wsS RX6 82 yX6_in wsX6_in) := goodIn_app (goodIn_of _ (by decide +kernel)) ggX6_wind_X6_in
set_option maxRecDepth 20000 in
theorem ggX6_wind_X6_windOf : GoodIn wsX6_wind wsX6_windOf := goodIn_r _ [12, 13, 14, 15, 16, 17, 18, 19, 20, 21, 22, 23, 24, 25, 26, 27, 28, 29, 30, 31, 32, 33, 34, 35, 36, 37, 38, 39, 40, 41, 42, 43, 44, 45, 46, 47, 48, 49, 50, 51, 52] (by decide +kernel) (by decide +kernel)
set_option maxRecDepth 20000 in
theorem gX6_wind_X6_windOf : GoodIn wsX6_wind (wsV RX6 166 RX6 yX6_windOf wsX6_windOf) := goodIn_app (goodIn_of _ (by decide +kernel)) ggX6_wind_X6_windOf
theorem dX6_wind_0 : decode cX6_wind 0 = .ok (.iload_n 1, 1) := by decide +kernel
theorem dX6_wind_1 : decode cX6_wind 1 = .ok (.iconst 0, 1) := by decide +kernel
theorem dX6_wind_2 : decode cX6_wind 2 = .ok (.bipush 60, 2) := by decide +kernel
theorem dX6_wind_4 : decode cX6_wind 4 = .ok (.invokestatic 82, 3) := by decide +kernel
theorem dX6_wind_7 : decode cX6_wind 7 = .ok (.ifCond .ne 8, 3) := by decide +kernel
theorem dX6_wind_10 : decode cX6_wind 10 = .ok (.ldc 86, 2) := by decide +kernel
theorem dX6_wind_12 : decode cX6_wind 12 = .ok (.goto 27, 3) := by decide +kernel
theorem dX6_wind_15 : decode cX6_wind 15 = .ok (.aload_n 0, 1) := by decide +kernel
theorem dX6_wind_16 : decode cX6_wind 16 = .ok (.getfield 141, 3) := by decide +kernel
theorem dX6_wind_19 : decode cX6_wind 19 = .ok (.ifCond .ne 8, 3) := by decide +kernel
theorem dX6_wind_22 : decode cX6_wind 22 = .ok (.ldc 181, 2) := by decide +kernel
theorem dX6_wind_24 : decode cX6_wind 24 = .ok (.goto 15, 3) := by decide +kernel
theorem dX6_wind_27 : decode cX6_wind 27 = .ok (.aload_n 0, 1) := by decide +kernel
theorem dX6_wind_28 : decode cX6_wind 28 = .ok (.aload_n 0, 1) := by decide +kernel
theorem dX6_wind_29 : decode cX6_wind 29 = .ok (.getfield 47, 3) := by decide +kernel
theorem dX6_wind_32 : decode cX6_wind 32 = .ok (.iconst 3, 1) := by decide +kernel
theorem dX6_wind_33 : decode cX6_wind 33 = .ok (.iaload, 1) := by decide +kernel
theorem dX6_wind_34 : decode cX6_wind 34 = .ok (.iload_n 1, 1) := by decide +kernel
theorem dX6_wind_35 : decode cX6_wind 35 = .ok (.iadd, 1) := by decide +kernel
theorem dX6_wind_36 : decode cX6_wind 36 = .ok (.invokevirtual 166, 3) := by decide +kernel
theorem dX6_wind_39 : decode cX6_wind 39 = .ok (.ireturn, 1) := by decide +kernel
set_option maxRecDepth 20000 in
theorem ggX6_onward_X6_has : GoodIn wsX6_onward wsX6_has := goodIn_r _ [6] (by decide +kernel) (by decide +kernel)
set_option maxRecDepth 20000 in
theorem gX6_onward_X6_has : GoodIn wsX6_onward (va_wsS RX6 162 yX6_has wsX6_has) := goodIn_app (goodIn_of _ (by decide +kernel)) ggX6_onward_X6_has
theorem dX6_onward_0 : decode cX6_onward 0 = .ok (.iload_n 1, 1) := by decide +kernel
theorem dX6_onward_1 : decode cX6_onward 1 = .ok (.istore_n 3, 1) := by decide +kernel
theorem dX6_onward_2 : decode cX6_onward 2 = .ok (.iconst 0, 1) := by decide +kernel
theorem dX6_onward_3 : decode cX6_onward 3 = .ok (.istore 4, 2) := by decide +kernel
theorem dX6_onward_5 : decode cX6_onward 5 = .ok (.iload 4, 2) := by decide +kernel
theorem dX6_onward_7 : decode cX6_onward 7 = .ok (.aload_n 0, 1) := by decide +kernel
theorem dX6_onward_8 : decode cX6_onward 8 = .ok (.getfield 144, 3) := by decide +kernel
theorem dX6_onward_11 : decode cX6_onward 11 = .ok (.if_icmp .ge 80, 3) := by decide +kernel
theorem dX6_onward_14 : decode cX6_onward 14 = .ok (.iload_n 2, 1) := by decide +kernel
theorem dX6_onward_15 : decode cX6_onward 15 = .ok (.iload 4, 2) := by decide +kernel
theorem dX6_onward_17 : decode cX6_onward 17 = .ok (.invokestatic 162, 3) := by decide +kernel
theorem dX6_onward_20 : decode cX6_onward 20 = .ok (.ifCond .eq 65, 3) := by decide +kernel
theorem dX6_onward_23 : decode cX6_onward 23 = .ok (.iload_n 1, 1) := by decide +kernel
theorem dX6_onward_24 : decode cX6_onward 24 = .ok (.aload_n 0, 1) := by decide +kernel
theorem dX6_onward_25 : decode cX6_onward 25 = .ok (.getfield 32, 3) := by decide +kernel
theorem dX6_onward_28 : decode cX6_onward 28 = .ok (.iconst 2, 1) := by decide +kernel
theorem dX6_onward_29 : decode cX6_onward 29 = .ok (.iload 4, 2) := by decide +kernel
theorem dX6_onward_31 : decode cX6_onward 31 = .ok (.imul, 1) := by decide +kernel
theorem dX6_onward_32 : decode cX6_onward 32 = .ok (.iaload, 1) := by decide +kernel
theorem dX6_onward_33 : decode cX6_onward 33 = .ok (.invokestatic 162, 3) := by decide +kernel
theorem dX6_onward_36 : decode cX6_onward 36 = .ok (.ifCond .ne 21, 3) := by decide +kernel
theorem dX6_onward_39 : decode cX6_onward 39 = .ok (.iload_n 1, 1) := by decide +kernel
theorem dX6_onward_40 : decode cX6_onward 40 = .ok (.aload_n 0, 1) := by decide +kernel
theorem dX6_onward_41 : decode cX6_onward 41 = .ok (.getfield 32, 3) := by decide +kernel
theorem dX6_onward_44 : decode cX6_onward 44 = .ok (.iconst 2, 1) := by decide +kernel
theorem dX6_onward_45 : decode cX6_onward 45 = .ok (.iload 4, 2) := by decide +kernel
theorem dX6_onward_47 : decode cX6_onward 47 = .ok (.imul, 1) := by decide +kernel
theorem dX6_onward_48 : decode cX6_onward 48 = .ok (.iconst 1, 1) := by decide +kernel
theorem dX6_onward_49 : decode cX6_onward 49 = .ok (.iadd, 1) := by decide +kernel
theorem dX6_onward_50 : decode cX6_onward 50 = .ok (.iaload, 1) := by decide +kernel
theorem dX6_onward_51 : decode cX6_onward 51 = .ok (.invokestatic 162, 3) := by decide +kernel
theorem dX6_onward_54 : decode cX6_onward 54 = .ok (.ifCond .eq 31, 3) := by decide +kernel
theorem dX6_onward_57 : decode cX6_onward 57 = .ok (.iload_n 3, 1) := by decide +kernel
theorem dX6_onward_58 : decode cX6_onward 58 = .ok (.iconst 1, 1) := by decide +kernel
theorem dX6_onward_59 : decode cX6_onward 59 = .ok (.aload_n 0, 1) := by decide +kernel
theorem dX6_onward_60 : decode cX6_onward 60 = .ok (.getfield 32, 3) := by decide +kernel
theorem dX6_onward_63 : decode cX6_onward 63 = .ok (.iconst 2, 1) := by decide +kernel
theorem dX6_onward_64 : decode cX6_onward 64 = .ok (.iload 4, 2) := by decide +kernel
theorem dX6_onward_66 : decode cX6_onward 66 = .ok (.imul, 1) := by decide +kernel
theorem dX6_onward_67 : decode cX6_onward 67 = .ok (.iaload, 1) := by decide +kernel
theorem dX6_onward_68 : decode cX6_onward 68 = .ok (.ishl, 1) := by decide +kernel
theorem dX6_onward_69 : decode cX6_onward 69 = .ok (.iconst 1, 1) := by decide +kernel
theorem dX6_onward_70 : decode cX6_onward 70 = .ok (.aload_n 0, 1) := by decide +kernel
theorem dX6_onward_71 : decode cX6_onward 71 = .ok (.getfield 32, 3) := by decide +kernel
theorem dX6_onward_74 : decode cX6_onward 74 = .ok (.iconst 2, 1) := by decide +kernel
theorem dX6_onward_75 : decode cX6_onward 75 = .ok (.iload 4, 2) := by decide +kernel
theorem dX6_onward_77 : decode cX6_onward 77 = .ok (.imul, 1) := by decide +kernel
theorem dX6_onward_78 : decode cX6_onward 78 = .ok (.iconst 1, 1) := by decide +kernel
theorem dX6_onward_79 : decode cX6_onward 79 = .ok (.iadd, 1) := by decide +kernel
theorem dX6_onward_80 : decode cX6_onward 80 = .ok (.iaload, 1) := by decide +kernel
theorem dX6_onward_81 : decode cX6_onward 81 = .ok (.ishl, 1) := by decide +kernel
theorem dX6_onward_82 : decode cX6_onward 82 = .ok (.ior, 1) := by decide +kernel
theorem dX6_onward_83 : decode cX6_onward 83 = .ok (.ior, 1) := by decide +kernel
theorem dX6_onward_84 : decode cX6_onward 84 = .ok (.istore_n 3, 1) := by decide +kernel
theorem dX6_onward_85 : decode cX6_onward 85 = .ok (.iinc 4 1, 3) := by decide +kernel
theorem dX6_onward_88 : decode cX6_onward 88 = .ok (.goto (-83), 3) := by decide +kernel
theorem dX6_onward_91 : decode cX6_onward 91 = .ok (.iload_n 3, 1) := by decide +kernel
theorem dX6_onward_92 : decode cX6_onward 92 = .ok (.ireturn, 1) := by decide +kernel
set_option maxRecDepth 20000 in
theorem ggX6_reached_X6_onward : GoodIn wsX6_reached wsX6_onward := goodIn_r _ [6, 7, 8, 9, 10, 5, 11, 12, 13, 14, 15, 16, 17, 18, 19, 20, 21, 22, 23, 24, 25, 26, 27, 28, 29, 30, 31, 32, 33, 34, 35, 36, 37, 38, 39, 40, 41, 42, 43, 44, 45, 46, 47, 48, 49] (by decide +kernel) (by decide +kernel)
set_option maxRecDepth 20000 in
theorem gX6_reached_X6_onward : GoodIn wsX6_reached (wsV RX6 182 RX6 yX6_onward wsX6_onward) := goodIn_app (goodIn_of _ (by decide +kernel)) ggX6_reached_X6_onward
theorem dX6_reached_0 : decode cX6_reached 0 = .ok (.iconst 1, 1) := by decide +kernel
theorem dX6_reached_1 : decode cX6_reached 1 = .ok (.iload_n 1, 1) := by decide +kernel
theorem dX6_reached_2 : decode cX6_reached 2 = .ok (.ishl, 1) := by decide +kernel
theorem dX6_reached_3 : decode cX6_reached 3 = .ok (.istore_n 3, 1) := by decide +kernel
theorem dX6_reached_4 : decode cX6_reached 4 = .ok (.iconst 0, 1) := by decide +kernel
theorem dX6_reached_5 : decode cX6_reached 5 = .ok (.istore 4, 2) := by decide +kernel
theorem dX6_reached_7 : decode cX6_reached 7 = .ok (.iload 4, 2) := by decide +kernel
theorem dX6_reached_9 : decode cX6_reached 9 = .ok (.aload_n 0, 1) := by decide +kernel
theorem dX6_reached_10 : decode cX6_reached 10 = .ok (.getfield 141, 3) := by decide +kernel
theorem dX6_reached_13 : decode cX6_reached 13 = .ok (.if_icmp .ge 16, 3) := by decide +kernel
theorem dX6_reached_16 : decode cX6_reached 16 = .ok (.aload_n 0, 1) := by decide +kernel
theorem dX6_reached_17 : decode cX6_reached 17 = .ok (.iload_n 3, 1) := by decide +kernel
theorem dX6_reached_18 : decode cX6_reached 18 = .ok (.iload_n 2, 1) := by decide +kernel
theorem dX6_reached_19 : decode cX6_reached 19 = .ok (.invokevirtual 182, 3) := by decide +kernel
theorem dX6_reached_22 : decode cX6_reached 22 = .ok (.istore_n 3, 1) := by decide +kernel
theorem dX6_reached_23 : decode cX6_reached 23 = .ok (.iinc 4 1, 3) := by decide +kernel
theorem dX6_reached_26 : decode cX6_reached 26 = .ok (.goto (-19), 3) := by decide +kernel
theorem dX6_reached_29 : decode cX6_reached 29 = .ok (.iload_n 3, 1) := by decide +kernel
theorem dX6_reached_30 : decode cX6_reached 30 = .ok (.ireturn, 1) := by decide +kernel
set_option maxRecDepth 20000 in
theorem ggX6_partsOf_X6_has : GoodIn wsX6_partsOf wsX6_has := goodIn_r _ [5] (by decide +kernel) (by decide +kernel)
set_option maxRecDepth 20000 in
theorem gX6_partsOf_X6_has : GoodIn wsX6_partsOf (va_wsS RX6 162 yX6_has wsX6_has) := goodIn_app (goodIn_of _ (by decide +kernel)) ggX6_partsOf_X6_has
set_option maxRecDepth 20000 in
theorem ggX6_partsOf_X6_reached : GoodIn wsX6_partsOf wsX6_reached := goodIn_r _ [9, 1, 10, 11, 12, 4, 13, 14, 15, 2, 3, 5, 16, 17, 18, 19, 20, 21, 22, 23, 24, 25, 26, 27, 28, 29, 30, 31, 32, 33, 34, 35, 36, 37, 38, 39, 40, 41, 42, 43, 44, 45, 46, 47, 48, 49, 50, 51, 52, 53] (by decide +kernel) (by decide +kernel)
set_option maxRecDepth 20000 in
theorem gX6_partsOf_X6_reached : GoodIn wsX6_partsOf (wsV RX6 185 RX6 yX6_reached wsX6_reached) := goodIn_app (goodIn_of _ (by decide +kernel)) ggX6_partsOf_X6_reached
theorem dX6_partsOf_0 : decode cX6_partsOf 0 = .ok (.iconst 0, 1) := by decide +kernel
theorem dX6_partsOf_1 : decode cX6_partsOf 1 = .ok (.istore_n 2, 1) := by decide +kernel
theorem dX6_partsOf_2 : decode cX6_partsOf 2 = .ok (.iconst 0, 1) := by decide +kernel
theorem dX6_partsOf_3 : decode cX6_partsOf 3 = .ok (.istore_n 3, 1) := by decide +kernel
theorem dX6_partsOf_4 : decode cX6_partsOf 4 = .ok (.iconst 0, 1) := by decide +kernel
theorem dX6_partsOf_5 : decode cX6_partsOf 5 = .ok (.istore 4, 2) := by decide +kernel
theorem dX6_partsOf_7 : decode cX6_partsOf 7 = .ok (.iload 4, 2) := by decide +kernel
theorem dX6_partsOf_9 : decode cX6_partsOf 9 = .ok (.aload_n 0, 1) := by decide +kernel
theorem dX6_partsOf_10 : decode cX6_partsOf 10 = .ok (.getfield 141, 3) := by decide +kernel
theorem dX6_partsOf_13 : decode cX6_partsOf 13 = .ok (.if_icmp .ge 31, 3) := by decide +kernel
theorem dX6_partsOf_16 : decode cX6_partsOf 16 = .ok (.iload_n 3, 1) := by decide +kernel
theorem dX6_partsOf_17 : decode cX6_partsOf 17 = .ok (.iload 4, 2) := by decide +kernel
theorem dX6_partsOf_19 : decode cX6_partsOf 19 = .ok (.invokestatic 162, 3) := by decide +kernel
theorem dX6_partsOf_22 : decode cX6_partsOf 22 = .ok (.ifCond .ne 16, 3) := by decide +kernel
theorem dX6_partsOf_25 : decode cX6_partsOf 25 = .ok (.iinc 2 1, 3) := by decide +kernel
theorem dX6_partsOf_28 : decode cX6_partsOf 28 = .ok (.iload_n 3, 1) := by decide +kernel
theorem dX6_partsOf_29 : decode cX6_partsOf 29 = .ok (.aload_n 0, 1) := by decide +kernel
theorem dX6_partsOf_30 : decode cX6_partsOf 30 = .ok (.iload 4, 2) := by decide +kernel
theorem dX6_partsOf_32 : decode cX6_partsOf 32 = .ok (.iload_n 1, 1) := by decide +kernel
theorem dX6_partsOf_33 : decode cX6_partsOf 33 = .ok (.invokevirtual 185, 3) := by decide +kernel
theorem dX6_partsOf_36 : decode cX6_partsOf 36 = .ok (.ior, 1) := by decide +kernel
theorem dX6_partsOf_37 : decode cX6_partsOf 37 = .ok (.istore_n 3, 1) := by decide +kernel
theorem dX6_partsOf_38 : decode cX6_partsOf 38 = .ok (.iinc 4 1, 3) := by decide +kernel
theorem dX6_partsOf_41 : decode cX6_partsOf 41 = .ok (.goto (-34), 3) := by decide +kernel
theorem dX6_partsOf_44 : decode cX6_partsOf 44 = .ok (.iload_n 2, 1) := by decide +kernel
theorem dX6_partsOf_45 : decode cX6_partsOf 45 = .ok (.ireturn, 1) := by decide +kernel
set_option maxRecDepth 20000 in
theorem ggX6_alone_X6_has : GoodIn wsX6_alone wsX6_has := goodIn_r _ [6] (by decide +kernel) (by decide +kernel)
set_option maxRecDepth 20000 in
theorem gX6_alone_X6_has : GoodIn wsX6_alone (va_wsS RX6 162 yX6_has wsX6_has) := goodIn_app (goodIn_of _ (by decide +kernel)) ggX6_alone_X6_has
set_option maxRecDepth 20000 in
theorem ggX6_alone_X6_partsOf : GoodIn wsX6_alone wsX6_partsOf := goodIn_r _ [10, 11, 3, 4, 5, 6, 12, 13, 14, 15, 16, 17, 18, 19, 1, 20, 21, 22, 23, 24, 25, 26, 27, 28, 29, 30, 31, 32, 33, 34, 35, 36, 37, 38, 39, 40, 41, 42, 43, 44, 45, 46, 47, 48, 49, 50, 51, 52, 53, 54, 55, 56, 57, 58] (by decide +kernel) (by decide +kernel)
set_option maxRecDepth 20000 in
theorem gX6_alone_X6_partsOf : GoodIn wsX6_alone (wsV RX6 188 RX6 yX6_partsOf wsX6_partsOf) := goodIn_app (goodIn_of _ (by decide +kernel)) ggX6_alone_X6_partsOf
theorem dX6_alone_0 : decode cX6_alone 0 = .ok (.iconst 0, 1) := by decide +kernel
theorem dX6_alone_1 : decode cX6_alone 1 = .ok (.istore_n 1, 1) := by decide +kernel
theorem dX6_alone_2 : decode cX6_alone 2 = .ok (.iconst 0, 1) := by decide +kernel
theorem dX6_alone_3 : decode cX6_alone 3 = .ok (.istore_n 2, 1) := by decide +kernel
theorem dX6_alone_4 : decode cX6_alone 4 = .ok (.iload_n 2, 1) := by decide +kernel
theorem dX6_alone_5 : decode cX6_alone 5 = .ok (.aload_n 0, 1) := by decide +kernel
theorem dX6_alone_6 : decode cX6_alone 6 = .ok (.getfield 144, 3) := by decide +kernel
theorem dX6_alone_9 : decode cX6_alone 9 = .ok (.if_icmp .ge 61, 3) := by decide +kernel
theorem dX6_alone_12 : decode cX6_alone 12 = .ok (.iload_n 1, 1) := by decide +kernel
theorem dX6_alone_13 : decode cX6_alone 13 = .ok (.aload_n 0, 1) := by decide +kernel
theorem dX6_alone_14 : decode cX6_alone 14 = .ok (.getfield 47, 3) := by decide +kernel
theorem dX6_alone_17 : decode cX6_alone 17 = .ok (.iconst 0, 1) := by decide +kernel
theorem dX6_alone_18 : decode cX6_alone 18 = .ok (.iaload, 1) := by decide +kernel
theorem dX6_alone_19 : decode cX6_alone 19 = .ok (.iload_n 2, 1) := by decide +kernel
theorem dX6_alone_20 : decode cX6_alone 20 = .ok (.invokestatic 162, 3) := by decide +kernel
theorem dX6_alone_23 : decode cX6_alone 23 = .ok (.ifCond .eq 38, 3) := by decide +kernel
theorem dX6_alone_26 : decode cX6_alone 26 = .ok (.aload_n 0, 1) := by decide +kernel
theorem dX6_alone_27 : decode cX6_alone 27 = .ok (.aload_n 0, 1) := by decide +kernel
theorem dX6_alone_28 : decode cX6_alone 28 = .ok (.getfield 47, 3) := by decide +kernel
theorem dX6_alone_31 : decode cX6_alone 31 = .ok (.iconst 0, 1) := by decide +kernel
theorem dX6_alone_32 : decode cX6_alone 32 = .ok (.iaload, 1) := by decide +kernel
theorem dX6_alone_33 : decode cX6_alone 33 = .ok (.iconst 1, 1) := by decide +kernel
theorem dX6_alone_34 : decode cX6_alone 34 = .ok (.iload_n 2, 1) := by decide +kernel
theorem dX6_alone_35 : decode cX6_alone 35 = .ok (.ishl, 1) := by decide +kernel
