theorem dX5_areTwoIslands_27 : decode cX5_areTwoIslands 27 = .ok (.iconst 1, 1) := by decide +kernel
theorem dX5_areTwoIslands_28 : decode cX5_areTwoIslands 28 = .ok (.goto 4, 3) := by decide +kernel
theorem dX5_areTwoIslands_31 : decode cX5_areTwoIslands 31 = .ok (.iconst 0, 1) := by decide +kernel
theorem dX5_areTwoIslands_32 : decode cX5_areTwoIslands 32 = .ok (.ireturn, 1) := by decide +kernel
set_option maxRecDepth 20000 in
theorem ggX5_refusalOfHours_X5_isWithin : GoodIn wsX5_refusalOfHours wsX5_isWithin := goodIn_r _ [11] (by decide +kernel) (by decide +kernel)
set_option maxRecDepth 20000 in
theorem gX5_refusalOfHours_X5_isWithin : GoodIn wsX5_refusalOfHours (va_wsS RX5 64 yX5_isWithin wsX5_isWithin) := goodIn_app (goodIn_of _ (by decide +kernel)) ggX5_refusalOfHours_X5_isWithin
set_option maxRecDepth 20000 in
theorem ggX5_refusalOfHours_X1_isThere : GoodIn wsX5_refusalOfHours wsX1_isThere := goodIn_r _ [16, 17, 36, 37, 38, 39, 40, 41, 42, 43, 44, 45, 46, 47] (by decide +kernel) (by decide +kernel)
set_option maxRecDepth 20000 in
theorem gX5_refusalOfHours_X1_isThere : GoodIn wsX5_refusalOfHours (wsV RX5 174 RX1 yX1_isThere wsX1_isThere) := goodIn_app (goodIn_of _ (by decide +kernel)) ggX5_refusalOfHours_X1_isThere
theorem dX5_refusalOfHours_0 : decode cX5_refusalOfHours 0 = .ok (.iload_n 1, 1) := by decide +kernel
theorem dX5_refusalOfHours_1 : decode cX5_refusalOfHours 1 = .ok (.iconst 1, 1) := by decide +kernel
theorem dX5_refusalOfHours_2 : decode cX5_refusalOfHours 2 = .ok (.bipush 30, 2) := by decide +kernel
theorem dX5_refusalOfHours_4 : decode cX5_refusalOfHours 4 = .ok (.invokestatic 64, 3) := by decide +kernel
theorem dX5_refusalOfHours_7 : decode cX5_refusalOfHours 7 = .ok (.ifCond .ne 6, 3) := by decide +kernel
theorem dX5_refusalOfHours_10 : decode cX5_refusalOfHours 10 = .ok (.ldc 68, 2) := by decide +kernel
theorem dX5_refusalOfHours_12 : decode cX5_refusalOfHours 12 = .ok (.ireturn, 1) := by decide +kernel
theorem dX5_refusalOfHours_13 : decode cX5_refusalOfHours 13 = .ok (.aload_n 0, 1) := by decide +kernel
theorem dX5_refusalOfHours_14 : decode cX5_refusalOfHours 14 = .ok (.getfield 19, 3) := by decide +kernel
theorem dX5_refusalOfHours_17 : decode cX5_refusalOfHours 17 = .ok (.invokevirtual 174, 3) := by decide +kernel
theorem dX5_refusalOfHours_20 : decode cX5_refusalOfHours 20 = .ok (.ifCond .ne 6, 3) := by decide +kernel
theorem dX5_refusalOfHours_23 : decode cX5_refusalOfHours 23 = .ok (.ldc 178, 2) := by decide +kernel
theorem dX5_refusalOfHours_25 : decode cX5_refusalOfHours 25 = .ok (.ireturn, 1) := by decide +kernel
theorem dX5_refusalOfHours_26 : decode cX5_refusalOfHours 26 = .ok (.aload_n 0, 1) := by decide +kernel
theorem dX5_refusalOfHours_27 : decode cX5_refusalOfHours 27 = .ok (.getfield 29, 3) := by decide +kernel
theorem dX5_refusalOfHours_30 : decode cX5_refusalOfHours 30 = .ok (.getfield 101, 3) := by decide +kernel
theorem dX5_refusalOfHours_33 : decode cX5_refusalOfHours 33 = .ok (.ldc_w 302, 3) := by decide +kernel
theorem dX5_refusalOfHours_36 : decode cX5_refusalOfHours 36 = .ok (.if_icmp .le 8, 3) := by decide +kernel
theorem dX5_refusalOfHours_39 : decode cX5_refusalOfHours 39 = .ok (.ldc 72, 2) := by decide +kernel
theorem dX5_refusalOfHours_41 : decode cX5_refusalOfHours 41 = .ok (.goto 4, 3) := by decide +kernel
theorem dX5_refusalOfHours_44 : decode cX5_refusalOfHours 44 = .ok (.iconst 0, 1) := by decide +kernel
theorem dX5_refusalOfHours_45 : decode cX5_refusalOfHours 45 = .ok (.ireturn, 1) := by decide +kernel
theorem dX5_drawOf_0 : decode cX5_drawOf 0 = .ok (.aload_n 0, 1) := by decide +kernel
theorem dX5_drawOf_1 : decode cX5_drawOf 1 = .ok (.aload_n 0, 1) := by decide +kernel
theorem dX5_drawOf_2 : decode cX5_drawOf 2 = .ok (.getfield 61, 3) := by decide +kernel
theorem dX5_drawOf_5 : decode cX5_drawOf 5 = .ok (.i2l, 1) := by decide +kernel
theorem dX5_drawOf_6 : decode cX5_drawOf 6 = .ok (.ldc2_w 303, 3) := by decide +kernel
theorem dX5_drawOf_9 : decode cX5_drawOf 9 = .ok (.lmul, 1) := by decide +kernel
theorem dX5_drawOf_10 : decode cX5_drawOf 10 = .ok (.ldc2_w 305, 3) := by decide +kernel
theorem dX5_drawOf_13 : decode cX5_drawOf 13 = .ok (.ladd, 1) := by decide +kernel
theorem dX5_drawOf_14 : decode cX5_drawOf 14 = .ok (.ldc2_w 307, 3) := by decide +kernel
theorem dX5_drawOf_17 : decode cX5_drawOf 17 = .ok (.land, 1) := by decide +kernel
theorem dX5_drawOf_18 : decode cX5_drawOf 18 = .ok (.l2i, 1) := by decide +kernel
theorem dX5_drawOf_19 : decode cX5_drawOf 19 = .ok (.putfield 61, 3) := by decide +kernel
theorem dX5_drawOf_22 : decode cX5_drawOf 22 = .ok (.iload_n 1, 1) := by decide +kernel
theorem dX5_drawOf_23 : decode cX5_drawOf 23 = .ok (.iconst 1, 1) := by decide +kernel
theorem dX5_drawOf_24 : decode cX5_drawOf 24 = .ok (.if_icmp .ge 7, 3) := by decide +kernel
theorem dX5_drawOf_27 : decode cX5_drawOf 27 = .ok (.iconst 0, 1) := by decide +kernel
theorem dX5_drawOf_28 : decode cX5_drawOf 28 = .ok (.goto 13, 3) := by decide +kernel
theorem dX5_drawOf_31 : decode cX5_drawOf 31 = .ok (.aload_n 0, 1) := by decide +kernel
theorem dX5_drawOf_32 : decode cX5_drawOf 32 = .ok (.getfield 61, 3) := by decide +kernel
theorem dX5_drawOf_35 : decode cX5_drawOf 35 = .ok (.ldc_w 309, 3) := by decide +kernel
theorem dX5_drawOf_38 : decode cX5_drawOf 38 = .ok (.idiv, 1) := by decide +kernel
theorem dX5_drawOf_39 : decode cX5_drawOf 39 = .ok (.iload_n 1, 1) := by decide +kernel
theorem dX5_drawOf_40 : decode cX5_drawOf 40 = .ok (.irem, 1) := by decide +kernel
theorem dX5_drawOf_41 : decode cX5_drawOf 41 = .ok (.ireturn, 1) := by decide +kernel
set_option maxRecDepth 20000 in
theorem ggX5_drawDeed_X5_drawOf : GoodIn wsX5_drawDeed wsX5_drawOf := goodIn_r _ [10, 11, 12, 13, 14, 15, 30, 31, 32, 33, 34, 35, 36, 37, 38, 39, 40] (by decide +kernel) (by decide +kernel)
set_option maxRecDepth 20000 in
theorem gX5_drawDeed_X5_drawOf : GoodIn wsX5_drawDeed (wsV RX5 310 RX5 yX5_drawOf wsX5_drawOf) := goodIn_app (goodIn_of _ (by decide +kernel)) ggX5_drawDeed_X5_drawOf
set_option maxRecDepth 20000 in
theorem ggX5_drawDeed_X0_canBeDoneUp : GoodIn wsX5_drawDeed wsX0_canBeDoneUp := goodIn_r _ [20, 21, 22, 9, 23, 24, 25, 26, 19, 27, 28, 29, 53, 54, 55, 56, 57, 58, 59, 41, 42, 43, 44, 45, 46, 47, 48, 49, 50, 51, 52] (by decide +kernel) (by decide +kernel)
set_option maxRecDepth 20000 in
theorem gX5_drawDeed_X0_canBeDoneUp : GoodIn wsX5_drawDeed (wsV RX5 197 RX0 yX0_canBeDoneUp wsX0_canBeDoneUp) := goodIn_app (goodIn_of _ (by decide +kernel)) ggX5_drawDeed_X0_canBeDoneUp
theorem dX5_drawDeed_0 : decode cX5_drawDeed 0 = .ok (.aload_n 0, 1) := by decide +kernel
theorem dX5_drawDeed_1 : decode cX5_drawDeed 1 = .ok (.bipush 6, 2) := by decide +kernel
theorem dX5_drawDeed_3 : decode cX5_drawDeed 3 = .ok (.invokevirtual 310, 3) := by decide +kernel
theorem dX5_drawDeed_6 : decode cX5_drawDeed 6 = .ok (.istore_n 1, 1) := by decide +kernel
theorem dX5_drawDeed_7 : decode cX5_drawDeed 7 = .ok (.iload_n 1, 1) := by decide +kernel
theorem dX5_drawDeed_8 : decode cX5_drawDeed 8 = .ok (.iconst 2, 1) := by decide +kernel
theorem dX5_drawDeed_9 : decode cX5_drawDeed 9 = .ok (.if_icmp .le 4, 3) := by decide +kernel
theorem dX5_drawDeed_12 : decode cX5_drawDeed 12 = .ok (.return_, 1) := by decide +kernel
theorem dX5_drawDeed_13 : decode cX5_drawDeed 13 = .ok (.aload_n 0, 1) := by decide +kernel
theorem dX5_drawDeed_14 : decode cX5_drawDeed 14 = .ok (.aload_n 0, 1) := by decide +kernel
theorem dX5_drawDeed_15 : decode cX5_drawDeed 15 = .ok (.getfield 19, 3) := by decide +kernel
theorem dX5_drawDeed_18 : decode cX5_drawDeed 18 = .ok (.getfield 89, 3) := by decide +kernel
theorem dX5_drawDeed_21 : decode cX5_drawDeed 21 = .ok (.invokevirtual 310, 3) := by decide +kernel
theorem dX5_drawDeed_24 : decode cX5_drawDeed 24 = .ok (.istore_n 2, 1) := by decide +kernel
theorem dX5_drawDeed_25 : decode cX5_drawDeed 25 = .ok (.iload_n 1, 1) := by decide +kernel
theorem dX5_drawDeed_26 : decode cX5_drawDeed 26 = .ok (.ifCond .ne 23, 3) := by decide +kernel
theorem dX5_drawDeed_29 : decode cX5_drawDeed 29 = .ok (.aload_n 0, 1) := by decide +kernel
theorem dX5_drawDeed_30 : decode cX5_drawDeed 30 = .ok (.getfield 29, 3) := by decide +kernel
theorem dX5_drawDeed_33 : decode cX5_drawDeed 33 = .ok (.dup, 1) := by decide +kernel
theorem dX5_drawDeed_34 : decode cX5_drawDeed 34 = .ok (.getfield 110, 3) := by decide +kernel
theorem dX5_drawDeed_37 : decode cX5_drawDeed 37 = .ok (.iconst 1, 1) := by decide +kernel
theorem dX5_drawDeed_38 : decode cX5_drawDeed 38 = .ok (.iload_n 2, 1) := by decide +kernel
theorem dX5_drawDeed_39 : decode cX5_drawDeed 39 = .ok (.ishl, 1) := by decide +kernel
theorem dX5_drawDeed_40 : decode cX5_drawDeed 40 = .ok (.iconst (-1), 1) := by decide +kernel
theorem dX5_drawDeed_41 : decode cX5_drawDeed 41 = .ok (.ixor, 1) := by decide +kernel
theorem dX5_drawDeed_42 : decode cX5_drawDeed 42 = .ok (.iand, 1) := by decide +kernel
theorem dX5_drawDeed_43 : decode cX5_drawDeed 43 = .ok (.putfield 110, 3) := by decide +kernel
theorem dX5_drawDeed_46 : decode cX5_drawDeed 46 = .ok (.goto 56, 3) := by decide +kernel
theorem dX5_drawDeed_49 : decode cX5_drawDeed 49 = .ok (.iload_n 1, 1) := by decide +kernel
theorem dX5_drawDeed_50 : decode cX5_drawDeed 50 = .ok (.iconst 2, 1) := by decide +kernel
theorem dX5_drawDeed_51 : decode cX5_drawDeed 51 = .ok (.if_icmp .ne 21, 3) := by decide +kernel
theorem dX5_drawDeed_54 : decode cX5_drawDeed 54 = .ok (.aload_n 0, 1) := by decide +kernel
theorem dX5_drawDeed_55 : decode cX5_drawDeed 55 = .ok (.getfield 29, 3) := by decide +kernel
theorem dX5_drawDeed_58 : decode cX5_drawDeed 58 = .ok (.dup, 1) := by decide +kernel
theorem dX5_drawDeed_59 : decode cX5_drawDeed 59 = .ok (.getfield 117, 3) := by decide +kernel
theorem dX5_drawDeed_62 : decode cX5_drawDeed 62 = .ok (.iconst 1, 1) := by decide +kernel
theorem dX5_drawDeed_63 : decode cX5_drawDeed 63 = .ok (.iload_n 2, 1) := by decide +kernel
theorem dX5_drawDeed_64 : decode cX5_drawDeed 64 = .ok (.ishl, 1) := by decide +kernel
theorem dX5_drawDeed_65 : decode cX5_drawDeed 65 = .ok (.ixor, 1) := by decide +kernel
theorem dX5_drawDeed_66 : decode cX5_drawDeed 66 = .ok (.putfield 117, 3) := by decide +kernel
theorem dX5_drawDeed_69 : decode cX5_drawDeed 69 = .ok (.goto 33, 3) := by decide +kernel
theorem dX5_drawDeed_72 : decode cX5_drawDeed 72 = .ok (.aload_n 0, 1) := by decide +kernel
theorem dX5_drawDeed_73 : decode cX5_drawDeed 73 = .ok (.getfield 29, 3) := by decide +kernel
theorem dX5_drawDeed_76 : decode cX5_drawDeed 76 = .ok (.aload_n 0, 1) := by decide +kernel
theorem dX5_drawDeed_77 : decode cX5_drawDeed 77 = .ok (.getfield 19, 3) := by decide +kernel
theorem dX5_drawDeed_80 : decode cX5_drawDeed 80 = .ok (.iload_n 2, 1) := by decide +kernel
theorem dX5_drawDeed_81 : decode cX5_drawDeed 81 = .ok (.invokevirtual 197, 3) := by decide +kernel
theorem dX5_drawDeed_84 : decode cX5_drawDeed 84 = .ok (.ifCond .eq 18, 3) := by decide +kernel
theorem dX5_drawDeed_87 : decode cX5_drawDeed 87 = .ok (.aload_n 0, 1) := by decide +kernel
theorem dX5_drawDeed_88 : decode cX5_drawDeed 88 = .ok (.getfield 29, 3) := by decide +kernel
theorem dX5_drawDeed_91 : decode cX5_drawDeed 91 = .ok (.dup, 1) := by decide +kernel
theorem dX5_drawDeed_92 : decode cX5_drawDeed 92 = .ok (.getfield 110, 3) := by decide +kernel
theorem dX5_drawDeed_95 : decode cX5_drawDeed 95 = .ok (.iconst 1, 1) := by decide +kernel
theorem dX5_drawDeed_96 : decode cX5_drawDeed 96 = .ok (.iload_n 2, 1) := by decide +kernel
theorem dX5_drawDeed_97 : decode cX5_drawDeed 97 = .ok (.ishl, 1) := by decide +kernel
theorem dX5_drawDeed_98 : decode cX5_drawDeed 98 = .ok (.ior, 1) := by decide +kernel
theorem dX5_drawDeed_99 : decode cX5_drawDeed 99 = .ok (.putfield 110, 3) := by decide +kernel
theorem dX5_drawDeed_102 : decode cX5_drawDeed 102 = .ok (.return_, 1) := by decide +kernel
set_option maxRecDepth 20000 in
theorem ggX5_doneUpBehind_X0_become : GoodIn wsX5_doneUpBehind wsX0_become := goodIn_r _ [7, 8, 9, 10, 11, 12, 13, 14, 15, 16, 17, 18, 74, 75, 76, 77, 78, 79, 80] (by decide +kernel) (by decide +kernel)
set_option maxRecDepth 20000 in
theorem gX5_doneUpBehind_X0_become : GoodIn wsX5_doneUpBehind (wsV RX5 313 RX0 yX0_become wsX0_become) := goodIn_app (goodIn_of _ (by decide +kernel)) ggX5_doneUpBehind_X0_become
set_option maxRecDepth 20000 in
theorem ggX5_doneUpBehind_X5_tryHours : GoodIn wsX5_doneUpBehind wsX5_tryHours := goodIn_r _ [23, 1, 24, 25, 26, 27, 28, 6, 29, 16, 30, 13, 8, 31, 15, 32, 33, 34, 35, 18, 36, 37, 38, 39, 40, 41, 42, 43, 22, 44, 45, 46, 47, 48, 49, 50, 51, 52, 53, 54, 55, 56, 57, 58, 59, 60, 61, 62, 63, 64, 65, 66, 67, 68, 69, 70, 71, 72, 73, 74, 75, 76, 77, 78, 79, 80, 81, 82, 83, 84, 85, 86, 87, 88, 89, 90, 91, 92] (by decide +kernel) (by decide +kernel)
set_option maxRecDepth 20000 in
theorem gX5_doneUpBehind_X5_tryHours : GoodIn wsX5_doneUpBehind (wsV RX5 316 RX5 yX5_tryHours wsX5_tryHours) := goodIn_app (goodIn_of _ (by decide +kernel)) ggX5_doneUpBehind_X5_tryHours
theorem dX5_doneUpBehind_0 : decode cX5_doneUpBehind 0 = .ok (.aload_n 0, 1) := by decide +kernel
theorem dX5_doneUpBehind_1 : decode cX5_doneUpBehind 1 = .ok (.getfield 33, 3) := by decide +kernel
theorem dX5_doneUpBehind_4 : decode cX5_doneUpBehind 4 = .ok (.aload_n 0, 1) := by decide +kernel
theorem dX5_doneUpBehind_5 : decode cX5_doneUpBehind 5 = .ok (.getfield 29, 3) := by decide +kernel
theorem dX5_doneUpBehind_8 : decode cX5_doneUpBehind 8 = .ok (.invokevirtual 313, 3) := by decide +kernel
theorem dX5_doneUpBehind_11 : decode cX5_doneUpBehind 11 = .ok (.aload_n 0, 1) := by decide +kernel
theorem dX5_doneUpBehind_12 : decode cX5_doneUpBehind 12 = .ok (.iload_n 1, 1) := by decide +kernel
theorem dX5_doneUpBehind_13 : decode cX5_doneUpBehind 13 = .ok (.invokevirtual 316, 3) := by decide +kernel
theorem dX5_doneUpBehind_16 : decode cX5_doneUpBehind 16 = .ok (.ireturn, 1) := by decide +kernel
set_option maxRecDepth 20000 in
theorem ggX5_tryHours_X0_passHour : GoodIn wsX5_tryHours wsX0_passHour := goodIn_r _ [8, 9, 10, 11, 12, 13, 14, 15, 16, 17, 18, 19, 20, 21, 22, 23, 24, 25, 26, 27, 28, 29, 30, 31, 7, 32, 33, 34, 35, 36, 37, 38, 39, 40, 41, 42, 43, 44, 45, 46, 47, 59, 60, 61, 62, 63, 64, 65, 66, 67, 68, 69, 70, 71, 72, 73, 74, 75, 76, 77] (by decide +kernel) (by decide +kernel)
set_option maxRecDepth 20000 in
theorem gX5_tryHours_X0_passHour : GoodIn wsX5_tryHours (wsV RX5 189 RX0 yX0_passHour wsX0_passHour) := goodIn_app (goodIn_of _ (by decide +kernel)) ggX5_tryHours_X0_passHour
theorem dX5_tryHours_0 : decode cX5_tryHours 0 = .ok (.iconst 0, 1) := by decide +kernel
theorem dX5_tryHours_1 : decode cX5_tryHours 1 = .ok (.istore_n 2, 1) := by decide +kernel
theorem dX5_tryHours_2 : decode cX5_tryHours 2 = .ok (.iload_n 2, 1) := by decide +kernel
theorem dX5_tryHours_3 : decode cX5_tryHours 3 = .ok (.iload_n 1, 1) := by decide +kernel
theorem dX5_tryHours_4 : decode cX5_tryHours 4 = .ok (.if_icmp .ge 21, 3) := by decide +kernel
theorem dX5_tryHours_7 : decode cX5_tryHours 7 = .ok (.aload_n 0, 1) := by decide +kernel
theorem dX5_tryHours_8 : decode cX5_tryHours 8 = .ok (.getfield 33, 3) := by decide +kernel
theorem dX5_tryHours_11 : decode cX5_tryHours 11 = .ok (.aload_n 0, 1) := by decide +kernel
theorem dX5_tryHours_12 : decode cX5_tryHours 12 = .ok (.getfield 19, 3) := by decide +kernel
theorem dX5_tryHours_15 : decode cX5_tryHours 15 = .ok (.invokevirtual 189, 3) := by decide +kernel
theorem dX5_tryHours_18 : decode cX5_tryHours 18 = .ok (.pop, 1) := by decide +kernel
theorem dX5_tryHours_19 : decode cX5_tryHours 19 = .ok (.iinc 2 1, 3) := by decide +kernel
theorem dX5_tryHours_22 : decode cX5_tryHours 22 = .ok (.goto (-20), 3) := by decide +kernel
theorem dX5_tryHours_25 : decode cX5_tryHours 25 = .ok (.aload_n 0, 1) := by decide +kernel
theorem dX5_tryHours_26 : decode cX5_tryHours 26 = .ok (.getfield 33, 3) := by decide +kernel
theorem dX5_tryHours_29 : decode cX5_tryHours 29 = .ok (.getfield 110, 3) := by decide +kernel
theorem dX5_tryHours_32 : decode cX5_tryHours 32 = .ok (.ireturn, 1) := by decide +kernel
set_option maxRecDepth 20000 in
theorem ggX5_hoursUntilBreak_X0_become : GoodIn wsX5_hoursUntilBreak wsX0_become := goodIn_r _ [8, 9, 10, 11, 12, 13, 14, 15, 16, 17, 18, 19, 69, 70, 71, 72, 73, 74, 75] (by decide +kernel) (by decide +kernel)
set_option maxRecDepth 20000 in
theorem gX5_hoursUntilBreak_X0_become : GoodIn wsX5_hoursUntilBreak (wsV RX5 313 RX0 yX0_become wsX0_become) := goodIn_app (goodIn_of _ (by decide +kernel)) ggX5_hoursUntilBreak_X0_become
set_option maxRecDepth 20000 in
theorem ggX5_hoursUntilBreak_X0_passHour : GoodIn wsX5_hoursUntilBreak wsX0_passHour := goodIn_r _ [23, 17, 24, 14, 9, 25, 16, 26, 27, 28, 29, 19, 30, 31, 32, 33, 34, 35, 36, 37, 38, 39, 40, 41, 7, 42, 43, 44, 45, 46, 47, 48, 49, 50, 51, 52, 53, 54, 55, 56, 57, 69, 70, 71, 72, 73, 74, 75, 76, 77, 78, 79, 80, 81, 82, 83, 84, 85, 86, 87] (by decide +kernel) (by decide +kernel)
set_option maxRecDepth 20000 in
theorem gX5_hoursUntilBreak_X0_passHour : GoodIn wsX5_hoursUntilBreak (wsV RX5 189 RX0 yX0_passHour wsX0_passHour) := goodIn_app (goodIn_of _ (by decide +kernel)) ggX5_hoursUntilBreak_X0_passHour
theorem dX5_hoursUntilBreak_0 : decode cX5_hoursUntilBreak 0 = .ok (.aload_n 0, 1) := by decide +kernel
theorem dX5_hoursUntilBreak_1 : decode cX5_hoursUntilBreak 1 = .ok (.getfield 33, 3) := by decide +kernel
theorem dX5_hoursUntilBreak_4 : decode cX5_hoursUntilBreak 4 = .ok (.aload_n 0, 1) := by decide +kernel
theorem dX5_hoursUntilBreak_5 : decode cX5_hoursUntilBreak 5 = .ok (.getfield 29, 3) := by decide +kernel
theorem dX5_hoursUntilBreak_8 : decode cX5_hoursUntilBreak 8 = .ok (.invokevirtual 313, 3) := by decide +kernel
theorem dX5_hoursUntilBreak_11 : decode cX5_hoursUntilBreak 11 = .ok (.iconst 1, 1) := by decide +kernel
theorem dX5_hoursUntilBreak_12 : decode cX5_hoursUntilBreak 12 = .ok (.istore_n 2, 1) := by decide +kernel
theorem dX5_hoursUntilBreak_13 : decode cX5_hoursUntilBreak 13 = .ok (.iload_n 2, 1) := by decide +kernel
theorem dX5_hoursUntilBreak_14 : decode cX5_hoursUntilBreak 14 = .ok (.sipush 200, 3) := by decide +kernel
theorem dX5_hoursUntilBreak_17 : decode cX5_hoursUntilBreak 17 = .ok (.if_icmp .gt 27, 3) := by decide +kernel
theorem dX5_hoursUntilBreak_20 : decode cX5_hoursUntilBreak 20 = .ok (.aload_n 0, 1) := by decide +kernel
theorem dX5_hoursUntilBreak_21 : decode cX5_hoursUntilBreak 21 = .ok (.getfield 33, 3) := by decide +kernel
theorem dX5_hoursUntilBreak_24 : decode cX5_hoursUntilBreak 24 = .ok (.aload_n 0, 1) := by decide +kernel
theorem dX5_hoursUntilBreak_25 : decode cX5_hoursUntilBreak 25 = .ok (.getfield 19, 3) := by decide +kernel
theorem dX5_hoursUntilBreak_28 : decode cX5_hoursUntilBreak 28 = .ok (.invokevirtual 189, 3) := by decide +kernel
theorem dX5_hoursUntilBreak_31 : decode cX5_hoursUntilBreak 31 = .ok (.iload_n 1, 1) := by decide +kernel
theorem dX5_hoursUntilBreak_32 : decode cX5_hoursUntilBreak 32 = .ok (.iand, 1) := by decide +kernel
theorem dX5_hoursUntilBreak_33 : decode cX5_hoursUntilBreak 33 = .ok (.ifCond .eq 5, 3) := by decide +kernel
theorem dX5_hoursUntilBreak_36 : decode cX5_hoursUntilBreak 36 = .ok (.iload_n 2, 1) := by decide +kernel
theorem dX5_hoursUntilBreak_37 : decode cX5_hoursUntilBreak 37 = .ok (.ireturn, 1) := by decide +kernel
theorem dX5_hoursUntilBreak_38 : decode cX5_hoursUntilBreak 38 = .ok (.iinc 2 1, 3) := by decide +kernel
theorem dX5_hoursUntilBreak_41 : decode cX5_hoursUntilBreak 41 = .ok (.goto (-28), 3) := by decide +kernel
theorem dX5_hoursUntilBreak_44 : decode cX5_hoursUntilBreak 44 = .ok (.iconst (-1), 1) := by decide +kernel
theorem dX5_hoursUntilBreak_45 : decode cX5_hoursUntilBreak 45 = .ok (.ireturn, 1) := by decide +kernel
set_option maxRecDepth 20000 in
theorem ggX5_linksAlone_X1_partsBy : GoodIn wsX5_linksAlone wsX1_partsBy := goodIn_r _ [9, 10, 11, 12, 13, 14, 15, 16, 8, 17, 18, 19, 20, 21, 22, 23, 47, 48, 49, 50, 51, 52, 53, 54, 55, 56, 57, 58] (by decide +kernel) (by decide +kernel)
set_option maxRecDepth 20000 in
theorem gX5_linksAlone_X1_partsBy : GoodIn wsX5_linksAlone (wsV RX5 222 RX1 yX1_partsBy wsX1_partsBy) := goodIn_app (goodIn_of _ (by decide +kernel)) ggX5_linksAlone_X1_partsBy
set_option maxRecDepth 20000 in
theorem ggX5_linksAlone_X5_has : GoodIn wsX5_linksAlone wsX5_has := goodIn_r _ [13] (by decide +kernel) (by decide +kernel)
set_option maxRecDepth 20000 in
theorem gX5_linksAlone_X5_has : GoodIn wsX5_linksAlone (va_wsS RX5 151 yX5_has wsX5_has) := goodIn_app (goodIn_of _ (by decide +kernel)) ggX5_linksAlone_X5_has
set_option maxRecDepth 20000 in
theorem ggX5_linksAlone_X5_doneUpWithout : GoodIn wsX5_linksAlone wsX5_doneUpWithout := goodIn_r _ [28, 2, 3, 29, 30, 31, 32, 33, 34, 35, 36, 37, 38, 39, 40, 41, 42, 43, 44, 45, 46] (by decide +kernel) (by decide +kernel)
set_option maxRecDepth 20000 in
theorem gX5_linksAlone_X5_doneUpWithout : GoodIn wsX5_linksAlone (wsV RX5 274 RX5 yX5_doneUpWithout wsX5_doneUpWithout) := goodIn_app (goodIn_of _ (by decide +kernel)) ggX5_linksAlone_X5_doneUpWithout
theorem dX5_linksAlone_0 : decode cX5_linksAlone 0 = .ok (.aload_n 0, 1) := by decide +kernel
theorem dX5_linksAlone_1 : decode cX5_linksAlone 1 = .ok (.getfield 19, 3) := by decide +kernel
theorem dX5_linksAlone_4 : decode cX5_linksAlone 4 = .ok (.aload_n 0, 1) := by decide +kernel
theorem dX5_linksAlone_5 : decode cX5_linksAlone 5 = .ok (.getfield 29, 3) := by decide +kernel
theorem dX5_linksAlone_8 : decode cX5_linksAlone 8 = .ok (.getfield 110, 3) := by decide +kernel
theorem dX5_linksAlone_11 : decode cX5_linksAlone 11 = .ok (.invokevirtual 222, 3) := by decide +kernel
theorem dX5_linksAlone_14 : decode cX5_linksAlone 14 = .ok (.istore_n 1, 1) := by decide +kernel
theorem dX5_linksAlone_15 : decode cX5_linksAlone 15 = .ok (.iconst 0, 1) := by decide +kernel
theorem dX5_linksAlone_16 : decode cX5_linksAlone 16 = .ok (.istore_n 2, 1) := by decide +kernel
theorem dX5_linksAlone_17 : decode cX5_linksAlone 17 = .ok (.iconst 0, 1) := by decide +kernel
theorem dX5_linksAlone_18 : decode cX5_linksAlone 18 = .ok (.istore_n 3, 1) := by decide +kernel
theorem dX5_linksAlone_19 : decode cX5_linksAlone 19 = .ok (.iload_n 3, 1) := by decide +kernel
theorem dX5_linksAlone_20 : decode cX5_linksAlone 20 = .ok (.aload_n 0, 1) := by decide +kernel
theorem dX5_linksAlone_21 : decode cX5_linksAlone 21 = .ok (.getfield 19, 3) := by decide +kernel
theorem dX5_linksAlone_24 : decode cX5_linksAlone 24 = .ok (.getfield 89, 3) := by decide +kernel
theorem dX5_linksAlone_27 : decode cX5_linksAlone 27 = .ok (.if_icmp .ge 45, 3) := by decide +kernel
theorem dX5_linksAlone_30 : decode cX5_linksAlone 30 = .ok (.aload_n 0, 1) := by decide +kernel
theorem dX5_linksAlone_31 : decode cX5_linksAlone 31 = .ok (.getfield 29, 3) := by decide +kernel
theorem dX5_linksAlone_34 : decode cX5_linksAlone 34 = .ok (.getfield 110, 3) := by decide +kernel
theorem dX5_linksAlone_37 : decode cX5_linksAlone 37 = .ok (.iload_n 3, 1) := by decide +kernel
theorem dX5_linksAlone_38 : decode cX5_linksAlone 38 = .ok (.invokestatic 151, 3) := by decide +kernel
theorem dX5_linksAlone_41 : decode cX5_linksAlone 41 = .ok (.ifCond .eq 25, 3) := by decide +kernel
theorem dX5_linksAlone_44 : decode cX5_linksAlone 44 = .ok (.aload_n 0, 1) := by decide +kernel
theorem dX5_linksAlone_45 : decode cX5_linksAlone 45 = .ok (.getfield 19, 3) := by decide +kernel
theorem dX5_linksAlone_48 : decode cX5_linksAlone 48 = .ok (.aload_n 0, 1) := by decide +kernel
theorem dX5_linksAlone_49 : decode cX5_linksAlone 49 = .ok (.iload_n 3, 1) := by decide +kernel
theorem dX5_linksAlone_50 : decode cX5_linksAlone 50 = .ok (.invokevirtual 274, 3) := by decide +kernel
theorem dX5_linksAlone_53 : decode cX5_linksAlone 53 = .ok (.invokevirtual 222, 3) := by decide +kernel
theorem dX5_linksAlone_56 : decode cX5_linksAlone 56 = .ok (.iload_n 1, 1) := by decide +kernel
theorem dX5_linksAlone_57 : decode cX5_linksAlone 57 = .ok (.if_icmp .le 9, 3) := by decide +kernel
theorem dX5_linksAlone_60 : decode cX5_linksAlone 60 = .ok (.iload_n 2, 1) := by decide +kernel
theorem dX5_linksAlone_61 : decode cX5_linksAlone 61 = .ok (.iconst 1, 1) := by decide +kernel
theorem dX5_linksAlone_62 : decode cX5_linksAlone 62 = .ok (.iload_n 3, 1) := by decide +kernel
theorem dX5_linksAlone_63 : decode cX5_linksAlone 63 = .ok (.ishl, 1) := by decide +kernel
theorem dX5_linksAlone_64 : decode cX5_linksAlone 64 = .ok (.ior, 1) := by decide +kernel
theorem dX5_linksAlone_65 : decode cX5_linksAlone 65 = .ok (.istore_n 2, 1) := by decide +kernel
theorem dX5_linksAlone_66 : decode cX5_linksAlone 66 = .ok (.iinc 3 1, 3) := by decide +kernel
theorem dX5_linksAlone_69 : decode cX5_linksAlone 69 = .ok (.goto (-50), 3) := by decide +kernel
theorem dX5_linksAlone_72 : decode cX5_linksAlone 72 = .ok (.iload_n 2, 1) := by decide +kernel
theorem dX5_linksAlone_73 : decode cX5_linksAlone 73 = .ok (.ireturn, 1) := by decide +kernel
theorem dX5_doneUpWithout_0 : decode cX5_doneUpWithout 0 = .ok (.aload_n 0, 1) := by decide +kernel
theorem dX5_doneUpWithout_1 : decode cX5_doneUpWithout 1 = .ok (.getfield 29, 3) := by decide +kernel
theorem dX5_doneUpWithout_4 : decode cX5_doneUpWithout 4 = .ok (.getfield 110, 3) := by decide +kernel
theorem dX5_doneUpWithout_7 : decode cX5_doneUpWithout 7 = .ok (.iconst 1, 1) := by decide +kernel
theorem dX5_doneUpWithout_8 : decode cX5_doneUpWithout 8 = .ok (.iload_n 1, 1) := by decide +kernel
theorem dX5_doneUpWithout_9 : decode cX5_doneUpWithout 9 = .ok (.ishl, 1) := by decide +kernel
theorem dX5_doneUpWithout_10 : decode cX5_doneUpWithout 10 = .ok (.iconst (-1), 1) := by decide +kernel
theorem dX5_doneUpWithout_11 : decode cX5_doneUpWithout 11 = .ok (.ixor, 1) := by decide +kernel
theorem dX5_doneUpWithout_12 : decode cX5_doneUpWithout 12 = .ok (.iand, 1) := by decide +kernel
theorem dX5_doneUpWithout_13 : decode cX5_doneUpWithout 13 = .ok (.ireturn, 1) := by decide +kernel
set_option maxRecDepth 20000 in
theorem ggX5_fewestToPart_X5_isChoice : GoodIn wsX5_fewestToPart wsX5_isChoice := goodIn_r _ [8, 1, 2, 9, 10, 11, 12, 13, 14, 15, 34, 35, 36, 37, 38, 39, 40, 41, 42, 43, 44, 45, 46, 47, 48, 49, 50, 51] (by decide +kernel) (by decide +kernel)
set_option maxRecDepth 20000 in
theorem gX5_fewestToPart_X5_isChoice : GoodIn wsX5_fewestToPart (wsV RX5 319 RX5 yX5_isChoice wsX5_isChoice) := goodIn_app (goodIn_of _ (by decide +kernel)) ggX5_fewestToPart_X5_isChoice
set_option maxRecDepth 20000 in
theorem ggX5_fewestToPart_X1_hang : GoodIn wsX5_fewestToPart wsX1_hang := goodIn_r _ [20, 21, 22, 23, 19, 24, 25, 26, 27, 28, 29, 30, 31, 32, 7, 33, 52, 53, 54, 55, 56, 57, 58, 59, 60, 61, 62, 63] (by decide +kernel) (by decide +kernel)
set_option maxRecDepth 20000 in
theorem gX5_fewestToPart_X1_hang : GoodIn wsX5_fewestToPart (wsV RX5 248 RX1 yX1_hang wsX1_hang) := goodIn_app (goodIn_of _ (by decide +kernel)) ggX5_fewestToPart_X1_hang
theorem dX5_fewestToPart_0 : decode cX5_fewestToPart 0 = .ok (.iconst 0, 1) := by decide +kernel
theorem dX5_fewestToPart_1 : decode cX5_fewestToPart 1 = .ok (.istore_n 3, 1) := by decide +kernel
theorem dX5_fewestToPart_2 : decode cX5_fewestToPart 2 = .ok (.iload_n 3, 1) := by decide +kernel
theorem dX5_fewestToPart_3 : decode cX5_fewestToPart 3 = .ok (.bipush 10, 2) := by decide +kernel
theorem dX5_fewestToPart_5 : decode cX5_fewestToPart 5 = .ok (.if_icmp .gt 67, 3) := by decide +kernel
theorem dX5_fewestToPart_8 : decode cX5_fewestToPart 8 = .ok (.iconst 0, 1) := by decide +kernel
theorem dX5_fewestToPart_9 : decode cX5_fewestToPart 9 = .ok (.istore 4, 2) := by decide +kernel
theorem dX5_fewestToPart_11 : decode cX5_fewestToPart 11 = .ok (.iload 4, 2) := by decide +kernel
theorem dX5_fewestToPart_13 : decode cX5_fewestToPart 13 = .ok (.aload_n 0, 1) := by decide +kernel
theorem dX5_fewestToPart_14 : decode cX5_fewestToPart 14 = .ok (.getfield 29, 3) := by decide +kernel
theorem dX5_fewestToPart_17 : decode cX5_fewestToPart 17 = .ok (.getfield 110, 3) := by decide +kernel
theorem dX5_fewestToPart_20 : decode cX5_fewestToPart 20 = .ok (.if_icmp .gt 46, 3) := by decide +kernel
theorem dX5_fewestToPart_23 : decode cX5_fewestToPart 23 = .ok (.aload_n 0, 1) := by decide +kernel
theorem dX5_fewestToPart_24 : decode cX5_fewestToPart 24 = .ok (.iload 4, 2) := by decide +kernel
theorem dX5_fewestToPart_26 : decode cX5_fewestToPart 26 = .ok (.iload_n 3, 1) := by decide +kernel
theorem dX5_fewestToPart_27 : decode cX5_fewestToPart 27 = .ok (.invokevirtual 319, 3) := by decide +kernel
theorem dX5_fewestToPart_30 : decode cX5_fewestToPart 30 = .ok (.ifCond .eq 30, 3) := by decide +kernel
theorem dX5_fewestToPart_33 : decode cX5_fewestToPart 33 = .ok (.aload_n 0, 1) := by decide +kernel
theorem dX5_fewestToPart_34 : decode cX5_fewestToPart 34 = .ok (.getfield 19, 3) := by decide +kernel
theorem dX5_fewestToPart_37 : decode cX5_fewestToPart 37 = .ok (.iload_n 1, 1) := by decide +kernel
theorem dX5_fewestToPart_38 : decode cX5_fewestToPart 38 = .ok (.iload_n 2, 1) := by decide +kernel
theorem dX5_fewestToPart_39 : decode cX5_fewestToPart 39 = .ok (.aload_n 0, 1) := by decide +kernel
theorem dX5_fewestToPart_40 : decode cX5_fewestToPart 40 = .ok (.getfield 29, 3) := by decide +kernel
theorem dX5_fewestToPart_43 : decode cX5_fewestToPart 43 = .ok (.getfield 110, 3) := by decide +kernel
theorem dX5_fewestToPart_46 : decode cX5_fewestToPart 46 = .ok (.iload 4, 2) := by decide +kernel
theorem dX5_fewestToPart_48 : decode cX5_fewestToPart 48 = .ok (.iconst (-1), 1) := by decide +kernel
theorem dX5_fewestToPart_49 : decode cX5_fewestToPart 49 = .ok (.ixor, 1) := by decide +kernel
theorem dX5_fewestToPart_50 : decode cX5_fewestToPart 50 = .ok (.iand, 1) := by decide +kernel
theorem dX5_fewestToPart_51 : decode cX5_fewestToPart 51 = .ok (.invokevirtual 248, 3) := by decide +kernel
theorem dX5_fewestToPart_54 : decode cX5_fewestToPart 54 = .ok (.ifCond .ne 6, 3) := by decide +kernel
theorem dX5_fewestToPart_57 : decode cX5_fewestToPart 57 = .ok (.iload 4, 2) := by decide +kernel
theorem dX5_fewestToPart_59 : decode cX5_fewestToPart 59 = .ok (.ireturn, 1) := by decide +kernel
theorem dX5_fewestToPart_60 : decode cX5_fewestToPart 60 = .ok (.iinc 4 1, 3) := by decide +kernel
theorem dX5_fewestToPart_63 : decode cX5_fewestToPart 63 = .ok (.goto (-52), 3) := by decide +kernel
theorem dX5_fewestToPart_66 : decode cX5_fewestToPart 66 = .ok (.iinc 3 1, 3) := by decide +kernel
theorem dX5_fewestToPart_69 : decode cX5_fewestToPart 69 = .ok (.goto (-67), 3) := by decide +kernel
theorem dX5_fewestToPart_72 : decode cX5_fewestToPart 72 = .ok (.aload_n 0, 1) := by decide +kernel
theorem dX5_fewestToPart_73 : decode cX5_fewestToPart 73 = .ok (.getfield 29, 3) := by decide +kernel
theorem dX5_fewestToPart_76 : decode cX5_fewestToPart 76 = .ok (.getfield 110, 3) := by decide +kernel
theorem dX5_fewestToPart_79 : decode cX5_fewestToPart 79 = .ok (.ireturn, 1) := by decide +kernel
set_option maxRecDepth 20000 in
theorem ggX5_isChoice_J6_bitCount_0f7a4 : GoodIn wsX5_isChoice wsJ6_bitCount_0f7a4 := goodIn_r _ [6, 7, 8, 9] (by decide +kernel) (by decide +kernel)
set_option maxRecDepth 20000 in
theorem gX5_isChoice_J6_bitCount_0f7a4 : GoodIn wsX5_isChoice (va_wsS RX5 192 yJ6_bitCount_0f7a4 wsJ6_bitCount_0f7a4) := goodIn_app (goodIn_of _ (by decide +kernel)) ggX5_isChoice_J6_bitCount_0f7a4
theorem dX5_isChoice_0 : decode cX5_isChoice 0 = .ok (.iload_n 1, 1) := by decide +kernel
theorem dX5_isChoice_1 : decode cX5_isChoice 1 = .ok (.aload_n 0, 1) := by decide +kernel
theorem dX5_isChoice_2 : decode cX5_isChoice 2 = .ok (.getfield 29, 3) := by decide +kernel
theorem dX5_isChoice_5 : decode cX5_isChoice 5 = .ok (.getfield 110, 3) := by decide +kernel
theorem dX5_isChoice_8 : decode cX5_isChoice 8 = .ok (.iconst (-1), 1) := by decide +kernel
theorem dX5_isChoice_9 : decode cX5_isChoice 9 = .ok (.ixor, 1) := by decide +kernel
theorem dX5_isChoice_10 : decode cX5_isChoice 10 = .ok (.iand, 1) := by decide +kernel
theorem dX5_isChoice_11 : decode cX5_isChoice 11 = .ok (.ifCond .ne 15, 3) := by decide +kernel
theorem dX5_isChoice_14 : decode cX5_isChoice 14 = .ok (.iload_n 1, 1) := by decide +kernel
theorem dX5_isChoice_15 : decode cX5_isChoice 15 = .ok (.invokestatic 192, 3) := by decide +kernel
theorem dX5_isChoice_18 : decode cX5_isChoice 18 = .ok (.iload_n 2, 1) := by decide +kernel
theorem dX5_isChoice_19 : decode cX5_isChoice 19 = .ok (.if_icmp .ne 7, 3) := by decide +kernel
theorem dX5_isChoice_22 : decode cX5_isChoice 22 = .ok (.iconst 1, 1) := by decide +kernel
theorem dX5_isChoice_23 : decode cX5_isChoice 23 = .ok (.goto 4, 3) := by decide +kernel
theorem dX5_isChoice_26 : decode cX5_isChoice 26 = .ok (.iconst 0, 1) := by decide +kernel
theorem dX5_isChoice_27 : decode cX5_isChoice 27 = .ok (.ireturn, 1) := by decide +kernel
set_option maxRecDepth 20000 in
theorem ggX5_firstOfWay_X5_has : GoodIn wsX5_firstOfWay wsX5_has := goodIn_r _ [11] (by decide +kernel) (by decide +kernel)
set_option maxRecDepth 20000 in
theorem gX5_firstOfWay_X5_has : GoodIn wsX5_firstOfWay (va_wsS RX5 151 yX5_has wsX5_has) := goodIn_app (goodIn_of _ (by decide +kernel)) ggX5_firstOfWay_X5_has
set_option maxRecDepth 20000 in
theorem ggX5_firstOfWay_X1_steps : GoodIn wsX5_firstOfWay wsX1_steps := goodIn_r _ [16, 17, 9, 10, 11, 18, 19, 20, 15, 21, 22, 23, 35, 36, 37, 38, 39, 40, 41, 42, 43, 44, 45, 46] (by decide +kernel) (by decide +kernel)
set_option maxRecDepth 20000 in
theorem gX5_firstOfWay_X1_steps : GoodIn wsX5_firstOfWay (wsV RX5 234 RX1 yX1_steps wsX1_steps) := goodIn_app (goodIn_of _ (by decide +kernel)) ggX5_firstOfWay_X1_steps
theorem dX5_firstOfWay_0 : decode cX5_firstOfWay 0 = .ok (.iconst 0, 1) := by decide +kernel
theorem dX5_firstOfWay_1 : decode cX5_firstOfWay 1 = .ok (.istore 4, 2) := by decide +kernel
theorem dX5_firstOfWay_3 : decode cX5_firstOfWay 3 = .ok (.iload 4, 2) := by decide +kernel
theorem dX5_firstOfWay_5 : decode cX5_firstOfWay 5 = .ok (.aload_n 0, 1) := by decide +kernel
theorem dX5_firstOfWay_6 : decode cX5_firstOfWay 6 = .ok (.getfield 19, 3) := by decide +kernel
theorem dX5_firstOfWay_9 : decode cX5_firstOfWay 9 = .ok (.getfield 89, 3) := by decide +kernel
theorem dX5_firstOfWay_12 : decode cX5_firstOfWay 12 = .ok (.if_icmp .ge 106, 3) := by decide +kernel
theorem dX5_firstOfWay_15 : decode cX5_firstOfWay 15 = .ok (.aload_n 0, 1) := by decide +kernel
theorem dX5_firstOfWay_16 : decode cX5_firstOfWay 16 = .ok (.getfield 29, 3) := by decide +kernel
theorem dX5_firstOfWay_19 : decode cX5_firstOfWay 19 = .ok (.getfield 110, 3) := by decide +kernel
theorem dX5_firstOfWay_22 : decode cX5_firstOfWay 22 = .ok (.iload 4, 2) := by decide +kernel
theorem dX5_firstOfWay_24 : decode cX5_firstOfWay 24 = .ok (.invokestatic 151, 3) := by decide +kernel
theorem dX5_firstOfWay_27 : decode cX5_firstOfWay 27 = .ok (.ifCond .eq 85, 3) := by decide +kernel
theorem dX5_firstOfWay_30 : decode cX5_firstOfWay 30 = .ok (.aload_n 0, 1) := by decide +kernel
theorem dX5_firstOfWay_31 : decode cX5_firstOfWay 31 = .ok (.getfield 19, 3) := by decide +kernel
theorem dX5_firstOfWay_34 : decode cX5_firstOfWay 34 = .ok (.getfield 167, 3) := by decide +kernel
theorem dX5_firstOfWay_37 : decode cX5_firstOfWay 37 = .ok (.iload 4, 2) := by decide +kernel
theorem dX5_firstOfWay_39 : decode cX5_firstOfWay 39 = .ok (.iaload, 1) := by decide +kernel
theorem dX5_firstOfWay_40 : decode cX5_firstOfWay 40 = .ok (.iload_n 1, 1) := by decide +kernel
theorem dX5_firstOfWay_41 : decode cX5_firstOfWay 41 = .ok (.invokestatic 151, 3) := by decide +kernel
theorem dX5_firstOfWay_44 : decode cX5_firstOfWay 44 = .ok (.ifCond .eq 68, 3) := by decide +kernel
theorem dX5_firstOfWay_47 : decode cX5_firstOfWay 47 = .ok (.iload_n 1, 1) := by decide +kernel
theorem dX5_firstOfWay_48 : decode cX5_firstOfWay 48 = .ok (.aload_n 0, 1) := by decide +kernel
theorem dX5_firstOfWay_49 : decode cX5_firstOfWay 49 = .ok (.getfield 19, 3) := by decide +kernel
theorem dX5_firstOfWay_52 : decode cX5_firstOfWay 52 = .ok (.getfield 136, 3) := by decide +kernel
theorem dX5_firstOfWay_55 : decode cX5_firstOfWay 55 = .ok (.iload 4, 2) := by decide +kernel
theorem dX5_firstOfWay_57 : decode cX5_firstOfWay 57 = .ok (.iaload, 1) := by decide +kernel
theorem dX5_firstOfWay_58 : decode cX5_firstOfWay 58 = .ok (.if_icmp .ne 16, 3) := by decide +kernel
theorem dX5_firstOfWay_61 : decode cX5_firstOfWay 61 = .ok (.aload_n 0, 1) := by decide +kernel
theorem dX5_firstOfWay_62 : decode cX5_firstOfWay 62 = .ok (.getfield 19, 3) := by decide +kernel
theorem dX5_firstOfWay_65 : decode cX5_firstOfWay 65 = .ok (.getfield 139, 3) := by decide +kernel
theorem dX5_firstOfWay_68 : decode cX5_firstOfWay 68 = .ok (.iload 4, 2) := by decide +kernel
theorem dX5_firstOfWay_70 : decode cX5_firstOfWay 70 = .ok (.iaload, 1) := by decide +kernel
theorem dX5_firstOfWay_71 : decode cX5_firstOfWay 71 = .ok (.goto 13, 3) := by decide +kernel
theorem dX5_firstOfWay_74 : decode cX5_firstOfWay 74 = .ok (.aload_n 0, 1) := by decide +kernel
theorem dX5_firstOfWay_75 : decode cX5_firstOfWay 75 = .ok (.getfield 19, 3) := by decide +kernel
theorem dX5_firstOfWay_78 : decode cX5_firstOfWay 78 = .ok (.getfield 136, 3) := by decide +kernel
theorem dX5_firstOfWay_81 : decode cX5_firstOfWay 81 = .ok (.iload 4, 2) := by decide +kernel
theorem dX5_firstOfWay_83 : decode cX5_firstOfWay 83 = .ok (.iaload, 1) := by decide +kernel
theorem dX5_firstOfWay_84 : decode cX5_firstOfWay 84 = .ok (.istore 5, 2) := by decide +kernel
theorem dX5_firstOfWay_86 : decode cX5_firstOfWay 86 = .ok (.aload_n 0, 1) := by decide +kernel
theorem dX5_firstOfWay_87 : decode cX5_firstOfWay 87 = .ok (.getfield 19, 3) := by decide +kernel
theorem dX5_firstOfWay_90 : decode cX5_firstOfWay 90 = .ok (.iload 5, 2) := by decide +kernel
theorem dX5_firstOfWay_92 : decode cX5_firstOfWay 92 = .ok (.iload_n 2, 1) := by decide +kernel
theorem dX5_firstOfWay_93 : decode cX5_firstOfWay 93 = .ok (.aload_n 0, 1) := by decide +kernel
theorem dX5_firstOfWay_94 : decode cX5_firstOfWay 94 = .ok (.getfield 29, 3) := by decide +kernel
theorem dX5_firstOfWay_97 : decode cX5_firstOfWay 97 = .ok (.getfield 110, 3) := by decide +kernel
theorem dX5_firstOfWay_100 : decode cX5_firstOfWay 100 = .ok (.invokevirtual 234, 3) := by decide +kernel
theorem dX5_firstOfWay_103 : decode cX5_firstOfWay 103 = .ok (.iload_n 3, 1) := by decide +kernel
theorem dX5_firstOfWay_104 : decode cX5_firstOfWay 104 = .ok (.iconst 1, 1) := by decide +kernel
theorem dX5_firstOfWay_105 : decode cX5_firstOfWay 105 = .ok (.isub, 1) := by decide +kernel
theorem dX5_firstOfWay_106 : decode cX5_firstOfWay 106 = .ok (.if_icmp .ne 6, 3) := by decide +kernel
theorem dX5_firstOfWay_109 : decode cX5_firstOfWay 109 = .ok (.iload 4, 2) := by decide +kernel
theorem dX5_firstOfWay_111 : decode cX5_firstOfWay 111 = .ok (.ireturn, 1) := by decide +kernel
theorem dX5_firstOfWay_112 : decode cX5_firstOfWay 112 = .ok (.iinc 4 1, 3) := by decide +kernel
theorem dX5_firstOfWay_115 : decode cX5_firstOfWay 115 = .ok (.goto (-112), 3) := by decide +kernel
theorem dX5_firstOfWay_118 : decode cX5_firstOfWay 118 = .ok (.iconst (-1), 1) := by decide +kernel
theorem dX5_firstOfWay_119 : decode cX5_firstOfWay 119 = .ok (.ireturn, 1) := by decide +kernel
set_option maxRecDepth 20000 in
theorem ggX5_linksWithSpare_X5_has : GoodIn wsX5_linksWithSpare wsX5_has := goodIn_r _ [8] (by decide +kernel) (by decide +kernel)
set_option maxRecDepth 20000 in
theorem gX5_linksWithSpare_X5_has : GoodIn wsX5_linksWithSpare (va_wsS RX5 151 yX5_has wsX5_has) := goodIn_app (goodIn_of _ (by decide +kernel)) ggX5_linksWithSpare_X5_has
set_option maxRecDepth 20000 in
theorem ggX5_linksWithSpare_X0_spare : GoodIn wsX5_linksWithSpare wsX0_spare := goodIn_r _ [13, 14, 15, 27, 28, 29, 30, 31, 32, 33, 34, 35, 36, 37, 38, 39, 40, 41, 42, 43, 44, 45] (by decide +kernel) (by decide +kernel)
set_option maxRecDepth 20000 in
theorem gX5_linksWithSpare_X0_spare : GoodIn wsX5_linksWithSpare (wsV RX5 241 RX0 yX0_spare wsX0_spare) := goodIn_app (goodIn_of _ (by decide +kernel)) ggX5_linksWithSpare_X0_spare
theorem dX5_linksWithSpare_0 : decode cX5_linksWithSpare 0 = .ok (.iconst 0, 1) := by decide +kernel
theorem dX5_linksWithSpare_1 : decode cX5_linksWithSpare 1 = .ok (.istore_n 2, 1) := by decide +kernel
theorem dX5_linksWithSpare_2 : decode cX5_linksWithSpare 2 = .ok (.iconst 0, 1) := by decide +kernel
theorem dX5_linksWithSpare_3 : decode cX5_linksWithSpare 3 = .ok (.istore_n 3, 1) := by decide +kernel
theorem dX5_linksWithSpare_4 : decode cX5_linksWithSpare 4 = .ok (.iload_n 3, 1) := by decide +kernel
theorem dX5_linksWithSpare_5 : decode cX5_linksWithSpare 5 = .ok (.aload_n 0, 1) := by decide +kernel
theorem dX5_linksWithSpare_6 : decode cX5_linksWithSpare 6 = .ok (.getfield 19, 3) := by decide +kernel
theorem dX5_linksWithSpare_9 : decode cX5_linksWithSpare 9 = .ok (.getfield 89, 3) := by decide +kernel
theorem dX5_linksWithSpare_12 : decode cX5_linksWithSpare 12 = .ok (.if_icmp .ge 45, 3) := by decide +kernel
theorem dX5_linksWithSpare_15 : decode cX5_linksWithSpare 15 = .ok (.aload_n 0, 1) := by decide +kernel
theorem dX5_linksWithSpare_16 : decode cX5_linksWithSpare 16 = .ok (.getfield 29, 3) := by decide +kernel
theorem dX5_linksWithSpare_19 : decode cX5_linksWithSpare 19 = .ok (.getfield 110, 3) := by decide +kernel
theorem dX5_linksWithSpare_22 : decode cX5_linksWithSpare 22 = .ok (.iload_n 3, 1) := by decide +kernel
theorem dX5_linksWithSpare_23 : decode cX5_linksWithSpare 23 = .ok (.invokestatic 151, 3) := by decide +kernel
theorem dX5_linksWithSpare_26 : decode cX5_linksWithSpare 26 = .ok (.ifCond .eq 25, 3) := by decide +kernel
theorem dX5_linksWithSpare_29 : decode cX5_linksWithSpare 29 = .ok (.aload_n 0, 1) := by decide +kernel
theorem dX5_linksWithSpare_30 : decode cX5_linksWithSpare 30 = .ok (.getfield 29, 3) := by decide +kernel
theorem dX5_linksWithSpare_33 : decode cX5_linksWithSpare 33 = .ok (.aload_n 0, 1) := by decide +kernel
theorem dX5_linksWithSpare_34 : decode cX5_linksWithSpare 34 = .ok (.getfield 19, 3) := by decide +kernel
theorem dX5_linksWithSpare_37 : decode cX5_linksWithSpare 37 = .ok (.iload_n 3, 1) := by decide +kernel
theorem dX5_linksWithSpare_38 : decode cX5_linksWithSpare 38 = .ok (.invokevirtual 241, 3) := by decide +kernel
theorem dX5_linksWithSpare_41 : decode cX5_linksWithSpare 41 = .ok (.iload_n 1, 1) := by decide +kernel
theorem dX5_linksWithSpare_42 : decode cX5_linksWithSpare 42 = .ok (.if_icmp .lt 9, 3) := by decide +kernel
theorem dX5_linksWithSpare_45 : decode cX5_linksWithSpare 45 = .ok (.iload_n 2, 1) := by decide +kernel
theorem dX5_linksWithSpare_46 : decode cX5_linksWithSpare 46 = .ok (.iconst 1, 1) := by decide +kernel
theorem dX5_linksWithSpare_47 : decode cX5_linksWithSpare 47 = .ok (.iload_n 3, 1) := by decide +kernel
theorem dX5_linksWithSpare_48 : decode cX5_linksWithSpare 48 = .ok (.ishl, 1) := by decide +kernel
theorem dX5_linksWithSpare_49 : decode cX5_linksWithSpare 49 = .ok (.ior, 1) := by decide +kernel
theorem dX5_linksWithSpare_50 : decode cX5_linksWithSpare 50 = .ok (.istore_n 2, 1) := by decide +kernel
theorem dX5_linksWithSpare_51 : decode cX5_linksWithSpare 51 = .ok (.iinc 3 1, 3) := by decide +kernel
theorem dX5_linksWithSpare_54 : decode cX5_linksWithSpare 54 = .ok (.goto (-50), 3) := by decide +kernel
theorem dX5_linksWithSpare_57 : decode cX5_linksWithSpare 57 = .ok (.iload_n 2, 1) := by decide +kernel
theorem dX5_linksWithSpare_58 : decode cX5_linksWithSpare 58 = .ok (.ireturn, 1) := by decide +kernel
set_option maxRecDepth 20000 in
theorem ggX5_fewestToMend_X1_partsBy : GoodIn wsX5_fewestToMend wsX1_partsBy := goodIn_r _ [8, 9, 10, 11, 12, 13, 14, 15, 7, 16, 17, 18, 19, 20, 21, 22, 110, 111, 112, 113, 114, 115, 116, 117, 118, 119, 120, 121] (by decide +kernel) (by decide +kernel)
set_option maxRecDepth 20000 in
theorem gX5_fewestToMend_X1_partsBy : GoodIn wsX5_fewestToMend (wsV RX5 222 RX1 yX1_partsBy wsX1_partsBy) := goodIn_app (goodIn_of _ (by decide +kernel)) ggX5_fewestToMend_X1_partsBy
set_option maxRecDepth 20000 in
theorem ggX5_fewestToMend_X5_doneUpBehind : GoodIn wsX5_fewestToMend wsX5_doneUpBehind := goodIn_r _ [26, 27, 2, 28, 29, 30, 31, 32, 33, 34, 35, 36, 37, 38, 39, 40, 41, 42, 43, 44, 45, 46, 11, 47, 1, 3, 48, 49, 50, 51, 52, 53, 54, 55, 56, 57, 58, 59, 60, 7, 61, 62, 63, 10, 12, 64, 65, 66, 67, 68, 69, 70, 71, 72, 73, 74, 75, 76, 77, 78, 79, 80, 81, 92, 93, 94, 95, 96, 97, 98, 99, 100, 101, 102, 103, 104, 105, 106, 107, 108, 109, 110, 111, 112, 113, 114, 115, 116, 117, 118, 119, 120, 121] (by decide +kernel) (by decide +kernel)
set_option maxRecDepth 20000 in
theorem gX5_fewestToMend_X5_doneUpBehind : GoodIn wsX5_fewestToMend (wsV RX5 216 RX5 yX5_doneUpBehind wsX5_doneUpBehind) := goodIn_app (goodIn_of _ (by decide +kernel)) ggX5_fewestToMend_X5_doneUpBehind
set_option maxRecDepth 20000 in
theorem ggX5_fewestToMend_X5_doneUpBehindIfMended : GoodIn wsX5_fewestToMend wsX5_doneUpBehindIfMended := goodIn_r _ [85, 27, 2, 86, 28, 29, 30, 31, 32, 33, 34, 35, 36, 37, 38, 39, 40, 41, 42, 43, 44, 45, 46, 11, 47, 1, 3, 48, 49, 50, 51, 52, 53, 54, 55, 56, 57, 58, 59, 60, 7, 61, 62, 63, 10, 12, 64, 65, 66, 67, 68, 69, 70, 71, 72, 73, 74, 75, 76, 77, 78, 79, 80, 81, 92, 93, 94, 95, 96, 97, 98, 99, 100, 101, 102, 103, 104, 105, 106, 107, 108, 109, 110, 111, 112, 113, 114, 115, 116, 117, 118, 119, 120, 121] (by decide +kernel) (by decide +kernel)
set_option maxRecDepth 20000 in
theorem gX5_fewestToMend_X5_doneUpBehindIfMended : GoodIn wsX5_fewestToMend (wsV RX5 322 RX5 yX5_doneUpBehindIfMended wsX5_doneUpBehindIfMended) := goodIn_app (goodIn_of _ (by decide +kernel)) ggX5_fewestToMend_X5_doneUpBehindIfMended
set_option maxRecDepth 20000 in
theorem ggX5_fewestToMend_X5_isChoice : GoodIn wsX5_fewestToMend wsX5_isChoice := goodIn_r _ [90, 2, 3, 91, 76, 77, 78, 79, 80, 81, 92, 93, 94, 95, 96, 97, 98, 99, 100, 101, 102, 103, 104, 105, 106, 107, 108, 109] (by decide +kernel) (by decide +kernel)
set_option maxRecDepth 20000 in
theorem gX5_fewestToMend_X5_isChoice : GoodIn wsX5_fewestToMend (wsV RX5 319 RX5 yX5_isChoice wsX5_isChoice) := goodIn_app (goodIn_of _ (by decide +kernel)) ggX5_fewestToMend_X5_isChoice
theorem dX5_fewestToMend_0 : decode cX5_fewestToMend 0 = .ok (.aload_n 0, 1) := by decide +kernel
theorem dX5_fewestToMend_1 : decode cX5_fewestToMend 1 = .ok (.getfield 19, 3) := by decide +kernel
theorem dX5_fewestToMend_4 : decode cX5_fewestToMend 4 = .ok (.aload_n 0, 1) := by decide +kernel
theorem dX5_fewestToMend_5 : decode cX5_fewestToMend 5 = .ok (.getfield 29, 3) := by decide +kernel
theorem dX5_fewestToMend_8 : decode cX5_fewestToMend 8 = .ok (.getfield 110, 3) := by decide +kernel
theorem dX5_fewestToMend_11 : decode cX5_fewestToMend 11 = .ok (.invokevirtual 222, 3) := by decide +kernel
theorem dX5_fewestToMend_14 : decode cX5_fewestToMend 14 = .ok (.istore_n 2, 1) := by decide +kernel
theorem dX5_fewestToMend_15 : decode cX5_fewestToMend 15 = .ok (.aload_n 0, 1) := by decide +kernel
theorem dX5_fewestToMend_16 : decode cX5_fewestToMend 16 = .ok (.iload_n 1, 1) := by decide +kernel
theorem dX5_fewestToMend_17 : decode cX5_fewestToMend 17 = .ok (.invokevirtual 216, 3) := by decide +kernel
theorem dX5_fewestToMend_20 : decode cX5_fewestToMend 20 = .ok (.istore_n 3, 1) := by decide +kernel
theorem dX5_fewestToMend_21 : decode cX5_fewestToMend 21 = .ok (.aload_n 0, 1) := by decide +kernel
theorem dX5_fewestToMend_22 : decode cX5_fewestToMend 22 = .ok (.iload_n 1, 1) := by decide +kernel
theorem dX5_fewestToMend_23 : decode cX5_fewestToMend 23 = .ok (.invokevirtual 322, 3) := by decide +kernel
theorem dX5_fewestToMend_26 : decode cX5_fewestToMend 26 = .ok (.istore 4, 2) := by decide +kernel
theorem dX5_fewestToMend_28 : decode cX5_fewestToMend 28 = .ok (.iconst 0, 1) := by decide +kernel
theorem dX5_fewestToMend_29 : decode cX5_fewestToMend 29 = .ok (.istore 5, 2) := by decide +kernel
theorem dX5_fewestToMend_31 : decode cX5_fewestToMend 31 = .ok (.iload 5, 2) := by decide +kernel
theorem dX5_fewestToMend_33 : decode cX5_fewestToMend 33 = .ok (.bipush 10, 2) := by decide +kernel
theorem dX5_fewestToMend_35 : decode cX5_fewestToMend 35 = .ok (.if_icmp .gt 67, 3) := by decide +kernel
theorem dX5_fewestToMend_38 : decode cX5_fewestToMend 38 = .ok (.iconst 0, 1) := by decide +kernel
theorem dX5_fewestToMend_39 : decode cX5_fewestToMend 39 = .ok (.istore 6, 2) := by decide +kernel
theorem dX5_fewestToMend_41 : decode cX5_fewestToMend 41 = .ok (.iload 6, 2) := by decide +kernel
theorem dX5_fewestToMend_43 : decode cX5_fewestToMend 43 = .ok (.aload_n 0, 1) := by decide +kernel
theorem dX5_fewestToMend_44 : decode cX5_fewestToMend 44 = .ok (.getfield 29, 3) := by decide +kernel
theorem dX5_fewestToMend_47 : decode cX5_fewestToMend 47 = .ok (.getfield 110, 3) := by decide +kernel
theorem dX5_fewestToMend_50 : decode cX5_fewestToMend 50 = .ok (.if_icmp .gt 46, 3) := by decide +kernel
theorem dX5_fewestToMend_53 : decode cX5_fewestToMend 53 = .ok (.aload_n 0, 1) := by decide +kernel
theorem dX5_fewestToMend_54 : decode cX5_fewestToMend 54 = .ok (.iload 6, 2) := by decide +kernel
theorem dX5_fewestToMend_56 : decode cX5_fewestToMend 56 = .ok (.iload 5, 2) := by decide +kernel
theorem dX5_fewestToMend_58 : decode cX5_fewestToMend 58 = .ok (.invokevirtual 319, 3) := by decide +kernel
theorem dX5_fewestToMend_61 : decode cX5_fewestToMend 61 = .ok (.ifCond .eq 29, 3) := by decide +kernel
theorem dX5_fewestToMend_64 : decode cX5_fewestToMend 64 = .ok (.aload_n 0, 1) := by decide +kernel
theorem dX5_fewestToMend_65 : decode cX5_fewestToMend 65 = .ok (.getfield 19, 3) := by decide +kernel
theorem dX5_fewestToMend_68 : decode cX5_fewestToMend 68 = .ok (.iload_n 3, 1) := by decide +kernel
theorem dX5_fewestToMend_69 : decode cX5_fewestToMend 69 = .ok (.iload 6, 2) := by decide +kernel
theorem dX5_fewestToMend_71 : decode cX5_fewestToMend 71 = .ok (.iconst (-1), 1) := by decide +kernel
theorem dX5_fewestToMend_72 : decode cX5_fewestToMend 72 = .ok (.ixor, 1) := by decide +kernel
theorem dX5_fewestToMend_73 : decode cX5_fewestToMend 73 = .ok (.iand, 1) := by decide +kernel
theorem dX5_fewestToMend_74 : decode cX5_fewestToMend 74 = .ok (.iload 4, 2) := by decide +kernel
theorem dX5_fewestToMend_76 : decode cX5_fewestToMend 76 = .ok (.iload 6, 2) := by decide +kernel
theorem dX5_fewestToMend_78 : decode cX5_fewestToMend 78 = .ok (.iand, 1) := by decide +kernel
theorem dX5_fewestToMend_79 : decode cX5_fewestToMend 79 = .ok (.ior, 1) := by decide +kernel
theorem dX5_fewestToMend_80 : decode cX5_fewestToMend 80 = .ok (.invokevirtual 222, 3) := by decide +kernel
theorem dX5_fewestToMend_83 : decode cX5_fewestToMend 83 = .ok (.iload_n 2, 1) := by decide +kernel
theorem dX5_fewestToMend_84 : decode cX5_fewestToMend 84 = .ok (.if_icmp .gt 6, 3) := by decide +kernel
theorem dX5_fewestToMend_87 : decode cX5_fewestToMend 87 = .ok (.iload 6, 2) := by decide +kernel
theorem dX5_fewestToMend_89 : decode cX5_fewestToMend 89 = .ok (.ireturn, 1) := by decide +kernel
theorem dX5_fewestToMend_90 : decode cX5_fewestToMend 90 = .ok (.iinc 6 1, 3) := by decide +kernel
theorem dX5_fewestToMend_93 : decode cX5_fewestToMend 93 = .ok (.goto (-52), 3) := by decide +kernel
theorem dX5_fewestToMend_96 : decode cX5_fewestToMend 96 = .ok (.iinc 5 1, 3) := by decide +kernel
theorem dX5_fewestToMend_99 : decode cX5_fewestToMend 99 = .ok (.goto (-68), 3) := by decide +kernel
theorem dX5_fewestToMend_102 : decode cX5_fewestToMend 102 = .ok (.iconst (-1), 1) := by decide +kernel
theorem dX5_fewestToMend_103 : decode cX5_fewestToMend 103 = .ok (.ireturn, 1) := by decide +kernel
set_option maxRecDepth 20000 in
theorem ggX5_doneUpBehindIfMended_X0_become : GoodIn wsX5_doneUpBehindIfMended wsX0_become := goodIn_r _ [8, 9, 10, 11, 12, 13, 14, 15, 16, 17, 18, 19, 75, 76, 77, 78, 79, 80, 81] (by decide +kernel) (by decide +kernel)
set_option maxRecDepth 20000 in
theorem gX5_doneUpBehindIfMended_X0_become : GoodIn wsX5_doneUpBehindIfMended (wsV RX5 313 RX0 yX0_become wsX0_become) := goodIn_app (goodIn_of _ (by decide +kernel)) ggX5_doneUpBehindIfMended_X0_become
set_option maxRecDepth 20000 in
theorem ggX5_doneUpBehindIfMended_X5_tryHours : GoodIn wsX5_doneUpBehindIfMended wsX5_tryHours := goodIn_r _ [24, 1, 25, 26, 27, 28, 29, 7, 30, 17, 31, 14, 9, 32, 16, 33, 34, 35, 36, 19, 37, 38, 39, 40, 41, 42, 43, 44, 23, 45, 46, 47, 48, 49, 50, 51, 52, 53, 54, 55, 56, 57, 58, 59, 60, 61, 62, 63, 64, 65, 66, 67, 68, 69, 70, 71, 72, 73, 74, 75, 76, 77, 78, 79, 80, 81, 82, 83, 84, 85, 86, 87, 88, 89, 90, 91, 92, 93] (by decide +kernel) (by decide +kernel)
set_option maxRecDepth 20000 in
theorem gX5_doneUpBehindIfMended_X5_tryHours : GoodIn wsX5_doneUpBehindIfMended (wsV RX5 316 RX5 yX5_tryHours wsX5_tryHours) := goodIn_app (goodIn_of _ (by decide +kernel)) ggX5_doneUpBehindIfMended_X5_tryHours
theorem dX5_doneUpBehindIfMended_0 : decode cX5_doneUpBehindIfMended 0 = .ok (.aload_n 0, 1) := by decide +kernel
theorem dX5_doneUpBehindIfMended_1 : decode cX5_doneUpBehindIfMended 1 = .ok (.getfield 33, 3) := by decide +kernel
theorem dX5_doneUpBehindIfMended_4 : decode cX5_doneUpBehindIfMended 4 = .ok (.aload_n 0, 1) := by decide +kernel
theorem dX5_doneUpBehindIfMended_5 : decode cX5_doneUpBehindIfMended 5 = .ok (.getfield 29, 3) := by decide +kernel
theorem dX5_doneUpBehindIfMended_8 : decode cX5_doneUpBehindIfMended 8 = .ok (.invokevirtual 313, 3) := by decide +kernel
theorem dX5_doneUpBehindIfMended_11 : decode cX5_doneUpBehindIfMended 11 = .ok (.iconst 0, 1) := by decide +kernel
theorem dX5_doneUpBehindIfMended_12 : decode cX5_doneUpBehindIfMended 12 = .ok (.istore_n 2, 1) := by decide +kernel
theorem dX5_doneUpBehindIfMended_13 : decode cX5_doneUpBehindIfMended 13 = .ok (.iload_n 2, 1) := by decide +kernel
theorem dX5_doneUpBehindIfMended_14 : decode cX5_doneUpBehindIfMended 14 = .ok (.bipush 10, 2) := by decide +kernel
theorem dX5_doneUpBehindIfMended_16 : decode cX5_doneUpBehindIfMended 16 = .ok (.if_icmp .ge 19, 3) := by decide +kernel
theorem dX5_doneUpBehindIfMended_19 : decode cX5_doneUpBehindIfMended 19 = .ok (.aload_n 0, 1) := by decide +kernel
theorem dX5_doneUpBehindIfMended_20 : decode cX5_doneUpBehindIfMended 20 = .ok (.getfield 33, 3) := by decide +kernel
theorem dX5_doneUpBehindIfMended_23 : decode cX5_doneUpBehindIfMended 23 = .ok (.getfield 148, 3) := by decide +kernel
theorem dX5_doneUpBehindIfMended_26 : decode cX5_doneUpBehindIfMended 26 = .ok (.iload_n 2, 1) := by decide +kernel
theorem dX5_doneUpBehindIfMended_27 : decode cX5_doneUpBehindIfMended 27 = .ok (.iconst 0, 1) := by decide +kernel
theorem dX5_doneUpBehindIfMended_28 : decode cX5_doneUpBehindIfMended 28 = .ok (.iastore, 1) := by decide +kernel
theorem dX5_doneUpBehindIfMended_29 : decode cX5_doneUpBehindIfMended 29 = .ok (.iinc 2 1, 3) := by decide +kernel
theorem dX5_doneUpBehindIfMended_32 : decode cX5_doneUpBehindIfMended 32 = .ok (.goto (-19), 3) := by decide +kernel
theorem dX5_doneUpBehindIfMended_35 : decode cX5_doneUpBehindIfMended 35 = .ok (.aload_n 0, 1) := by decide +kernel
theorem dX5_doneUpBehindIfMended_36 : decode cX5_doneUpBehindIfMended 36 = .ok (.iload_n 1, 1) := by decide +kernel
theorem dX5_doneUpBehindIfMended_37 : decode cX5_doneUpBehindIfMended 37 = .ok (.invokevirtual 316, 3) := by decide +kernel
theorem dX5_doneUpBehindIfMended_40 : decode cX5_doneUpBehindIfMended 40 = .ok (.ireturn, 1) := by decide +kernel
set_option maxRecDepth 20000 in
theorem ggX5_clashesIfTurned_X1_clashing : GoodIn wsX5_clashesIfTurned wsX1_clashing := goodIn_r _ [9, 10, 11, 12, 13, 14, 15, 16, 17, 18, 19, 20, 8, 21, 22, 23, 24, 25, 26, 27, 28, 29, 30, 50, 51, 52, 53, 54, 55, 56, 57, 58, 59, 60, 61] (by decide +kernel) (by decide +kernel)
set_option maxRecDepth 20000 in
theorem gX5_clashesIfTurned_X1_clashing : GoodIn wsX5_clashesIfTurned (wsV RX5 120 RX1 yX1_clashing wsX1_clashing) := goodIn_app (goodIn_of _ (by decide +kernel)) ggX5_clashesIfTurned_X1_clashing
set_option maxRecDepth 20000 in
theorem ggX5_clashesIfTurned_J6_bitCount_0f7a4 : GoodIn wsX5_clashesIfTurned wsJ6_bitCount_0f7a4 := goodIn_r _ [27, 28, 29, 30] (by decide +kernel) (by decide +kernel)
set_option maxRecDepth 20000 in
theorem gX5_clashesIfTurned_J6_bitCount_0f7a4 : GoodIn wsX5_clashesIfTurned (va_wsS RX5 192 yJ6_bitCount_0f7a4 wsJ6_bitCount_0f7a4) := goodIn_app (goodIn_of _ (by decide +kernel)) ggX5_clashesIfTurned_J6_bitCount_0f7a4
theorem dX5_clashesIfTurned_0 : decode cX5_clashesIfTurned 0 = .ok (.aload_n 0, 1) := by decide +kernel
theorem dX5_clashesIfTurned_1 : decode cX5_clashesIfTurned 1 = .ok (.getfield 19, 3) := by decide +kernel
theorem dX5_clashesIfTurned_4 : decode cX5_clashesIfTurned 4 = .ok (.aload_n 0, 1) := by decide +kernel
theorem dX5_clashesIfTurned_5 : decode cX5_clashesIfTurned 5 = .ok (.getfield 29, 3) := by decide +kernel
theorem dX5_clashesIfTurned_8 : decode cX5_clashesIfTurned 8 = .ok (.getfield 110, 3) := by decide +kernel
theorem dX5_clashesIfTurned_11 : decode cX5_clashesIfTurned 11 = .ok (.aload_n 0, 1) := by decide +kernel
theorem dX5_clashesIfTurned_12 : decode cX5_clashesIfTurned 12 = .ok (.getfield 29, 3) := by decide +kernel
theorem dX5_clashesIfTurned_15 : decode cX5_clashesIfTurned 15 = .ok (.getfield 117, 3) := by decide +kernel
theorem dX5_clashesIfTurned_18 : decode cX5_clashesIfTurned 18 = .ok (.iload_n 1, 1) := by decide +kernel
theorem dX5_clashesIfTurned_19 : decode cX5_clashesIfTurned 19 = .ok (.ixor, 1) := by decide +kernel
theorem dX5_clashesIfTurned_20 : decode cX5_clashesIfTurned 20 = .ok (.invokevirtual 120, 3) := by decide +kernel
theorem dX5_clashesIfTurned_23 : decode cX5_clashesIfTurned 23 = .ok (.invokestatic 192, 3) := by decide +kernel
theorem dX5_clashesIfTurned_26 : decode cX5_clashesIfTurned 26 = .ok (.ireturn, 1) := by decide +kernel
set_option maxRecDepth 20000 in
theorem ggX5_fewestToTurn_X5_clashesIfTurned : GoodIn wsX5_fewestToTurn wsX5_clashesIfTurned := goodIn_r _ [7, 8, 1, 2, 9, 10, 11, 12, 13, 14, 15, 16, 17, 18, 19, 20, 6, 21, 22, 23, 24, 25, 26, 27, 28, 29, 30, 31, 32, 33, 34, 35, 40, 41, 42, 43, 44, 45, 46, 47, 48, 49, 50, 51, 52, 53, 54, 55, 56, 57, 58, 59, 60, 61, 62, 63, 64, 65, 66, 67, 68, 69] (by decide +kernel) (by decide +kernel)
set_option maxRecDepth 20000 in
theorem gX5_fewestToTurn_X5_clashesIfTurned : GoodIn wsX5_fewestToTurn (wsV RX5 257 RX5 yX5_clashesIfTurned wsX5_clashesIfTurned) := goodIn_app (goodIn_of _ (by decide +kernel)) ggX5_fewestToTurn_X5_clashesIfTurned
set_option maxRecDepth 20000 in
theorem ggX5_fewestToTurn_X5_isChoice : GoodIn wsX5_fewestToTurn wsX5_isChoice := goodIn_r _ [39, 1, 2, 35, 29, 30, 31, 32, 33, 34, 40, 41, 42, 43, 44, 45, 46, 47, 48, 49, 50, 51, 52, 53, 54, 55, 56, 57] (by decide +kernel) (by decide +kernel)
set_option maxRecDepth 20000 in
theorem gX5_fewestToTurn_X5_isChoice : GoodIn wsX5_fewestToTurn (wsV RX5 319 RX5 yX5_isChoice wsX5_isChoice) := goodIn_app (goodIn_of _ (by decide +kernel)) ggX5_fewestToTurn_X5_isChoice
theorem dX5_fewestToTurn_0 : decode cX5_fewestToTurn 0 = .ok (.iconst 0, 1) := by decide +kernel
theorem dX5_fewestToTurn_1 : decode cX5_fewestToTurn 1 = .ok (.istore_n 1, 1) := by decide +kernel
theorem dX5_fewestToTurn_2 : decode cX5_fewestToTurn 2 = .ok (.aload_n 0, 1) := by decide +kernel
theorem dX5_fewestToTurn_3 : decode cX5_fewestToTurn 3 = .ok (.iconst 0, 1) := by decide +kernel
theorem dX5_fewestToTurn_4 : decode cX5_fewestToTurn 4 = .ok (.invokevirtual 257, 3) := by decide +kernel
theorem dX5_fewestToTurn_7 : decode cX5_fewestToTurn 7 = .ok (.istore_n 2, 1) := by decide +kernel
theorem dX5_fewestToTurn_8 : decode cX5_fewestToTurn 8 = .ok (.iconst 1, 1) := by decide +kernel
theorem dX5_fewestToTurn_9 : decode cX5_fewestToTurn 9 = .ok (.istore_n 3, 1) := by decide +kernel
theorem dX5_fewestToTurn_10 : decode cX5_fewestToTurn 10 = .ok (.iload_n 3, 1) := by decide +kernel
theorem dX5_fewestToTurn_11 : decode cX5_fewestToTurn 11 = .ok (.bipush 10, 2) := by decide +kernel
theorem dX5_fewestToTurn_13 : decode cX5_fewestToTurn 13 = .ok (.if_icmp .gt 72, 3) := by decide +kernel
theorem dX5_fewestToTurn_16 : decode cX5_fewestToTurn 16 = .ok (.iload_n 2, 1) := by decide +kernel
theorem dX5_fewestToTurn_17 : decode cX5_fewestToTurn 17 = .ok (.ifCond .le 68, 3) := by decide +kernel
theorem dX5_fewestToTurn_20 : decode cX5_fewestToTurn 20 = .ok (.iconst 1, 1) := by decide +kernel
theorem dX5_fewestToTurn_21 : decode cX5_fewestToTurn 21 = .ok (.istore 4, 2) := by decide +kernel
theorem dX5_fewestToTurn_23 : decode cX5_fewestToTurn 23 = .ok (.iload 4, 2) := by decide +kernel
theorem dX5_fewestToTurn_25 : decode cX5_fewestToTurn 25 = .ok (.aload_n 0, 1) := by decide +kernel
theorem dX5_fewestToTurn_26 : decode cX5_fewestToTurn 26 = .ok (.getfield 29, 3) := by decide +kernel
theorem dX5_fewestToTurn_29 : decode cX5_fewestToTurn 29 = .ok (.getfield 110, 3) := by decide +kernel
theorem dX5_fewestToTurn_32 : decode cX5_fewestToTurn 32 = .ok (.if_icmp .gt 47, 3) := by decide +kernel
theorem dX5_fewestToTurn_35 : decode cX5_fewestToTurn 35 = .ok (.iload_n 2, 1) := by decide +kernel
theorem dX5_fewestToTurn_36 : decode cX5_fewestToTurn 36 = .ok (.ifCond .le 43, 3) := by decide +kernel
theorem dX5_fewestToTurn_39 : decode cX5_fewestToTurn 39 = .ok (.aload_n 0, 1) := by decide +kernel
theorem dX5_fewestToTurn_40 : decode cX5_fewestToTurn 40 = .ok (.iload 4, 2) := by decide +kernel
theorem dX5_fewestToTurn_42 : decode cX5_fewestToTurn 42 = .ok (.iload_n 3, 1) := by decide +kernel
theorem dX5_fewestToTurn_43 : decode cX5_fewestToTurn 43 = .ok (.invokevirtual 319, 3) := by decide +kernel
theorem dX5_fewestToTurn_46 : decode cX5_fewestToTurn 46 = .ok (.ifCond .eq 12, 3) := by decide +kernel
theorem dX5_fewestToTurn_49 : decode cX5_fewestToTurn 49 = .ok (.aload_n 0, 1) := by decide +kernel
theorem dX5_fewestToTurn_50 : decode cX5_fewestToTurn 50 = .ok (.iload 4, 2) := by decide +kernel
theorem dX5_fewestToTurn_52 : decode cX5_fewestToTurn 52 = .ok (.invokevirtual 257, 3) := by decide +kernel
theorem dX5_fewestToTurn_55 : decode cX5_fewestToTurn 55 = .ok (.goto 4, 3) := by decide +kernel
theorem dX5_fewestToTurn_58 : decode cX5_fewestToTurn 58 = .ok (.iload_n 2, 1) := by decide +kernel
theorem dX5_fewestToTurn_59 : decode cX5_fewestToTurn 59 = .ok (.istore 5, 2) := by decide +kernel
theorem dX5_fewestToTurn_61 : decode cX5_fewestToTurn 61 = .ok (.iload 5, 2) := by decide +kernel
theorem dX5_fewestToTurn_63 : decode cX5_fewestToTurn 63 = .ok (.iload_n 2, 1) := by decide +kernel
theorem dX5_fewestToTurn_64 : decode cX5_fewestToTurn 64 = .ok (.if_icmp .ge 9, 3) := by decide +kernel
theorem dX5_fewestToTurn_67 : decode cX5_fewestToTurn 67 = .ok (.iload 4, 2) := by decide +kernel
theorem dX5_fewestToTurn_69 : decode cX5_fewestToTurn 69 = .ok (.istore_n 1, 1) := by decide +kernel
theorem dX5_fewestToTurn_70 : decode cX5_fewestToTurn 70 = .ok (.iload 5, 2) := by decide +kernel
theorem dX5_fewestToTurn_72 : decode cX5_fewestToTurn 72 = .ok (.istore_n 2, 1) := by decide +kernel
theorem dX5_fewestToTurn_73 : decode cX5_fewestToTurn 73 = .ok (.iinc 4 1, 3) := by decide +kernel
theorem dX5_fewestToTurn_76 : decode cX5_fewestToTurn 76 = .ok (.goto (-53), 3) := by decide +kernel
theorem dX5_fewestToTurn_79 : decode cX5_fewestToTurn 79 = .ok (.iinc 3 1, 3) := by decide +kernel
theorem dX5_fewestToTurn_82 : decode cX5_fewestToTurn 82 = .ok (.goto (-72), 3) := by decide +kernel
theorem dX5_fewestToTurn_85 : decode cX5_fewestToTurn 85 = .ok (.iload_n 1, 1) := by decide +kernel
theorem dX5_fewestToTurn_86 : decode cX5_fewestToTurn 86 = .ok (.ireturn, 1) := by decide +kernel
set_option maxRecDepth 20000 in
theorem ggX5_liesOn_X1_widen : GoodIn wsX5_liesOn wsX1_widen := goodIn_r _ [8, 9, 10, 11, 12, 13, 32, 33, 34, 35, 36, 37, 38, 39, 40, 41, 42, 43] (by decide +kernel) (by decide +kernel)
set_option maxRecDepth 20000 in
theorem gX5_liesOn_X1_widen : GoodIn wsX5_liesOn (wsV RX5 325 RX1 yX1_widen wsX1_widen) := goodIn_app (goodIn_of _ (by decide +kernel)) ggX5_liesOn_X1_widen
theorem dX5_liesOn_0 : decode cX5_liesOn 0 = .ok (.iconst 1, 1) := by decide +kernel
theorem dX5_liesOn_1 : decode cX5_liesOn 1 = .ok (.iload_n 1, 1) := by decide +kernel
theorem dX5_liesOn_2 : decode cX5_liesOn 2 = .ok (.ishl, 1) := by decide +kernel
theorem dX5_liesOn_3 : decode cX5_liesOn 3 = .ok (.iconst 1, 1) := by decide +kernel
theorem dX5_liesOn_4 : decode cX5_liesOn 4 = .ok (.iload_n 2, 1) := by decide +kernel
theorem dX5_liesOn_5 : decode cX5_liesOn 5 = .ok (.ishl, 1) := by decide +kernel
theorem dX5_liesOn_6 : decode cX5_liesOn 6 = .ok (.ior, 1) := by decide +kernel
theorem dX5_liesOn_7 : decode cX5_liesOn 7 = .ok (.istore_n 3, 1) := by decide +kernel
theorem dX5_liesOn_8 : decode cX5_liesOn 8 = .ok (.aload_n 0, 1) := by decide +kernel
theorem dX5_liesOn_9 : decode cX5_liesOn 9 = .ok (.getfield 19, 3) := by decide +kernel
theorem dX5_liesOn_12 : decode cX5_liesOn 12 = .ok (.iconst 1, 1) := by decide +kernel
theorem dX5_liesOn_13 : decode cX5_liesOn 13 = .ok (.iload_n 1, 1) := by decide +kernel
theorem dX5_liesOn_14 : decode cX5_liesOn 14 = .ok (.ishl, 1) := by decide +kernel
theorem dX5_liesOn_15 : decode cX5_liesOn 15 = .ok (.aload_n 0, 1) := by decide +kernel
theorem dX5_liesOn_16 : decode cX5_liesOn 16 = .ok (.getfield 29, 3) := by decide +kernel
theorem dX5_liesOn_19 : decode cX5_liesOn 19 = .ok (.getfield 110, 3) := by decide +kernel
theorem dX5_liesOn_22 : decode cX5_liesOn 22 = .ok (.invokevirtual 325, 3) := by decide +kernel
theorem dX5_liesOn_25 : decode cX5_liesOn 25 = .ok (.iload_n 3, 1) := by decide +kernel
theorem dX5_liesOn_26 : decode cX5_liesOn 26 = .ok (.iconst (-1), 1) := by decide +kernel
theorem dX5_liesOn_27 : decode cX5_liesOn 27 = .ok (.ixor, 1) := by decide +kernel
theorem dX5_liesOn_28 : decode cX5_liesOn 28 = .ok (.iand, 1) := by decide +kernel
theorem dX5_liesOn_29 : decode cX5_liesOn 29 = .ok (.istore 4, 2) := by decide +kernel
theorem dX5_liesOn_31 : decode cX5_liesOn 31 = .ok (.aload_n 0, 1) := by decide +kernel
theorem dX5_liesOn_32 : decode cX5_liesOn 32 = .ok (.getfield 19, 3) := by decide +kernel
theorem dX5_liesOn_35 : decode cX5_liesOn 35 = .ok (.iconst 1, 1) := by decide +kernel
theorem dX5_liesOn_36 : decode cX5_liesOn 36 = .ok (.iload_n 2, 1) := by decide +kernel
theorem dX5_liesOn_37 : decode cX5_liesOn 37 = .ok (.ishl, 1) := by decide +kernel
theorem dX5_liesOn_38 : decode cX5_liesOn 38 = .ok (.aload_n 0, 1) := by decide +kernel
theorem dX5_liesOn_39 : decode cX5_liesOn 39 = .ok (.getfield 29, 3) := by decide +kernel
theorem dX5_liesOn_42 : decode cX5_liesOn 42 = .ok (.getfield 110, 3) := by decide +kernel
theorem dX5_liesOn_45 : decode cX5_liesOn 45 = .ok (.invokevirtual 325, 3) := by decide +kernel
theorem dX5_liesOn_48 : decode cX5_liesOn 48 = .ok (.iload_n 3, 1) := by decide +kernel
theorem dX5_liesOn_49 : decode cX5_liesOn 49 = .ok (.iconst (-1), 1) := by decide +kernel
theorem dX5_liesOn_50 : decode cX5_liesOn 50 = .ok (.ixor, 1) := by decide +kernel
theorem dX5_liesOn_51 : decode cX5_liesOn 51 = .ok (.iand, 1) := by decide +kernel
theorem dX5_liesOn_52 : decode cX5_liesOn 52 = .ok (.istore 5, 2) := by decide +kernel
theorem dX5_liesOn_54 : decode cX5_liesOn 54 = .ok (.iload 4, 2) := by decide +kernel
theorem dX5_liesOn_56 : decode cX5_liesOn 56 = .ok (.iload 5, 2) := by decide +kernel
theorem dX5_liesOn_58 : decode cX5_liesOn 58 = .ok (.if_icmp .ne 12, 3) := by decide +kernel
theorem dX5_liesOn_61 : decode cX5_liesOn 61 = .ok (.iload 4, 2) := by decide +kernel
theorem dX5_liesOn_63 : decode cX5_liesOn 63 = .ok (.ifCond .eq 7, 3) := by decide +kernel
theorem dX5_liesOn_66 : decode cX5_liesOn 66 = .ok (.iconst 1, 1) := by decide +kernel
theorem dX5_liesOn_67 : decode cX5_liesOn 67 = .ok (.goto 4, 3) := by decide +kernel
theorem dX5_liesOn_70 : decode cX5_liesOn 70 = .ok (.iconst 0, 1) := by decide +kernel
theorem dX5_liesOn_71 : decode cX5_liesOn 71 = .ok (.ireturn, 1) := by decide +kernel
set_option maxRecDepth 20000 in
theorem ggX5_mostStrained_X5_leastOf : GoodIn wsX5_mostStrained wsX5_leastOf := goodIn_r _ [8, 9, 10, 11, 12, 13] (by decide +kernel) (by decide +kernel)
set_option maxRecDepth 20000 in
theorem gX5_mostStrained_X5_leastOf : GoodIn wsX5_mostStrained (va_wsS RX5 219 yX5_leastOf wsX5_leastOf) := goodIn_app (goodIn_of _ (by decide +kernel)) ggX5_mostStrained_X5_leastOf
set_option maxRecDepth 20000 in
theorem ggX5_mostStrained_X5_has : GoodIn wsX5_mostStrained wsX5_has := goodIn_r _ [16] (by decide +kernel) (by decide +kernel)
set_option maxRecDepth 20000 in
theorem gX5_mostStrained_X5_has : GoodIn wsX5_mostStrained (va_wsS RX5 151 yX5_has wsX5_has) := goodIn_app (goodIn_of _ (by decide +kernel)) ggX5_mostStrained_X5_has
theorem dX5_mostStrained_0 : decode cX5_mostStrained 0 = .ok (.iload_n 1, 1) := by decide +kernel
theorem dX5_mostStrained_1 : decode cX5_mostStrained 1 = .ok (.invokestatic 219, 3) := by decide +kernel
theorem dX5_mostStrained_4 : decode cX5_mostStrained 4 = .ok (.istore_n 2, 1) := by decide +kernel
theorem dX5_mostStrained_5 : decode cX5_mostStrained 5 = .ok (.iconst 0, 1) := by decide +kernel
theorem dX5_mostStrained_6 : decode cX5_mostStrained 6 = .ok (.istore_n 3, 1) := by decide +kernel
theorem dX5_mostStrained_7 : decode cX5_mostStrained 7 = .ok (.iload_n 3, 1) := by decide +kernel
theorem dX5_mostStrained_8 : decode cX5_mostStrained 8 = .ok (.aload_n 0, 1) := by decide +kernel
theorem dX5_mostStrained_9 : decode cX5_mostStrained 9 = .ok (.getfield 19, 3) := by decide +kernel
theorem dX5_mostStrained_12 : decode cX5_mostStrained 12 = .ok (.getfield 89, 3) := by decide +kernel
theorem dX5_mostStrained_15 : decode cX5_mostStrained 15 = .ok (.if_icmp .ge 45, 3) := by decide +kernel
theorem dX5_mostStrained_18 : decode cX5_mostStrained 18 = .ok (.iload_n 1, 1) := by decide +kernel
theorem dX5_mostStrained_19 : decode cX5_mostStrained 19 = .ok (.iload_n 3, 1) := by decide +kernel
theorem dX5_mostStrained_20 : decode cX5_mostStrained 20 = .ok (.invokestatic 151, 3) := by decide +kernel
theorem dX5_mostStrained_23 : decode cX5_mostStrained 23 = .ok (.ifCond .eq 31, 3) := by decide +kernel
theorem dX5_mostStrained_26 : decode cX5_mostStrained 26 = .ok (.iload_n 2, 1) := by decide +kernel
theorem dX5_mostStrained_27 : decode cX5_mostStrained 27 = .ok (.iconst (-1), 1) := by decide +kernel
theorem dX5_mostStrained_28 : decode cX5_mostStrained 28 = .ok (.if_icmp .eq 26, 3) := by decide +kernel
theorem dX5_mostStrained_31 : decode cX5_mostStrained 31 = .ok (.aload_n 0, 1) := by decide +kernel
theorem dX5_mostStrained_32 : decode cX5_mostStrained 32 = .ok (.getfield 29, 3) := by decide +kernel
theorem dX5_mostStrained_35 : decode cX5_mostStrained 35 = .ok (.getfield 148, 3) := by decide +kernel
theorem dX5_mostStrained_38 : decode cX5_mostStrained 38 = .ok (.iload_n 3, 1) := by decide +kernel
theorem dX5_mostStrained_39 : decode cX5_mostStrained 39 = .ok (.iaload, 1) := by decide +kernel
theorem dX5_mostStrained_40 : decode cX5_mostStrained 40 = .ok (.aload_n 0, 1) := by decide +kernel
theorem dX5_mostStrained_41 : decode cX5_mostStrained 41 = .ok (.getfield 29, 3) := by decide +kernel
theorem dX5_mostStrained_44 : decode cX5_mostStrained 44 = .ok (.getfield 148, 3) := by decide +kernel
theorem dX5_mostStrained_47 : decode cX5_mostStrained 47 = .ok (.iload_n 2, 1) := by decide +kernel
theorem dX5_mostStrained_48 : decode cX5_mostStrained 48 = .ok (.iaload, 1) := by decide +kernel
theorem dX5_mostStrained_49 : decode cX5_mostStrained 49 = .ok (.if_icmp .le 5, 3) := by decide +kernel
theorem dX5_mostStrained_52 : decode cX5_mostStrained 52 = .ok (.iload_n 3, 1) := by decide +kernel
theorem dX5_mostStrained_53 : decode cX5_mostStrained 53 = .ok (.istore_n 2, 1) := by decide +kernel
theorem dX5_mostStrained_54 : decode cX5_mostStrained 54 = .ok (.iinc 3 1, 3) := by decide +kernel
theorem dX5_mostStrained_57 : decode cX5_mostStrained 57 = .ok (.goto (-50), 3) := by decide +kernel
theorem dX5_mostStrained_60 : decode cX5_mostStrained 60 = .ok (.iload_n 2, 1) := by decide +kernel
theorem dX5_mostStrained_61 : decode cX5_mostStrained 61 = .ok (.ireturn, 1) := by decide +kernel
set_option maxRecDepth 20000 in
theorem ggX5_greaterPart_X5_has : GoodIn wsX5_greaterPart wsX5_has := goodIn_r _ [9] (by decide +kernel) (by decide +kernel)
set_option maxRecDepth 20000 in
theorem gX5_greaterPart_X5_has : GoodIn wsX5_greaterPart (va_wsS RX5 151 yX5_has wsX5_has) := goodIn_app (goodIn_of _ (by decide +kernel)) ggX5_greaterPart_X5_has
set_option maxRecDepth 20000 in
theorem ggX5_greaterPart_X5_doneUpWithout : GoodIn wsX5_greaterPart wsX5_doneUpWithout := goodIn_r _ [13, 14, 15, 39, 40, 41, 42, 43, 44, 45, 46, 47, 48, 49, 50, 51, 52, 53, 54, 55, 56] (by decide +kernel) (by decide +kernel)
set_option maxRecDepth 20000 in
theorem gX5_greaterPart_X5_doneUpWithout : GoodIn wsX5_greaterPart (wsV RX5 274 RX5 yX5_doneUpWithout wsX5_doneUpWithout) := goodIn_app (goodIn_of _ (by decide +kernel)) ggX5_greaterPart_X5_doneUpWithout
set_option maxRecDepth 20000 in
theorem ggX5_greaterPart_X1_hang : GoodIn wsX5_greaterPart wsX1_hang := goodIn_r _ [20, 21, 22, 23, 19, 24, 25, 26, 27, 28, 29, 30, 31, 7, 8, 9, 57, 58, 59, 60, 61, 62, 63, 64, 65, 66, 67, 68] (by decide +kernel) (by decide +kernel)
set_option maxRecDepth 20000 in
theorem gX5_greaterPart_X1_hang : GoodIn wsX5_greaterPart (wsV RX5 248 RX1 yX1_hang wsX1_hang) := goodIn_app (goodIn_of _ (by decide +kernel)) ggX5_greaterPart_X1_hang
set_option maxRecDepth 20000 in
theorem ggX5_greaterPart_J6_bitCount_0f7a4 : GoodIn wsX5_greaterPart wsJ6_bitCount_0f7a4 := goodIn_r _ [35, 36, 37, 38] (by decide +kernel) (by decide +kernel)
set_option maxRecDepth 20000 in
theorem gX5_greaterPart_J6_bitCount_0f7a4 : GoodIn wsX5_greaterPart (va_wsS RX5 192 yJ6_bitCount_0f7a4 wsJ6_bitCount_0f7a4) := goodIn_app (goodIn_of _ (by decide +kernel)) ggX5_greaterPart_J6_bitCount_0f7a4
theorem dX5_greaterPart_0 : decode cX5_greaterPart 0 = .ok (.iconst 0, 1) := by decide +kernel
theorem dX5_greaterPart_1 : decode cX5_greaterPart 1 = .ok (.istore 4, 2) := by decide +kernel
theorem dX5_greaterPart_3 : decode cX5_greaterPart 3 = .ok (.iconst 0, 1) := by decide +kernel
theorem dX5_greaterPart_4 : decode cX5_greaterPart 4 = .ok (.istore 5, 2) := by decide +kernel
theorem dX5_greaterPart_6 : decode cX5_greaterPart 6 = .ok (.iload 5, 2) := by decide +kernel
theorem dX5_greaterPart_8 : decode cX5_greaterPart 8 = .ok (.bipush 10, 2) := by decide +kernel
theorem dX5_greaterPart_10 : decode cX5_greaterPart 10 = .ok (.if_icmp .gt 39, 3) := by decide +kernel
theorem dX5_greaterPart_13 : decode cX5_greaterPart 13 = .ok (.iload_n 3, 1) := by decide +kernel
theorem dX5_greaterPart_14 : decode cX5_greaterPart 14 = .ok (.iload 5, 2) := by decide +kernel
theorem dX5_greaterPart_16 : decode cX5_greaterPart 16 = .ok (.invokestatic 151, 3) := by decide +kernel
theorem dX5_greaterPart_19 : decode cX5_greaterPart 19 = .ok (.ifCond .eq 24, 3) := by decide +kernel
theorem dX5_greaterPart_22 : decode cX5_greaterPart 22 = .ok (.aload_n 0, 1) := by decide +kernel
theorem dX5_greaterPart_23 : decode cX5_greaterPart 23 = .ok (.getfield 19, 3) := by decide +kernel
theorem dX5_greaterPart_26 : decode cX5_greaterPart 26 = .ok (.iload_n 1, 1) := by decide +kernel
theorem dX5_greaterPart_27 : decode cX5_greaterPart 27 = .ok (.iload_n 2, 1) := by decide +kernel
theorem dX5_greaterPart_28 : decode cX5_greaterPart 28 = .ok (.aload_n 0, 1) := by decide +kernel
theorem dX5_greaterPart_29 : decode cX5_greaterPart 29 = .ok (.iload 5, 2) := by decide +kernel
theorem dX5_greaterPart_31 : decode cX5_greaterPart 31 = .ok (.invokevirtual 274, 3) := by decide +kernel
theorem dX5_greaterPart_34 : decode cX5_greaterPart 34 = .ok (.invokevirtual 248, 3) := by decide +kernel
theorem dX5_greaterPart_37 : decode cX5_greaterPart 37 = .ok (.ifCond .eq 6, 3) := by decide +kernel
theorem dX5_greaterPart_40 : decode cX5_greaterPart 40 = .ok (.iinc 4 1, 3) := by decide +kernel
theorem dX5_greaterPart_43 : decode cX5_greaterPart 43 = .ok (.iinc 5 1, 3) := by decide +kernel
theorem dX5_greaterPart_46 : decode cX5_greaterPart 46 = .ok (.goto (-40), 3) := by decide +kernel
theorem dX5_greaterPart_49 : decode cX5_greaterPart 49 = .ok (.iload 4, 2) := by decide +kernel
theorem dX5_greaterPart_51 : decode cX5_greaterPart 51 = .ok (.iload_n 3, 1) := by decide +kernel
theorem dX5_greaterPart_52 : decode cX5_greaterPart 52 = .ok (.invokestatic 192, 3) := by decide +kernel
theorem dX5_greaterPart_55 : decode cX5_greaterPart 55 = .ok (.iload 4, 2) := by decide +kernel
theorem dX5_greaterPart_57 : decode cX5_greaterPart 57 = .ok (.isub, 1) := by decide +kernel
theorem dX5_greaterPart_58 : decode cX5_greaterPart 58 = .ok (.invokestatic 328, 3) := by decide +kernel
theorem dX5_greaterPart_61 : decode cX5_greaterPart 61 = .ok (.ireturn, 1) := by decide +kernel
theorem dX6_init_0 : decode cX6_init 0 = .ok (.aload_n 0, 1) := by decide +kernel
theorem dX6_init_1 : decode cX6_init 1 = .ok (.invokespecial 1, 3) := by decide +kernel
theorem dX6_init_4 : decode cX6_init 4 = .ok (.aload_n 0, 1) := by decide +kernel
theorem dX6_init_5 : decode cX6_init 5 = .ok (.sipush 240, 3) := by decide +kernel
theorem dX6_init_8 : decode cX6_init 8 = .ok (.newarray .int, 2) := by decide +kernel
theorem dX6_init_10 : decode cX6_init 10 = .ok (.putfield 7, 3) := by decide +kernel
theorem dX6_init_13 : decode cX6_init 13 = .ok (.aload_n 0, 1) := by decide +kernel
theorem dX6_init_14 : decode cX6_init 14 = .ok (.iconst (-1), 1) := by decide +kernel
theorem dX6_init_15 : decode cX6_init 15 = .ok (.putfield 13, 3) := by decide +kernel
theorem dX6_init_18 : decode cX6_init 18 = .ok (.aload_n 0, 1) := by decide +kernel
theorem dX6_init_19 : decode cX6_init 19 = .ok (.bipush 20, 2) := by decide +kernel
theorem dX6_init_21 : decode cX6_init 21 = .ok (.newarray .int, 2) := by decide +kernel
theorem dX6_init_23 : decode cX6_init 23 = .ok (.putfield 17, 3) := by decide +kernel
theorem dX6_init_26 : decode cX6_init 26 = .ok (.aload_n 0, 1) := by decide +kernel
theorem dX6_init_27 : decode cX6_init 27 = .ok (.bipush 10, 2) := by decide +kernel
theorem dX6_init_29 : decode cX6_init 29 = .ok (.newarray .int, 2) := by decide +kernel
theorem dX6_init_31 : decode cX6_init 31 = .ok (.putfield 20, 3) := by decide +kernel
theorem dX6_init_34 : decode cX6_init 34 = .ok (.aload_n 0, 1) := by decide +kernel
theorem dX6_init_35 : decode cX6_init 35 = .ok (.bipush 10, 2) := by decide +kernel
theorem dX6_init_37 : decode cX6_init 37 = .ok (.newarray .int, 2) := by decide +kernel
theorem dX6_init_39 : decode cX6_init 39 = .ok (.putfield 23, 3) := by decide +kernel
theorem dX6_init_42 : decode cX6_init 42 = .ok (.aload_n 0, 1) := by decide +kernel
theorem dX6_init_43 : decode cX6_init 43 = .ok (.bipush 20, 2) := by decide +kernel
theorem dX6_init_45 : decode cX6_init 45 = .ok (.newarray .int, 2) := by decide +kernel
theorem dX6_init_47 : decode cX6_init 47 = .ok (.putfield 26, 3) := by decide +kernel
theorem dX6_init_50 : decode cX6_init 50 = .ok (.aload_n 0, 1) := by decide +kernel
theorem dX6_init_51 : decode cX6_init 51 = .ok (.bipush 12, 2) := by decide +kernel
theorem dX6_init_53 : decode cX6_init 53 = .ok (.newarray .int, 2) := by decide +kernel
theorem dX6_init_55 : decode cX6_init 55 = .ok (.putfield 29, 3) := by decide +kernel
theorem dX6_init_58 : decode cX6_init 58 = .ok (.aload_n 0, 1) := by decide +kernel
theorem dX6_init_59 : decode cX6_init 59 = .ok (.bipush 20, 2) := by decide +kernel
theorem dX6_init_61 : decode cX6_init 61 = .ok (.newarray .int, 2) := by decide +kernel
theorem dX6_init_63 : decode cX6_init 63 = .ok (.putfield 32, 3) := by decide +kernel
theorem dX6_init_66 : decode cX6_init 66 = .ok (.aload_n 0, 1) := by decide +kernel
theorem dX6_init_67 : decode cX6_init 67 = .ok (.bipush 10, 2) := by decide +kernel
theorem dX6_init_69 : decode cX6_init 69 = .ok (.newarray .int, 2) := by decide +kernel
theorem dX6_init_71 : decode cX6_init 71 = .ok (.putfield 35, 3) := by decide +kernel
theorem dX6_init_74 : decode cX6_init 74 = .ok (.aload_n 0, 1) := by decide +kernel
theorem dX6_init_75 : decode cX6_init 75 = .ok (.bipush 10, 2) := by decide +kernel
theorem dX6_init_77 : decode cX6_init 77 = .ok (.newarray .int, 2) := by decide +kernel
theorem dX6_init_79 : decode cX6_init 79 = .ok (.putfield 38, 3) := by decide +kernel
theorem dX6_init_82 : decode cX6_init 82 = .ok (.aload_n 0, 1) := by decide +kernel
theorem dX6_init_83 : decode cX6_init 83 = .ok (.bipush 20, 2) := by decide +kernel
theorem dX6_init_85 : decode cX6_init 85 = .ok (.newarray .int, 2) := by decide +kernel
theorem dX6_init_87 : decode cX6_init 87 = .ok (.putfield 41, 3) := by decide +kernel
theorem dX6_init_90 : decode cX6_init 90 = .ok (.aload_n 0, 1) := by decide +kernel
theorem dX6_init_91 : decode cX6_init 91 = .ok (.bipush 12, 2) := by decide +kernel
theorem dX6_init_93 : decode cX6_init 93 = .ok (.newarray .int, 2) := by decide +kernel
theorem dX6_init_95 : decode cX6_init 95 = .ok (.putfield 44, 3) := by decide +kernel
theorem dX6_init_98 : decode cX6_init 98 = .ok (.aload_n 0, 1) := by decide +kernel
theorem dX6_init_99 : decode cX6_init 99 = .ok (.bipush 16, 2) := by decide +kernel
theorem dX6_init_101 : decode cX6_init 101 = .ok (.newarray .int, 2) := by decide +kernel
theorem dX6_init_103 : decode cX6_init 103 = .ok (.putfield 47, 3) := by decide +kernel
theorem dX6_init_106 : decode cX6_init 106 = .ok (.aload_n 0, 1) := by decide +kernel
theorem dX6_init_107 : decode cX6_init 107 = .ok (.bipush 16, 2) := by decide +kernel
theorem dX6_init_109 : decode cX6_init 109 = .ok (.newarray .int, 2) := by decide +kernel
theorem dX6_init_111 : decode cX6_init 111 = .ok (.putfield 50, 3) := by decide +kernel
theorem dX6_init_114 : decode cX6_init 114 = .ok (.aload_n 0, 1) := by decide +kernel
theorem dX6_init_115 : decode cX6_init 115 = .ok (.sipush 480, 3) := by decide +kernel
theorem dX6_init_118 : decode cX6_init 118 = .ok (.newarray .int, 2) := by decide +kernel
theorem dX6_init_120 : decode cX6_init 120 = .ok (.putfield 53, 3) := by decide +kernel
theorem dX6_init_123 : decode cX6_init 123 = .ok (.aload_n 0, 1) := by decide +kernel
theorem dX6_init_124 : decode cX6_init 124 = .ok (.bipush 6, 2) := by decide +kernel
theorem dX6_init_126 : decode cX6_init 126 = .ok (.newarray .int, 2) := by decide +kernel
theorem dX6_init_128 : decode cX6_init 128 = .ok (.putfield 56, 3) := by decide +kernel
theorem dX6_init_131 : decode cX6_init 131 = .ok (.aload_n 0, 1) := by decide +kernel
theorem dX6_init_132 : decode cX6_init 132 = .ok (.bipush 6, 2) := by decide +kernel
theorem dX6_init_134 : decode cX6_init 134 = .ok (.newarray .int, 2) := by decide +kernel
theorem dX6_init_136 : decode cX6_init 136 = .ok (.putfield 59, 3) := by decide +kernel
theorem dX6_init_139 : decode cX6_init 139 = .ok (.aload_n 0, 1) := by decide +kernel
theorem dX6_init_140 : decode cX6_init 140 = .ok (.bipush 6, 2) := by decide +kernel
theorem dX6_init_142 : decode cX6_init 142 = .ok (.newarray .boolean, 2) := by decide +kernel
theorem dX6_init_144 : decode cX6_init 144 = .ok (.putfield 62, 3) := by decide +kernel
theorem dX6_init_147 : decode cX6_init 147 = .ok (.aload_n 0, 1) := by decide +kernel
theorem dX6_init_148 : decode cX6_init 148 = .ok (.bipush 20, 2) := by decide +kernel
theorem dX6_init_150 : decode cX6_init 150 = .ok (.newarray .int, 2) := by decide +kernel
theorem dX6_init_152 : decode cX6_init 152 = .ok (.putfield 66, 3) := by decide +kernel
theorem dX6_init_155 : decode cX6_init 155 = .ok (.aload_n 0, 1) := by decide +kernel
theorem dX6_init_156 : decode cX6_init 156 = .ok (.bipush 20, 2) := by decide +kernel
theorem dX6_init_158 : decode cX6_init 158 = .ok (.newarray .int, 2) := by decide +kernel
theorem dX6_init_160 : decode cX6_init 160 = .ok (.putfield 69, 3) := by decide +kernel
theorem dX6_init_163 : decode cX6_init 163 = .ok (.aload_n 0, 1) := by decide +kernel
theorem dX6_init_164 : decode cX6_init 164 = .ok (.iconst 2, 1) := by decide +kernel
theorem dX6_init_165 : decode cX6_init 165 = .ok (.newarray .boolean, 2) := by decide +kernel
theorem dX6_init_167 : decode cX6_init 167 = .ok (.putfield 72, 3) := by decide +kernel
theorem dX6_init_170 : decode cX6_init 170 = .ok (.aload_n 0, 1) := by decide +kernel
theorem dX6_init_171 : decode cX6_init 171 = .ok (.bipush 32, 2) := by decide +kernel
theorem dX6_init_173 : decode cX6_init 173 = .ok (.newarray .int, 2) := by decide +kernel
theorem dX6_init_175 : decode cX6_init 175 = .ok (.putfield 75, 3) := by decide +kernel
theorem dX6_init_178 : decode cX6_init 178 = .ok (.aload_n 0, 1) := by decide +kernel
theorem dX6_init_179 : decode cX6_init 179 = .ok (.iconst 2, 1) := by decide +kernel
theorem dX6_init_180 : decode cX6_init 180 = .ok (.newarray .long, 2) := by decide +kernel
theorem dX6_init_182 : decode cX6_init 182 = .ok (.putfield 78, 3) := by decide +kernel
theorem dX6_init_185 : decode cX6_init 185 = .ok (.return_, 1) := by decide +kernel
theorem dX6_in_0 : decode cX6_in 0 = .ok (.iload_n 0, 1) := by decide +kernel
theorem dX6_in_1 : decode cX6_in 1 = .ok (.iload_n 1, 1) := by decide +kernel
theorem dX6_in_2 : decode cX6_in 2 = .ok (.if_icmp .lt 12, 3) := by decide +kernel
theorem dX6_in_5 : decode cX6_in 5 = .ok (.iload_n 0, 1) := by decide +kernel
theorem dX6_in_6 : decode cX6_in 6 = .ok (.iload_n 2, 1) := by decide +kernel
theorem dX6_in_7 : decode cX6_in 7 = .ok (.if_icmp .gt 7, 3) := by decide +kernel
theorem dX6_in_10 : decode cX6_in 10 = .ok (.iconst 1, 1) := by decide +kernel
theorem dX6_in_11 : decode cX6_in 11 = .ok (.goto 4, 3) := by decide +kernel
theorem dX6_in_14 : decode cX6_in 14 = .ok (.iconst 0, 1) := by decide +kernel
theorem dX6_in_15 : decode cX6_in 15 = .ok (.ireturn, 1) := by decide +kernel
theorem dX6_has_0 : decode cX6_has 0 = .ok (.iload_n 0, 1) := by decide +kernel
theorem dX6_has_1 : decode cX6_has 1 = .ok (.iload_n 1, 1) := by decide +kernel
theorem dX6_has_2 : decode cX6_has 2 = .ok (.ishr, 1) := by decide +kernel
theorem dX6_has_3 : decode cX6_has 3 = .ok (.iconst 1, 1) := by decide +kernel
theorem dX6_has_4 : decode cX6_has 4 = .ok (.iand, 1) := by decide +kernel
theorem dX6_has_5 : decode cX6_has 5 = .ok (.iconst 1, 1) := by decide +kernel
theorem dX6_has_6 : decode cX6_has 6 = .ok (.if_icmp .ne 7, 3) := by decide +kernel
theorem dX6_has_9 : decode cX6_has 9 = .ok (.iconst 1, 1) := by decide +kernel
theorem dX6_has_10 : decode cX6_has 10 = .ok (.goto 4, 3) := by decide +kernel
theorem dX6_has_13 : decode cX6_has 13 = .ok (.iconst 0, 1) := by decide +kernel
theorem dX6_has_14 : decode cX6_has 14 = .ok (.ireturn, 1) := by decide +kernel
theorem dX6_bits_0 : decode cX6_bits 0 = .ok (.iconst 0, 1) := by decide +kernel
theorem dX6_bits_1 : decode cX6_bits 1 = .ok (.istore_n 1, 1) := by decide +kernel
theorem dX6_bits_2 : decode cX6_bits 2 = .ok (.iload_n 0, 1) := by decide +kernel
theorem dX6_bits_3 : decode cX6_bits 3 = .ok (.istore_n 2, 1) := by decide +kernel
theorem dX6_bits_4 : decode cX6_bits 4 = .ok (.iload_n 2, 1) := by decide +kernel
theorem dX6_bits_5 : decode cX6_bits 5 = .ok (.ifCond .eq 15, 3) := by decide +kernel
theorem dX6_bits_8 : decode cX6_bits 8 = .ok (.iinc 1 1, 3) := by decide +kernel
theorem dX6_bits_11 : decode cX6_bits 11 = .ok (.iload_n 2, 1) := by decide +kernel
theorem dX6_bits_12 : decode cX6_bits 12 = .ok (.iload_n 2, 1) := by decide +kernel
theorem dX6_bits_13 : decode cX6_bits 13 = .ok (.iconst 1, 1) := by decide +kernel
theorem dX6_bits_14 : decode cX6_bits 14 = .ok (.isub, 1) := by decide +kernel
theorem dX6_bits_15 : decode cX6_bits 15 = .ok (.iand, 1) := by decide +kernel
theorem dX6_bits_16 : decode cX6_bits 16 = .ok (.istore_n 2, 1) := by decide +kernel
theorem dX6_bits_17 : decode cX6_bits 17 = .ok (.goto (-13), 3) := by decide +kernel
theorem dX6_bits_20 : decode cX6_bits 20 = .ok (.iload_n 1, 1) := by decide +kernel
theorem dX6_bits_21 : decode cX6_bits 21 = .ok (.ireturn, 1) := by decide +kernel
set_option maxRecDepth 20000 in
theorem ggX6_feed_X6_in : GoodIn wsX6_feed wsX6_in := goodIn_r _ [8] (by decide +kernel) (by decide +kernel)
set_option maxRecDepth 20000 in
theorem gX6_feed_X6_in : GoodIn wsX6_feed (va_wsS RX6 82 yX6_in wsX6_in) := goodIn_app (goodIn_of _ (by decide +kernel)) ggX6_feed_X6_in
theorem dX6_feed_0 : decode cX6_feed 0 = .ok (.iload_n 1, 1) := by decide +kernel
theorem dX6_feed_1 : decode cX6_feed 1 = .ok (.iconst 0, 1) := by decide +kernel
theorem dX6_feed_2 : decode cX6_feed 2 = .ok (.sipush 255, 3) := by decide +kernel
theorem dX6_feed_5 : decode cX6_feed 5 = .ok (.invokestatic 82, 3) := by decide +kernel
theorem dX6_feed_8 : decode cX6_feed 8 = .ok (.ifCond .ne 6, 3) := by decide +kernel
theorem dX6_feed_11 : decode cX6_feed 11 = .ok (.ldc 86, 2) := by decide +kernel
theorem dX6_feed_13 : decode cX6_feed 13 = .ok (.ireturn, 1) := by decide +kernel
theorem dX6_feed_14 : decode cX6_feed 14 = .ok (.aload_n 0, 1) := by decide +kernel
theorem dX6_feed_15 : decode cX6_feed 15 = .ok (.getfield 87, 3) := by decide +kernel
theorem dX6_feed_18 : decode cX6_feed 18 = .ok (.sipush 240, 3) := by decide +kernel
theorem dX6_feed_21 : decode cX6_feed 21 = .ok (.if_icmp .ne 6, 3) := by decide +kernel
theorem dX6_feed_24 : decode cX6_feed 24 = .ok (.ldc 90, 2) := by decide +kernel
theorem dX6_feed_26 : decode cX6_feed 26 = .ok (.ireturn, 1) := by decide +kernel
theorem dX6_feed_27 : decode cX6_feed 27 = .ok (.aload_n 0, 1) := by decide +kernel
theorem dX6_feed_28 : decode cX6_feed 28 = .ok (.getfield 7, 3) := by decide +kernel
theorem dX6_feed_31 : decode cX6_feed 31 = .ok (.aload_n 0, 1) := by decide +kernel
theorem dX6_feed_32 : decode cX6_feed 32 = .ok (.getfield 87, 3) := by decide +kernel
theorem dX6_feed_35 : decode cX6_feed 35 = .ok (.iload_n 1, 1) := by decide +kernel
theorem dX6_feed_36 : decode cX6_feed 36 = .ok (.iastore, 1) := by decide +kernel
theorem dX6_feed_37 : decode cX6_feed 37 = .ok (.aload_n 0, 1) := by decide +kernel
theorem dX6_feed_38 : decode cX6_feed 38 = .ok (.dup, 1) := by decide +kernel
theorem dX6_feed_39 : decode cX6_feed 39 = .ok (.getfield 87, 3) := by decide +kernel
theorem dX6_feed_42 : decode cX6_feed 42 = .ok (.iconst 1, 1) := by decide +kernel
theorem dX6_feed_43 : decode cX6_feed 43 = .ok (.iadd, 1) := by decide +kernel
theorem dX6_feed_44 : decode cX6_feed 44 = .ok (.putfield 87, 3) := by decide +kernel
theorem dX6_feed_47 : decode cX6_feed 47 = .ok (.aload_n 0, 1) := by decide +kernel
theorem dX6_feed_48 : decode cX6_feed 48 = .ok (.getfield 87, 3) := by decide +kernel
theorem dX6_feed_51 : decode cX6_feed 51 = .ok (.ireturn, 1) := by decide +kernel
theorem dX6_letterAt_0 : decode cX6_letterAt 0 = .ok (.iload_n 1, 1) := by decide +kernel
theorem dX6_letterAt_1 : decode cX6_letterAt 1 = .ok (.aload_n 0, 1) := by decide +kernel
theorem dX6_letterAt_2 : decode cX6_letterAt 2 = .ok (.getfield 87, 3) := by decide +kernel
theorem dX6_letterAt_5 : decode cX6_letterAt 5 = .ok (.if_icmp .ge 12, 3) := by decide +kernel
theorem dX6_letterAt_8 : decode cX6_letterAt 8 = .ok (.aload_n 0, 1) := by decide +kernel
theorem dX6_letterAt_9 : decode cX6_letterAt 9 = .ok (.getfield 7, 3) := by decide +kernel
theorem dX6_letterAt_12 : decode cX6_letterAt 12 = .ok (.iload_n 1, 1) := by decide +kernel
theorem dX6_letterAt_13 : decode cX6_letterAt 13 = .ok (.iaload, 1) := by decide +kernel
theorem dX6_letterAt_14 : decode cX6_letterAt 14 = .ok (.goto 4, 3) := by decide +kernel
theorem dX6_letterAt_17 : decode cX6_letterAt 17 = .ok (.iconst (-1), 1) := by decide +kernel
theorem dX6_letterAt_18 : decode cX6_letterAt 18 = .ok (.ireturn, 1) := by decide +kernel
set_option maxRecDepth 20000 in
theorem ggX6_nextLetter_X6_letterAt : GoodIn wsX6_nextLetter wsX6_letterAt := goodIn_r _ [6, 7, 8, 9, 10, 11, 12, 13, 14, 15, 16, 17, 18, 19, 20, 21, 22, 23, 24, 25, 26, 27, 28, 29, 30, 31, 32, 33, 34, 35, 36, 37, 38, 39, 40, 41, 42, 43, 44, 45, 46] (by decide +kernel) (by decide +kernel)
set_option maxRecDepth 20000 in
theorem gX6_nextLetter_X6_letterAt : GoodIn wsX6_nextLetter (wsV RX6 94 RX6 yX6_letterAt wsX6_letterAt) := goodIn_app (goodIn_of _ (by decide +kernel)) ggX6_nextLetter_X6_letterAt
theorem dX6_nextLetter_0 : decode cX6_nextLetter 0 = .ok (.aload_n 0, 1) := by decide +kernel
theorem dX6_nextLetter_1 : decode cX6_nextLetter 1 = .ok (.aload_n 0, 1) := by decide +kernel
theorem dX6_nextLetter_2 : decode cX6_nextLetter 2 = .ok (.getfield 91, 3) := by decide +kernel
theorem dX6_nextLetter_5 : decode cX6_nextLetter 5 = .ok (.invokevirtual 94, 3) := by decide +kernel
theorem dX6_nextLetter_8 : decode cX6_nextLetter 8 = .ok (.bipush 32, 2) := by decide +kernel
theorem dX6_nextLetter_10 : decode cX6_nextLetter 10 = .ok (.if_icmp .ne 16, 3) := by decide +kernel
theorem dX6_nextLetter_13 : decode cX6_nextLetter 13 = .ok (.aload_n 0, 1) := by decide +kernel
theorem dX6_nextLetter_14 : decode cX6_nextLetter 14 = .ok (.dup, 1) := by decide +kernel
theorem dX6_nextLetter_15 : decode cX6_nextLetter 15 = .ok (.getfield 91, 3) := by decide +kernel
theorem dX6_nextLetter_18 : decode cX6_nextLetter 18 = .ok (.iconst 1, 1) := by decide +kernel
theorem dX6_nextLetter_19 : decode cX6_nextLetter 19 = .ok (.iadd, 1) := by decide +kernel
theorem dX6_nextLetter_20 : decode cX6_nextLetter 20 = .ok (.putfield 91, 3) := by decide +kernel
theorem dX6_nextLetter_23 : decode cX6_nextLetter 23 = .ok (.goto (-23), 3) := by decide +kernel
theorem dX6_nextLetter_26 : decode cX6_nextLetter 26 = .ok (.aload_n 0, 1) := by decide +kernel
theorem dX6_nextLetter_27 : decode cX6_nextLetter 27 = .ok (.aload_n 0, 1) := by decide +kernel
theorem dX6_nextLetter_28 : decode cX6_nextLetter 28 = .ok (.getfield 91, 3) := by decide +kernel
theorem dX6_nextLetter_31 : decode cX6_nextLetter 31 = .ok (.invokevirtual 94, 3) := by decide +kernel
theorem dX6_nextLetter_34 : decode cX6_nextLetter 34 = .ok (.ireturn, 1) := by decide +kernel
theorem dX6_fails_0 : decode cX6_fails 0 = .ok (.aload_n 0, 1) := by decide +kernel
theorem dX6_fails_1 : decode cX6_fails 1 = .ok (.iload_n 1, 1) := by decide +kernel
theorem dX6_fails_2 : decode cX6_fails 2 = .ok (.putfield 98, 3) := by decide +kernel
theorem dX6_fails_5 : decode cX6_fails 5 = .ok (.aload_n 0, 1) := by decide +kernel
theorem dX6_fails_6 : decode cX6_fails 6 = .ok (.iload_n 2, 1) := by decide +kernel
theorem dX6_fails_7 : decode cX6_fails 7 = .ok (.putfield 91, 3) := by decide +kernel
theorem dX6_fails_10 : decode cX6_fails 10 = .ok (.iconst (-1), 1) := by decide +kernel
theorem dX6_fails_11 : decode cX6_fails 11 = .ok (.ireturn, 1) := by decide +kernel
set_option maxRecDepth 20000 in
theorem ggX6_readsNumber_X6_nextLetter : GoodIn wsX6_readsNumber wsX6_nextLetter := goodIn_r _ [7, 1, 8, 9, 10, 6, 11, 12, 13, 22, 23, 24, 25, 26, 27, 28, 29, 30, 31, 32, 33, 34, 35, 36, 37, 38, 39, 40, 41, 42, 43, 44, 45, 46, 47, 48, 49, 50, 51, 52, 53, 54, 55, 56, 57, 58, 59] (by decide +kernel) (by decide +kernel)
set_option maxRecDepth 20000 in
theorem gX6_readsNumber_X6_nextLetter : GoodIn wsX6_readsNumber (wsV RX6 101 RX6 yX6_nextLetter wsX6_nextLetter) := goodIn_app (goodIn_of _ (by decide +kernel)) ggX6_readsNumber_X6_nextLetter
set_option maxRecDepth 20000 in
theorem ggX6_readsNumber_X6_in : GoodIn wsX6_readsNumber wsX6_in := goodIn_r _ [16] (by decide +kernel) (by decide +kernel)
set_option maxRecDepth 20000 in
theorem gX6_readsNumber_X6_in : GoodIn wsX6_readsNumber (va_wsS RX6 82 yX6_in wsX6_in) := goodIn_app (goodIn_of _ (by decide +kernel)) ggX6_readsNumber_X6_in
set_option maxRecDepth 20000 in
theorem ggX6_readsNumber_X6_fails : GoodIn wsX6_readsNumber wsX6_fails := goodIn_r _ [20, 21, 1, 22, 23, 24, 25, 26, 27, 28, 29, 30, 31, 32, 33, 34, 35, 36, 37, 38, 39, 40, 41, 42, 43, 44, 45, 46, 47, 48, 49, 50, 51, 52, 53, 54, 55, 56, 57, 58, 59] (by decide +kernel) (by decide +kernel)
set_option maxRecDepth 20000 in
theorem gX6_readsNumber_X6_fails : GoodIn wsX6_readsNumber (wsV RX6 105 RX6 yX6_fails wsX6_fails) := goodIn_app (goodIn_of _ (by decide +kernel)) ggX6_readsNumber_X6_fails
set_option maxRecDepth 20000 in
theorem ggX6_readsNumber_X6_letterAt : GoodIn wsX6_readsNumber wsX6_letterAt := goodIn_r _ [11, 12, 13, 22, 23, 24, 25, 26, 27, 28, 29, 30, 31, 32, 33, 34, 35, 36, 37, 38, 39, 40, 41, 42, 43, 44, 45, 46, 47, 48, 49, 50, 51, 52, 53, 54, 55, 56, 57, 58, 59] (by decide +kernel) (by decide +kernel)
set_option maxRecDepth 20000 in
theorem gX6_readsNumber_X6_letterAt : GoodIn wsX6_readsNumber (wsV RX6 94 RX6 yX6_letterAt wsX6_letterAt) := goodIn_app (goodIn_of _ (by decide +kernel)) ggX6_readsNumber_X6_letterAt
theorem dX6_readsNumber_0 : decode cX6_readsNumber 0 = .ok (.aload_n 0, 1) := by decide +kernel
theorem dX6_readsNumber_1 : decode cX6_readsNumber 1 = .ok (.invokevirtual 101, 3) := by decide +kernel
theorem dX6_readsNumber_4 : decode cX6_readsNumber 4 = .ok (.bipush 48, 2) := by decide +kernel
theorem dX6_readsNumber_6 : decode cX6_readsNumber 6 = .ok (.bipush 57, 2) := by decide +kernel
theorem dX6_readsNumber_8 : decode cX6_readsNumber 8 = .ok (.invokestatic 82, 3) := by decide +kernel
theorem dX6_readsNumber_11 : decode cX6_readsNumber 11 = .ok (.ifCond .ne 13, 3) := by decide +kernel
theorem dX6_readsNumber_14 : decode cX6_readsNumber 14 = .ok (.aload_n 0, 1) := by decide +kernel
theorem dX6_readsNumber_15 : decode cX6_readsNumber 15 = .ok (.iconst 1, 1) := by decide +kernel
theorem dX6_readsNumber_16 : decode cX6_readsNumber 16 = .ok (.aload_n 0, 1) := by decide +kernel
theorem dX6_readsNumber_17 : decode cX6_readsNumber 17 = .ok (.getfield 91, 3) := by decide +kernel
theorem dX6_readsNumber_20 : decode cX6_readsNumber 20 = .ok (.invokevirtual 105, 3) := by decide +kernel
theorem dX6_readsNumber_23 : decode cX6_readsNumber 23 = .ok (.ireturn, 1) := by decide +kernel
theorem dX6_readsNumber_24 : decode cX6_readsNumber 24 = .ok (.aload_n 0, 1) := by decide +kernel
theorem dX6_readsNumber_25 : decode cX6_readsNumber 25 = .ok (.aload_n 0, 1) := by decide +kernel
theorem dX6_readsNumber_26 : decode cX6_readsNumber 26 = .ok (.getfield 91, 3) := by decide +kernel
theorem dX6_readsNumber_29 : decode cX6_readsNumber 29 = .ok (.putfield 109, 3) := by decide +kernel
theorem dX6_readsNumber_32 : decode cX6_readsNumber 32 = .ok (.iconst 0, 1) := by decide +kernel
theorem dX6_readsNumber_33 : decode cX6_readsNumber 33 = .ok (.istore_n 3, 1) := by decide +kernel
theorem dX6_readsNumber_34 : decode cX6_readsNumber 34 = .ok (.aload_n 0, 1) := by decide +kernel
theorem dX6_readsNumber_35 : decode cX6_readsNumber 35 = .ok (.aload_n 0, 1) := by decide +kernel
theorem dX6_readsNumber_36 : decode cX6_readsNumber 36 = .ok (.getfield 91, 3) := by decide +kernel
theorem dX6_readsNumber_39 : decode cX6_readsNumber 39 = .ok (.invokevirtual 94, 3) := by decide +kernel
theorem dX6_readsNumber_42 : decode cX6_readsNumber 42 = .ok (.bipush 48, 2) := by decide +kernel
theorem dX6_readsNumber_44 : decode cX6_readsNumber 44 = .ok (.bipush 57, 2) := by decide +kernel
theorem dX6_readsNumber_46 : decode cX6_readsNumber 46 = .ok (.invokestatic 82, 3) := by decide +kernel
theorem dX6_readsNumber_49 : decode cX6_readsNumber 49 = .ok (.ifCond .eq 44, 3) := by decide +kernel
theorem dX6_readsNumber_52 : decode cX6_readsNumber 52 = .ok (.iload_n 3, 1) := by decide +kernel
theorem dX6_readsNumber_53 : decode cX6_readsNumber 53 = .ok (.sipush 999, 3) := by decide +kernel
theorem dX6_readsNumber_56 : decode cX6_readsNumber 56 = .ok (.if_icmp .le 7, 3) := by decide +kernel
theorem dX6_readsNumber_59 : decode cX6_readsNumber 59 = .ok (.iload_n 3, 1) := by decide +kernel
theorem dX6_readsNumber_60 : decode cX6_readsNumber 60 = .ok (.goto 19, 3) := by decide +kernel
theorem dX6_readsNumber_63 : decode cX6_readsNumber 63 = .ok (.bipush 10, 2) := by decide +kernel
theorem dX6_readsNumber_65 : decode cX6_readsNumber 65 = .ok (.iload_n 3, 1) := by decide +kernel
theorem dX6_readsNumber_66 : decode cX6_readsNumber 66 = .ok (.imul, 1) := by decide +kernel
theorem dX6_readsNumber_67 : decode cX6_readsNumber 67 = .ok (.aload_n 0, 1) := by decide +kernel
theorem dX6_readsNumber_68 : decode cX6_readsNumber 68 = .ok (.aload_n 0, 1) := by decide +kernel
theorem dX6_readsNumber_69 : decode cX6_readsNumber 69 = .ok (.getfield 91, 3) := by decide +kernel
theorem dX6_readsNumber_72 : decode cX6_readsNumber 72 = .ok (.invokevirtual 94, 3) := by decide +kernel
theorem dX6_readsNumber_75 : decode cX6_readsNumber 75 = .ok (.iadd, 1) := by decide +kernel
theorem dX6_readsNumber_76 : decode cX6_readsNumber 76 = .ok (.bipush 48, 2) := by decide +kernel
theorem dX6_readsNumber_78 : decode cX6_readsNumber 78 = .ok (.isub, 1) := by decide +kernel
theorem dX6_readsNumber_79 : decode cX6_readsNumber 79 = .ok (.istore_n 3, 1) := by decide +kernel
theorem dX6_readsNumber_80 : decode cX6_readsNumber 80 = .ok (.aload_n 0, 1) := by decide +kernel
theorem dX6_readsNumber_81 : decode cX6_readsNumber 81 = .ok (.dup, 1) := by decide +kernel
theorem dX6_readsNumber_82 : decode cX6_readsNumber 82 = .ok (.getfield 91, 3) := by decide +kernel
theorem dX6_readsNumber_85 : decode cX6_readsNumber 85 = .ok (.iconst 1, 1) := by decide +kernel
theorem dX6_readsNumber_86 : decode cX6_readsNumber 86 = .ok (.iadd, 1) := by decide +kernel
theorem dX6_readsNumber_87 : decode cX6_readsNumber 87 = .ok (.putfield 91, 3) := by decide +kernel
theorem dX6_readsNumber_90 : decode cX6_readsNumber 90 = .ok (.goto (-56), 3) := by decide +kernel
theorem dX6_readsNumber_93 : decode cX6_readsNumber 93 = .ok (.aload_n 0, 1) := by decide +kernel
theorem dX6_readsNumber_94 : decode cX6_readsNumber 94 = .ok (.getfield 91, 3) := by decide +kernel
theorem dX6_readsNumber_97 : decode cX6_readsNumber 97 = .ok (.aload_n 0, 1) := by decide +kernel
theorem dX6_readsNumber_98 : decode cX6_readsNumber 98 = .ok (.getfield 109, 3) := by decide +kernel
theorem dX6_readsNumber_101 : decode cX6_readsNumber 101 = .ok (.isub, 1) := by decide +kernel
theorem dX6_readsNumber_102 : decode cX6_readsNumber 102 = .ok (.iconst 3, 1) := by decide +kernel
theorem dX6_readsNumber_103 : decode cX6_readsNumber 103 = .ok (.if_icmp .gt 12, 3) := by decide +kernel
theorem dX6_readsNumber_106 : decode cX6_readsNumber 106 = .ok (.iload_n 3, 1) := by decide +kernel
theorem dX6_readsNumber_107 : decode cX6_readsNumber 107 = .ok (.iload_n 1, 1) := by decide +kernel
theorem dX6_readsNumber_108 : decode cX6_readsNumber 108 = .ok (.iload_n 2, 1) := by decide +kernel
theorem dX6_readsNumber_109 : decode cX6_readsNumber 109 = .ok (.invokestatic 82, 3) := by decide +kernel
theorem dX6_readsNumber_112 : decode cX6_readsNumber 112 = .ok (.ifCond .ne 15, 3) := by decide +kernel
theorem dX6_readsNumber_115 : decode cX6_readsNumber 115 = .ok (.aload_n 0, 1) := by decide +kernel
theorem dX6_readsNumber_116 : decode cX6_readsNumber 116 = .ok (.iconst 2, 1) := by decide +kernel
theorem dX6_readsNumber_117 : decode cX6_readsNumber 117 = .ok (.aload_n 0, 1) := by decide +kernel
theorem dX6_readsNumber_118 : decode cX6_readsNumber 118 = .ok (.getfield 109, 3) := by decide +kernel
theorem dX6_readsNumber_121 : decode cX6_readsNumber 121 = .ok (.invokevirtual 105, 3) := by decide +kernel
theorem dX6_readsNumber_124 : decode cX6_readsNumber 124 = .ok (.goto 4, 3) := by decide +kernel
theorem dX6_readsNumber_127 : decode cX6_readsNumber 127 = .ok (.iload_n 3, 1) := by decide +kernel
theorem dX6_readsNumber_128 : decode cX6_readsNumber 128 = .ok (.ireturn, 1) := by decide +kernel
set_option maxRecDepth 20000 in
theorem ggX6_readsSign_X6_nextLetter : GoodIn wsX6_readsSign wsX6_nextLetter := goodIn_r _ [6, 1, 7, 8, 9, 5, 10, 11, 12, 18, 19, 20, 21, 22, 23, 24, 25, 26, 27, 28, 29, 30, 31, 32, 33, 34, 35, 36, 37, 38, 39, 40, 41, 42, 43, 44, 45, 46, 47, 48, 49, 50, 51, 52, 53, 54, 55] (by decide +kernel) (by decide +kernel)
set_option maxRecDepth 20000 in
theorem gX6_readsSign_X6_nextLetter : GoodIn wsX6_readsSign (wsV RX6 101 RX6 yX6_nextLetter wsX6_nextLetter) := goodIn_app (goodIn_of _ (by decide +kernel)) ggX6_readsSign_X6_nextLetter
set_option maxRecDepth 20000 in
theorem ggX6_readsSign_X6_fails : GoodIn wsX6_readsSign wsX6_fails := goodIn_r _ [16, 17, 1, 18, 19, 20, 21, 22, 23, 24, 25, 26, 27, 28, 29, 30, 31, 32, 33, 34, 35, 36, 37, 38, 39, 40, 41, 42, 43, 44, 45, 46, 47, 48, 49, 50, 51, 52, 53, 54, 55] (by decide +kernel) (by decide +kernel)
set_option maxRecDepth 20000 in
theorem gX6_readsSign_X6_fails : GoodIn wsX6_readsSign (wsV RX6 105 RX6 yX6_fails wsX6_fails) := goodIn_app (goodIn_of _ (by decide +kernel)) ggX6_readsSign_X6_fails
theorem dX6_readsSign_0 : decode cX6_readsSign 0 = .ok (.aload_n 0, 1) := by decide +kernel
theorem dX6_readsSign_1 : decode cX6_readsSign 1 = .ok (.invokevirtual 101, 3) := by decide +kernel
theorem dX6_readsSign_4 : decode cX6_readsSign 4 = .ok (.iload_n 1, 1) := by decide +kernel
theorem dX6_readsSign_5 : decode cX6_readsSign 5 = .ok (.if_icmp .eq 15, 3) := by decide +kernel
theorem dX6_readsSign_8 : decode cX6_readsSign 8 = .ok (.aload_n 0, 1) := by decide +kernel
theorem dX6_readsSign_9 : decode cX6_readsSign 9 = .ok (.iconst 1, 1) := by decide +kernel
theorem dX6_readsSign_10 : decode cX6_readsSign 10 = .ok (.aload_n 0, 1) := by decide +kernel
theorem dX6_readsSign_11 : decode cX6_readsSign 11 = .ok (.getfield 91, 3) := by decide +kernel
theorem dX6_readsSign_14 : decode cX6_readsSign 14 = .ok (.invokevirtual 105, 3) := by decide +kernel
theorem dX6_readsSign_17 : decode cX6_readsSign 17 = .ok (.pop, 1) := by decide +kernel
theorem dX6_readsSign_18 : decode cX6_readsSign 18 = .ok (.iconst 0, 1) := by decide +kernel
theorem dX6_readsSign_19 : decode cX6_readsSign 19 = .ok (.ireturn, 1) := by decide +kernel
theorem dX6_readsSign_20 : decode cX6_readsSign 20 = .ok (.aload_n 0, 1) := by decide +kernel
theorem dX6_readsSign_21 : decode cX6_readsSign 21 = .ok (.dup, 1) := by decide +kernel
theorem dX6_readsSign_22 : decode cX6_readsSign 22 = .ok (.getfield 91, 3) := by decide +kernel
theorem dX6_readsSign_25 : decode cX6_readsSign 25 = .ok (.iconst 1, 1) := by decide +kernel
theorem dX6_readsSign_26 : decode cX6_readsSign 26 = .ok (.iadd, 1) := by decide +kernel
theorem dX6_readsSign_27 : decode cX6_readsSign 27 = .ok (.putfield 91, 3) := by decide +kernel
theorem dX6_readsSign_30 : decode cX6_readsSign 30 = .ok (.iconst 1, 1) := by decide +kernel
theorem dX6_readsSign_31 : decode cX6_readsSign 31 = .ok (.ireturn, 1) := by decide +kernel
set_option maxRecDepth 20000 in
theorem ggX6_readsLink_X6_readsNumber : GoodIn wsX6_readsLink wsX6_readsNumber := goodIn_r _ [12, 13, 3, 14, 15, 16, 11, 17, 18, 19, 20, 21, 22, 23, 24, 25, 26, 27, 28, 29, 30, 31, 36, 37, 38, 39, 40, 41, 42, 43, 44, 45, 46, 47, 48, 49, 50, 51, 52, 53, 54, 55, 56, 57, 58, 59, 60, 61, 62, 63, 64, 65, 66, 67, 68, 69, 70, 71, 72, 73] (by decide +kernel) (by decide +kernel)
set_option maxRecDepth 20000 in
theorem gX6_readsLink_X6_readsNumber : GoodIn wsX6_readsLink (wsV RX6 118 RX6 yX6_readsNumber wsX6_readsNumber) := goodIn_app (goodIn_of _ (by decide +kernel)) ggX6_readsLink_X6_readsNumber
set_option maxRecDepth 20000 in
theorem ggX6_readsLink_X6_fails : GoodIn wsX6_readsLink wsX6_fails := goodIn_r _ [30, 31, 13, 36, 37, 38, 39, 40, 41, 42, 43, 44, 45, 46, 47, 48, 49, 50, 51, 52, 53, 54, 55, 56, 57, 58, 59, 60, 61, 62, 63, 64, 65, 66, 67, 68, 69, 70, 71, 72, 73] (by decide +kernel) (by decide +kernel)
set_option maxRecDepth 20000 in
theorem gX6_readsLink_X6_fails : GoodIn wsX6_readsLink (wsV RX6 105 RX6 yX6_fails wsX6_fails) := goodIn_app (goodIn_of _ (by decide +kernel)) ggX6_readsLink_X6_fails
set_option maxRecDepth 20000 in
theorem ggX6_readsLink_X6_readsSign : GoodIn wsX6_readsLink wsX6_readsSign := goodIn_r _ [35, 13, 14, 15, 16, 11, 17, 18, 19, 20, 21, 22, 23, 27, 28, 29, 30, 31, 36, 37, 38, 39, 40, 41, 42, 43, 44, 45, 46, 47, 48, 49, 50, 51, 52, 53, 54, 55, 56, 57, 58, 59, 60, 61, 62, 63, 64, 65, 66, 67, 68, 69, 70, 71, 72, 73] (by decide +kernel) (by decide +kernel)
set_option maxRecDepth 20000 in
theorem gX6_readsLink_X6_readsSign : GoodIn wsX6_readsLink (wsV RX6 121 RX6 yX6_readsSign wsX6_readsSign) := goodIn_app (goodIn_of _ (by decide +kernel)) ggX6_readsLink_X6_readsSign
theorem dX6_readsLink_0 : decode cX6_readsLink 0 = .ok (.aload_n 0, 1) := by decide +kernel
theorem dX6_readsLink_1 : decode cX6_readsLink 1 = .ok (.getfield 112, 3) := by decide +kernel
theorem dX6_readsLink_4 : decode cX6_readsLink 4 = .ok (.istore_n 1, 1) := by decide +kernel
theorem dX6_readsLink_5 : decode cX6_readsLink 5 = .ok (.aload_n 0, 1) := by decide +kernel
theorem dX6_readsLink_6 : decode cX6_readsLink 6 = .ok (.iconst 0, 1) := by decide +kernel
theorem dX6_readsLink_7 : decode cX6_readsLink 7 = .ok (.aload_n 0, 1) := by decide +kernel
theorem dX6_readsLink_8 : decode cX6_readsLink 8 = .ok (.getfield 115, 3) := by decide +kernel
theorem dX6_readsLink_11 : decode cX6_readsLink 11 = .ok (.iconst 1, 1) := by decide +kernel
theorem dX6_readsLink_12 : decode cX6_readsLink 12 = .ok (.isub, 1) := by decide +kernel
theorem dX6_readsLink_13 : decode cX6_readsLink 13 = .ok (.invokevirtual 118, 3) := by decide +kernel
theorem dX6_readsLink_16 : decode cX6_readsLink 16 = .ok (.istore_n 2, 1) := by decide +kernel
theorem dX6_readsLink_17 : decode cX6_readsLink 17 = .ok (.iload_n 2, 1) := by decide +kernel
theorem dX6_readsLink_18 : decode cX6_readsLink 18 = .ok (.iconst (-1), 1) := by decide +kernel
theorem dX6_readsLink_19 : decode cX6_readsLink 19 = .ok (.if_icmp .ne 7, 3) := by decide +kernel
theorem dX6_readsLink_22 : decode cX6_readsLink 22 = .ok (.iconst (-1), 1) := by decide +kernel
theorem dX6_readsLink_23 : decode cX6_readsLink 23 = .ok (.goto 14, 3) := by decide +kernel
theorem dX6_readsLink_26 : decode cX6_readsLink 26 = .ok (.aload_n 0, 1) := by decide +kernel
theorem dX6_readsLink_27 : decode cX6_readsLink 27 = .ok (.iconst 0, 1) := by decide +kernel
theorem dX6_readsLink_28 : decode cX6_readsLink 28 = .ok (.aload_n 0, 1) := by decide +kernel
theorem dX6_readsLink_29 : decode cX6_readsLink 29 = .ok (.getfield 115, 3) := by decide +kernel
theorem dX6_readsLink_32 : decode cX6_readsLink 32 = .ok (.iconst 1, 1) := by decide +kernel
theorem dX6_readsLink_33 : decode cX6_readsLink 33 = .ok (.isub, 1) := by decide +kernel
