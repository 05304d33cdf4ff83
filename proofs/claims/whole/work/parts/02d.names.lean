theorem dX5_mend_29 : decode cX5_mend 29 = .ok (.getfield 39, 3) := by decide +kernel
theorem dX5_mend_32 : decode cX5_mend 32 = .ok (.aload_n 0, 1) := by decide +kernel
theorem dX5_mend_33 : decode cX5_mend 33 = .ok (.getfield 29, 3) := by decide +kernel
theorem dX5_mend_36 : decode cX5_mend 36 = .ok (.invokevirtual 185, 3) := by decide +kernel
theorem dX5_mend_39 : decode cX5_mend 39 = .ok (.aload_n 0, 1) := by decide +kernel
theorem dX5_mend_40 : decode cX5_mend 40 = .ok (.getfield 29, 3) := by decide +kernel
theorem dX5_mend_43 : decode cX5_mend 43 = .ok (.getfield 148, 3) := by decide +kernel
theorem dX5_mend_46 : decode cX5_mend 46 = .ok (.iload_n 1, 1) := by decide +kernel
theorem dX5_mend_47 : decode cX5_mend 47 = .ok (.iconst 0, 1) := by decide +kernel
theorem dX5_mend_48 : decode cX5_mend 48 = .ok (.iastore, 1) := by decide +kernel
theorem dX5_mend_49 : decode cX5_mend 49 = .ok (.aload_n 0, 1) := by decide +kernel
theorem dX5_mend_50 : decode cX5_mend 50 = .ok (.getfield 29, 3) := by decide +kernel
theorem dX5_mend_53 : decode cX5_mend 53 = .ok (.dup, 1) := by decide +kernel
theorem dX5_mend_54 : decode cX5_mend 54 = .ok (.getfield 104, 3) := by decide +kernel
theorem dX5_mend_57 : decode cX5_mend 57 = .ok (.iconst 1, 1) := by decide +kernel
theorem dX5_mend_58 : decode cX5_mend 58 = .ok (.isub, 1) := by decide +kernel
theorem dX5_mend_59 : decode cX5_mend 59 = .ok (.putfield 104, 3) := by decide +kernel
theorem dX5_mend_62 : decode cX5_mend 62 = .ok (.aload_n 0, 1) := by decide +kernel
theorem dX5_mend_63 : decode cX5_mend 63 = .ok (.getfield 29, 3) := by decide +kernel
theorem dX5_mend_66 : decode cX5_mend 66 = .ok (.getfield 104, 3) := by decide +kernel
theorem dX5_mend_69 : decode cX5_mend 69 = .ok (.ireturn, 1) := by decide +kernel
set_option maxRecDepth 20000 in
theorem ggX5_hold_X1_hasLink : GoodIn wsX5_hold wsX1_hasLink := goodIn_r _ [12, 13, 57, 58, 59, 60, 61, 62, 63, 64, 65, 66, 67, 68] (by decide +kernel) (by decide +kernel)
set_option maxRecDepth 20000 in
theorem gX5_hold_X1_hasLink : GoodIn wsX5_hold (wsV RX5 131 RX1 yX1_hasLink wsX1_hasLink) := goodIn_app (goodIn_of _ (by decide +kernel)) ggX5_hold_X1_hasLink
set_option maxRecDepth 20000 in
theorem ggX5_hold_X5_has : GoodIn wsX5_hold wsX5_has := goodIn_r _ [17] (by decide +kernel) (by decide +kernel)
set_option maxRecDepth 20000 in
theorem gX5_hold_X5_has : GoodIn wsX5_hold (va_wsS RX5 151 yX5_has wsX5_has) := goodIn_app (goodIn_of _ (by decide +kernel)) ggX5_hold_X5_has
set_option maxRecDepth 20000 in
theorem ggX5_hold_X2_note : GoodIn wsX5_hold wsX2_note := goodIn_r _ [22, 23, 24, 25, 26, 27, 28, 29, 30, 31, 32, 33, 34, 35, 36, 37, 38, 39, 40, 41, 42, 43, 44, 45, 76, 77, 78, 69, 70, 71, 72, 73, 74, 75] (by decide +kernel) (by decide +kernel)
set_option maxRecDepth 20000 in
theorem gX5_hold_X2_note : GoodIn wsX5_hold (wsV RX5 185 RX2 yX2_note wsX2_note) := goodIn_app (goodIn_of _ (by decide +kernel)) ggX5_hold_X2_note
theorem dX5_hold_0 : decode cX5_hold 0 = .ok (.aload_n 0, 1) := by decide +kernel
theorem dX5_hold_1 : decode cX5_hold 1 = .ok (.getfield 19, 3) := by decide +kernel
theorem dX5_hold_4 : decode cX5_hold 4 = .ok (.iload_n 1, 1) := by decide +kernel
theorem dX5_hold_5 : decode cX5_hold 5 = .ok (.invokevirtual 131, 3) := by decide +kernel
theorem dX5_hold_8 : decode cX5_hold 8 = .ok (.ifCond .ne 6, 3) := by decide +kernel
theorem dX5_hold_11 : decode cX5_hold 11 = .ok (.ldc 135, 2) := by decide +kernel
theorem dX5_hold_13 : decode cX5_hold 13 = .ok (.ireturn, 1) := by decide +kernel
theorem dX5_hold_14 : decode cX5_hold 14 = .ok (.aload_n 0, 1) := by decide +kernel
theorem dX5_hold_15 : decode cX5_hold 15 = .ok (.getfield 19, 3) := by decide +kernel
theorem dX5_hold_18 : decode cX5_hold 18 = .ok (.getfield 142, 3) := by decide +kernel
theorem dX5_hold_21 : decode cX5_hold 21 = .ok (.iload_n 1, 1) := by decide +kernel
theorem dX5_hold_22 : decode cX5_hold 22 = .ok (.iaload, 1) := by decide +kernel
theorem dX5_hold_23 : decode cX5_hold 23 = .ok (.iconst 3, 1) := by decide +kernel
theorem dX5_hold_24 : decode cX5_hold 24 = .ok (.if_icmp .eq 6, 3) := by decide +kernel
theorem dX5_hold_27 : decode cX5_hold 27 = .ok (.ldc 178, 2) := by decide +kernel
theorem dX5_hold_29 : decode cX5_hold 29 = .ok (.ireturn, 1) := by decide +kernel
theorem dX5_hold_30 : decode cX5_hold 30 = .ok (.aload_n 0, 1) := by decide +kernel
theorem dX5_hold_31 : decode cX5_hold 31 = .ok (.getfield 29, 3) := by decide +kernel
theorem dX5_hold_34 : decode cX5_hold 34 = .ok (.getfield 155, 3) := by decide +kernel
theorem dX5_hold_37 : decode cX5_hold 37 = .ok (.iload_n 1, 1) := by decide +kernel
theorem dX5_hold_38 : decode cX5_hold 38 = .ok (.invokestatic 151, 3) := by decide +kernel
theorem dX5_hold_41 : decode cX5_hold 41 = .ok (.ifCond .eq 7, 3) := by decide +kernel
theorem dX5_hold_44 : decode cX5_hold 44 = .ok (.iconst 1, 1) := by decide +kernel
theorem dX5_hold_45 : decode cX5_hold 45 = .ok (.goto 4, 3) := by decide +kernel
theorem dX5_hold_48 : decode cX5_hold 48 = .ok (.iconst 0, 1) := by decide +kernel
theorem dX5_hold_49 : decode cX5_hold 49 = .ok (.istore_n 3, 1) := by decide +kernel
theorem dX5_hold_50 : decode cX5_hold 50 = .ok (.aload_n 0, 1) := by decide +kernel
theorem dX5_hold_51 : decode cX5_hold 51 = .ok (.getfield 39, 3) := by decide +kernel
theorem dX5_hold_54 : decode cX5_hold 54 = .ok (.aload_n 0, 1) := by decide +kernel
theorem dX5_hold_55 : decode cX5_hold 55 = .ok (.getfield 29, 3) := by decide +kernel
theorem dX5_hold_58 : decode cX5_hold 58 = .ok (.invokevirtual 185, 3) := by decide +kernel
theorem dX5_hold_61 : decode cX5_hold 61 = .ok (.aload_n 0, 1) := by decide +kernel
theorem dX5_hold_62 : decode cX5_hold 62 = .ok (.getfield 29, 3) := by decide +kernel
theorem dX5_hold_65 : decode cX5_hold 65 = .ok (.iload_n 2, 1) := by decide +kernel
theorem dX5_hold_66 : decode cX5_hold 66 = .ok (.ifCond .eq 17, 3) := by decide +kernel
theorem dX5_hold_69 : decode cX5_hold 69 = .ok (.aload_n 0, 1) := by decide +kernel
theorem dX5_hold_70 : decode cX5_hold 70 = .ok (.getfield 29, 3) := by decide +kernel
theorem dX5_hold_73 : decode cX5_hold 73 = .ok (.getfield 155, 3) := by decide +kernel
theorem dX5_hold_76 : decode cX5_hold 76 = .ok (.iconst 1, 1) := by decide +kernel
theorem dX5_hold_77 : decode cX5_hold 77 = .ok (.iload_n 1, 1) := by decide +kernel
theorem dX5_hold_78 : decode cX5_hold 78 = .ok (.ishl, 1) := by decide +kernel
theorem dX5_hold_79 : decode cX5_hold 79 = .ok (.ior, 1) := by decide +kernel
theorem dX5_hold_80 : decode cX5_hold 80 = .ok (.goto 16, 3) := by decide +kernel
theorem dX5_hold_83 : decode cX5_hold 83 = .ok (.aload_n 0, 1) := by decide +kernel
theorem dX5_hold_84 : decode cX5_hold 84 = .ok (.getfield 29, 3) := by decide +kernel
theorem dX5_hold_87 : decode cX5_hold 87 = .ok (.getfield 155, 3) := by decide +kernel
theorem dX5_hold_90 : decode cX5_hold 90 = .ok (.iconst 1, 1) := by decide +kernel
theorem dX5_hold_91 : decode cX5_hold 91 = .ok (.iload_n 1, 1) := by decide +kernel
theorem dX5_hold_92 : decode cX5_hold 92 = .ok (.ishl, 1) := by decide +kernel
theorem dX5_hold_93 : decode cX5_hold 93 = .ok (.iconst (-1), 1) := by decide +kernel
theorem dX5_hold_94 : decode cX5_hold 94 = .ok (.ixor, 1) := by decide +kernel
theorem dX5_hold_95 : decode cX5_hold 95 = .ok (.iand, 1) := by decide +kernel
theorem dX5_hold_96 : decode cX5_hold 96 = .ok (.putfield 155, 3) := by decide +kernel
theorem dX5_hold_99 : decode cX5_hold 99 = .ok (.iload_n 3, 1) := by decide +kernel
theorem dX5_hold_100 : decode cX5_hold 100 = .ok (.ireturn, 1) := by decide +kernel
set_option maxRecDepth 20000 in
theorem ggX5_earn_X5_isWithin : GoodIn wsX5_earn wsX5_isWithin := goodIn_r _ [14] (by decide +kernel) (by decide +kernel)
set_option maxRecDepth 20000 in
theorem gX5_earn_X5_isWithin : GoodIn wsX5_earn (va_wsS RX5 64 yX5_isWithin wsX5_isWithin) := goodIn_app (goodIn_of _ (by decide +kernel)) ggX5_earn_X5_isWithin
set_option maxRecDepth 20000 in
theorem ggX5_earn_X1_isThere : GoodIn wsX5_earn wsX1_isThere := goodIn_r _ [19, 20, 64, 65, 66, 67, 68, 69, 70, 71, 72, 73, 74, 75] (by decide +kernel) (by decide +kernel)
set_option maxRecDepth 20000 in
theorem gX5_earn_X1_isThere : GoodIn wsX5_earn (wsV RX5 174 RX1 yX1_isThere wsX1_isThere) := goodIn_app (goodIn_of _ (by decide +kernel)) ggX5_earn_X1_isThere
set_option maxRecDepth 20000 in
theorem ggX5_earn_X2_note : GoodIn wsX5_earn wsX2_note := goodIn_r _ [25, 26, 27, 28, 29, 8, 9, 10, 30, 31, 32, 33, 34, 35, 36, 37, 38, 39, 40, 41, 42, 43, 44, 45, 76, 77, 78, 57, 58, 59, 60, 61, 62, 63] (by decide +kernel) (by decide +kernel)
set_option maxRecDepth 20000 in
theorem gX5_earn_X2_note : GoodIn wsX5_earn (wsV RX5 185 RX2 yX2_note wsX2_note) := goodIn_app (goodIn_of _ (by decide +kernel)) ggX5_earn_X2_note
theorem dX5_earn_0 : decode cX5_earn 0 = .ok (.iload_n 1, 1) := by decide +kernel
theorem dX5_earn_1 : decode cX5_earn 1 = .ok (.iconst 1, 1) := by decide +kernel
theorem dX5_earn_2 : decode cX5_earn 2 = .ok (.bipush 99, 2) := by decide +kernel
theorem dX5_earn_4 : decode cX5_earn 4 = .ok (.invokestatic 64, 3) := by decide +kernel
theorem dX5_earn_7 : decode cX5_earn 7 = .ok (.ifCond .ne 6, 3) := by decide +kernel
theorem dX5_earn_10 : decode cX5_earn 10 = .ok (.ldc 68, 2) := by decide +kernel
theorem dX5_earn_12 : decode cX5_earn 12 = .ok (.ireturn, 1) := by decide +kernel
theorem dX5_earn_13 : decode cX5_earn 13 = .ok (.aload_n 0, 1) := by decide +kernel
theorem dX5_earn_14 : decode cX5_earn 14 = .ok (.getfield 19, 3) := by decide +kernel
theorem dX5_earn_17 : decode cX5_earn 17 = .ok (.invokevirtual 174, 3) := by decide +kernel
theorem dX5_earn_20 : decode cX5_earn 20 = .ok (.ifCond .ne 6, 3) := by decide +kernel
theorem dX5_earn_23 : decode cX5_earn 23 = .ok (.ldc 178, 2) := by decide +kernel
theorem dX5_earn_25 : decode cX5_earn 25 = .ok (.ireturn, 1) := by decide +kernel
theorem dX5_earn_26 : decode cX5_earn 26 = .ok (.aload_n 0, 1) := by decide +kernel
theorem dX5_earn_27 : decode cX5_earn 27 = .ok (.getfield 39, 3) := by decide +kernel
theorem dX5_earn_30 : decode cX5_earn 30 = .ok (.aload_n 0, 1) := by decide +kernel
theorem dX5_earn_31 : decode cX5_earn 31 = .ok (.getfield 29, 3) := by decide +kernel
theorem dX5_earn_34 : decode cX5_earn 34 = .ok (.invokevirtual 185, 3) := by decide +kernel
theorem dX5_earn_37 : decode cX5_earn 37 = .ok (.aload_n 0, 1) := by decide +kernel
theorem dX5_earn_38 : decode cX5_earn 38 = .ok (.getfield 29, 3) := by decide +kernel
theorem dX5_earn_41 : decode cX5_earn 41 = .ok (.aload_n 0, 1) := by decide +kernel
theorem dX5_earn_42 : decode cX5_earn 42 = .ok (.getfield 29, 3) := by decide +kernel
theorem dX5_earn_45 : decode cX5_earn 45 = .ok (.getfield 104, 3) := by decide +kernel
theorem dX5_earn_48 : decode cX5_earn 48 = .ok (.iload_n 1, 1) := by decide +kernel
theorem dX5_earn_49 : decode cX5_earn 49 = .ok (.iadd, 1) := by decide +kernel
theorem dX5_earn_50 : decode cX5_earn 50 = .ok (.bipush 99, 2) := by decide +kernel
theorem dX5_earn_52 : decode cX5_earn 52 = .ok (.invokestatic 201, 3) := by decide +kernel
theorem dX5_earn_55 : decode cX5_earn 55 = .ok (.putfield 104, 3) := by decide +kernel
theorem dX5_earn_58 : decode cX5_earn 58 = .ok (.aload_n 0, 1) := by decide +kernel
theorem dX5_earn_59 : decode cX5_earn 59 = .ok (.getfield 29, 3) := by decide +kernel
theorem dX5_earn_62 : decode cX5_earn 62 = .ok (.getfield 104, 3) := by decide +kernel
theorem dX5_earn_65 : decode cX5_earn 65 = .ok (.ireturn, 1) := by decide +kernel
set_option maxRecDepth 20000 in
theorem ggX5_drift_X5_refusalOfHours : GoodIn wsX5_drift wsX5_refusalOfHours := goodIn_r _ [10, 11, 3, 12, 2, 13, 14, 15, 16, 17, 9, 18, 19, 20, 21, 22, 23, 24, 104, 105, 106, 107, 108, 109, 110, 111, 112, 113, 114, 127, 128, 129, 130, 131, 132, 133, 115, 116, 117, 118, 119, 120, 121, 122, 123, 124, 125, 126] (by decide +kernel) (by decide +kernel)
set_option maxRecDepth 20000 in
theorem gX5_drift_X5_refusalOfHours : GoodIn wsX5_drift (wsV RX5 182 RX5 yX5_refusalOfHours wsX5_refusalOfHours) := goodIn_app (goodIn_of _ (by decide +kernel)) ggX5_drift_X5_refusalOfHours
set_option maxRecDepth 20000 in
theorem ggX5_drift_X2_note : GoodIn wsX5_drift wsX2_note := goodIn_r _ [29, 30, 31, 32, 33, 34, 35, 36, 37, 38, 39, 40, 41, 42, 43, 44, 45, 46, 47, 48, 49, 50, 51, 52, 134, 135, 136, 127, 128, 129, 130, 131, 132, 133] (by decide +kernel) (by decide +kernel)
set_option maxRecDepth 20000 in
theorem gX5_drift_X2_note : GoodIn wsX5_drift (wsV RX5 185 RX2 yX2_note wsX2_note) := goodIn_app (goodIn_of _ (by decide +kernel)) ggX5_drift_X2_note
set_option maxRecDepth 20000 in
theorem ggX5_drift_X5_drawDeed : GoodIn wsX5_drift wsX5_drawDeed := goodIn_r _ [56, 3, 4, 2, 5, 57, 58, 59, 60, 9, 61, 62, 63, 64, 65, 66, 67, 68, 69, 40, 70, 47, 71, 72, 73, 74, 75, 76, 77, 42, 104, 105, 106, 107, 108, 109, 110, 111, 112, 113, 114, 115, 116, 117, 118, 119, 120, 121, 122, 123, 124, 125, 126, 127, 128, 129, 130, 131, 132, 133] (by decide +kernel) (by decide +kernel)
set_option maxRecDepth 20000 in
theorem gX5_drift_X5_drawDeed : GoodIn wsX5_drift (wsV RX5 206 RX5 yX5_drawDeed wsX5_drawDeed) := goodIn_app (goodIn_of _ (by decide +kernel)) ggX5_drift_X5_drawDeed
set_option maxRecDepth 20000 in
theorem ggX5_drift_X0_passHour : GoodIn wsX5_drift wsX0_passHour := goodIn_r _ [81, 50, 82, 47, 42, 83, 49, 84, 34, 35, 36, 52, 85, 86, 87, 22, 88, 89, 90, 71, 9, 72, 91, 92, 40, 93, 94, 95, 96, 73, 74, 75, 76, 77, 97, 98, 99, 100, 101, 102, 103, 127, 128, 129, 130, 131, 132, 133, 115, 116, 117, 118, 119, 120, 121, 122, 123, 124, 125, 126] (by decide +kernel) (by decide +kernel)
set_option maxRecDepth 20000 in
theorem gX5_drift_X0_passHour : GoodIn wsX5_drift (wsV RX5 189 RX0 yX0_passHour wsX0_passHour) := goodIn_app (goodIn_of _ (by decide +kernel)) ggX5_drift_X0_passHour
theorem dX5_drift_0 : decode cX5_drift 0 = .ok (.aload_n 0, 1) := by decide +kernel
theorem dX5_drift_1 : decode cX5_drift 1 = .ok (.iload_n 1, 1) := by decide +kernel
theorem dX5_drift_2 : decode cX5_drift 2 = .ok (.invokevirtual 182, 3) := by decide +kernel
theorem dX5_drift_5 : decode cX5_drift 5 = .ok (.istore_n 2, 1) := by decide +kernel
theorem dX5_drift_6 : decode cX5_drift 6 = .ok (.iload_n 2, 1) := by decide +kernel
theorem dX5_drift_7 : decode cX5_drift 7 = .ok (.ifCond .eq 5, 3) := by decide +kernel
theorem dX5_drift_10 : decode cX5_drift 10 = .ok (.iload_n 2, 1) := by decide +kernel
theorem dX5_drift_11 : decode cX5_drift 11 = .ok (.ireturn, 1) := by decide +kernel
theorem dX5_drift_12 : decode cX5_drift 12 = .ok (.iconst 0, 1) := by decide +kernel
theorem dX5_drift_13 : decode cX5_drift 13 = .ok (.istore_n 3, 1) := by decide +kernel
theorem dX5_drift_14 : decode cX5_drift 14 = .ok (.iload_n 3, 1) := by decide +kernel
theorem dX5_drift_15 : decode cX5_drift 15 = .ok (.iload_n 1, 1) := by decide +kernel
theorem dX5_drift_16 : decode cX5_drift 16 = .ok (.if_icmp .ge 46, 3) := by decide +kernel
theorem dX5_drift_19 : decode cX5_drift 19 = .ok (.aload_n 0, 1) := by decide +kernel
theorem dX5_drift_20 : decode cX5_drift 20 = .ok (.getfield 39, 3) := by decide +kernel
theorem dX5_drift_23 : decode cX5_drift 23 = .ok (.aload_n 0, 1) := by decide +kernel
theorem dX5_drift_24 : decode cX5_drift 24 = .ok (.getfield 29, 3) := by decide +kernel
theorem dX5_drift_27 : decode cX5_drift 27 = .ok (.invokevirtual 185, 3) := by decide +kernel
theorem dX5_drift_30 : decode cX5_drift 30 = .ok (.aload_n 0, 1) := by decide +kernel
theorem dX5_drift_31 : decode cX5_drift 31 = .ok (.getfield 19, 3) := by decide +kernel
theorem dX5_drift_34 : decode cX5_drift 34 = .ok (.getfield 89, 3) := by decide +kernel
theorem dX5_drift_37 : decode cX5_drift 37 = .ok (.ifCond .le 7, 3) := by decide +kernel
theorem dX5_drift_40 : decode cX5_drift 40 = .ok (.aload_n 0, 1) := by decide +kernel
theorem dX5_drift_41 : decode cX5_drift 41 = .ok (.invokevirtual 206, 3) := by decide +kernel
theorem dX5_drift_44 : decode cX5_drift 44 = .ok (.aload_n 0, 1) := by decide +kernel
theorem dX5_drift_45 : decode cX5_drift 45 = .ok (.getfield 29, 3) := by decide +kernel
theorem dX5_drift_48 : decode cX5_drift 48 = .ok (.aload_n 0, 1) := by decide +kernel
theorem dX5_drift_49 : decode cX5_drift 49 = .ok (.getfield 19, 3) := by decide +kernel
theorem dX5_drift_52 : decode cX5_drift 52 = .ok (.invokevirtual 189, 3) := by decide +kernel
theorem dX5_drift_55 : decode cX5_drift 55 = .ok (.pop, 1) := by decide +kernel
theorem dX5_drift_56 : decode cX5_drift 56 = .ok (.iinc 3 1, 3) := by decide +kernel
theorem dX5_drift_59 : decode cX5_drift 59 = .ok (.goto (-45), 3) := by decide +kernel
theorem dX5_drift_62 : decode cX5_drift 62 = .ok (.aload_n 0, 1) := by decide +kernel
theorem dX5_drift_63 : decode cX5_drift 63 = .ok (.getfield 29, 3) := by decide +kernel
theorem dX5_drift_66 : decode cX5_drift 66 = .ok (.getfield 110, 3) := by decide +kernel
theorem dX5_drift_69 : decode cX5_drift 69 = .ok (.ireturn, 1) := by decide +kernel
set_option maxRecDepth 20000 in
theorem ggX5_undo_X5_isWithin : GoodIn wsX5_undo wsX5_isWithin := goodIn_r _ [10] (by decide +kernel) (by decide +kernel)
set_option maxRecDepth 20000 in
theorem gX5_undo_X5_isWithin : GoodIn wsX5_undo (va_wsS RX5 64 yX5_isWithin wsX5_isWithin) := goodIn_app (goodIn_of _ (by decide +kernel)) ggX5_undo_X5_isWithin
set_option maxRecDepth 20000 in
theorem ggX5_undo_X2_takeBack : GoodIn wsX5_undo wsX2_takeBack := goodIn_r _ [15, 16, 17, 18, 19, 20, 21, 22, 23, 24, 25, 26, 27, 28, 29, 30, 31, 32, 33, 34, 46, 47, 48, 49, 50, 51, 52, 53, 54, 55] (by decide +kernel) (by decide +kernel)
set_option maxRecDepth 20000 in
theorem gX5_undo_X2_takeBack : GoodIn wsX5_undo (wsV RX5 209 RX2 yX2_takeBack wsX2_takeBack) := goodIn_app (goodIn_of _ (by decide +kernel)) ggX5_undo_X2_takeBack
theorem dX5_undo_0 : decode cX5_undo 0 = .ok (.iload_n 1, 1) := by decide +kernel
theorem dX5_undo_1 : decode cX5_undo 1 = .ok (.iconst 1, 1) := by decide +kernel
theorem dX5_undo_2 : decode cX5_undo 2 = .ok (.bipush 30, 2) := by decide +kernel
theorem dX5_undo_4 : decode cX5_undo 4 = .ok (.invokestatic 64, 3) := by decide +kernel
theorem dX5_undo_7 : decode cX5_undo 7 = .ok (.ifCond .ne 6, 3) := by decide +kernel
theorem dX5_undo_10 : decode cX5_undo 10 = .ok (.ldc 68, 2) := by decide +kernel
theorem dX5_undo_12 : decode cX5_undo 12 = .ok (.ireturn, 1) := by decide +kernel
theorem dX5_undo_13 : decode cX5_undo 13 = .ok (.iload_n 1, 1) := by decide +kernel
theorem dX5_undo_14 : decode cX5_undo 14 = .ok (.aload_n 0, 1) := by decide +kernel
theorem dX5_undo_15 : decode cX5_undo 15 = .ok (.getfield 39, 3) := by decide +kernel
theorem dX5_undo_18 : decode cX5_undo 18 = .ok (.getfield 130, 3) := by decide +kernel
theorem dX5_undo_21 : decode cX5_undo 21 = .ok (.if_icmp .le 6, 3) := by decide +kernel
theorem dX5_undo_24 : decode cX5_undo 24 = .ok (.ldc 178, 2) := by decide +kernel
theorem dX5_undo_26 : decode cX5_undo 26 = .ok (.ireturn, 1) := by decide +kernel
theorem dX5_undo_27 : decode cX5_undo 27 = .ok (.aload_n 0, 1) := by decide +kernel
theorem dX5_undo_28 : decode cX5_undo 28 = .ok (.getfield 39, 3) := by decide +kernel
theorem dX5_undo_31 : decode cX5_undo 31 = .ok (.iload_n 1, 1) := by decide +kernel
theorem dX5_undo_32 : decode cX5_undo 32 = .ok (.aload_n 0, 1) := by decide +kernel
theorem dX5_undo_33 : decode cX5_undo 33 = .ok (.getfield 29, 3) := by decide +kernel
theorem dX5_undo_36 : decode cX5_undo 36 = .ok (.invokevirtual 209, 3) := by decide +kernel
theorem dX5_undo_39 : decode cX5_undo 39 = .ok (.aload_n 0, 1) := by decide +kernel
theorem dX5_undo_40 : decode cX5_undo 40 = .ok (.getfield 29, 3) := by decide +kernel
theorem dX5_undo_43 : decode cX5_undo 43 = .ok (.getfield 101, 3) := by decide +kernel
theorem dX5_undo_46 : decode cX5_undo 46 = .ok (.ireturn, 1) := by decide +kernel
set_option maxRecDepth 20000 in
theorem ggX5_lasts_X1_hasLink : GoodIn wsX5_lasts wsX1_hasLink := goodIn_r _ [7, 8, 79, 80, 81, 82, 83, 84, 85, 86, 87, 88, 89, 90] (by decide +kernel) (by decide +kernel)
set_option maxRecDepth 20000 in
theorem gX5_lasts_X1_hasLink : GoodIn wsX5_lasts (wsV RX5 131 RX1 yX1_hasLink wsX1_hasLink) := goodIn_app (goodIn_of _ (by decide +kernel)) ggX5_lasts_X1_hasLink
set_option maxRecDepth 20000 in
theorem ggX5_lasts_X5_hoursUntilBreak : GoodIn wsX5_lasts wsX5_hoursUntilBreak := goodIn_r _ [13, 14, 15, 1, 16, 17, 18, 19, 20, 21, 22, 23, 24, 25, 26, 27, 28, 29, 30, 31, 32, 33, 34, 35, 36, 37, 38, 39, 40, 41, 42, 43, 44, 6, 45, 46, 47, 48, 12, 49, 50, 51, 52, 53, 54, 55, 56, 57, 58, 59, 60, 61, 62, 63, 64, 65, 66, 67, 68, 69, 70, 71, 72, 73, 74, 75, 76, 77, 78, 91, 92, 93, 94, 95, 96, 97, 79, 80, 81, 82, 83, 84, 85, 86, 87, 88, 89, 90] (by decide +kernel) (by decide +kernel)
set_option maxRecDepth 20000 in
theorem gX5_lasts_X5_hoursUntilBreak : GoodIn wsX5_lasts (wsV RX5 213 RX5 yX5_hoursUntilBreak wsX5_hoursUntilBreak) := goodIn_app (goodIn_of _ (by decide +kernel)) ggX5_lasts_X5_hoursUntilBreak
theorem dX5_lasts_0 : decode cX5_lasts 0 = .ok (.aload_n 0, 1) := by decide +kernel
theorem dX5_lasts_1 : decode cX5_lasts 1 = .ok (.getfield 19, 3) := by decide +kernel
theorem dX5_lasts_4 : decode cX5_lasts 4 = .ok (.iload_n 1, 1) := by decide +kernel
theorem dX5_lasts_5 : decode cX5_lasts 5 = .ok (.invokevirtual 131, 3) := by decide +kernel
theorem dX5_lasts_8 : decode cX5_lasts 8 = .ok (.ifCond .ne 6, 3) := by decide +kernel
theorem dX5_lasts_11 : decode cX5_lasts 11 = .ok (.ldc 135, 2) := by decide +kernel
theorem dX5_lasts_13 : decode cX5_lasts 13 = .ok (.ireturn, 1) := by decide +kernel
theorem dX5_lasts_14 : decode cX5_lasts 14 = .ok (.aload_n 0, 1) := by decide +kernel
theorem dX5_lasts_15 : decode cX5_lasts 15 = .ok (.iconst 1, 1) := by decide +kernel
theorem dX5_lasts_16 : decode cX5_lasts 16 = .ok (.iload_n 1, 1) := by decide +kernel
theorem dX5_lasts_17 : decode cX5_lasts 17 = .ok (.ishl, 1) := by decide +kernel
theorem dX5_lasts_18 : decode cX5_lasts 18 = .ok (.invokevirtual 213, 3) := by decide +kernel
theorem dX5_lasts_21 : decode cX5_lasts 21 = .ok (.ireturn, 1) := by decide +kernel
set_option maxRecDepth 20000 in
theorem ggX5_first_X5_isWithin : GoodIn wsX5_first wsX5_isWithin := goodIn_r _ [7] (by decide +kernel) (by decide +kernel)
set_option maxRecDepth 20000 in
theorem gX5_first_X5_isWithin : GoodIn wsX5_first (va_wsS RX5 64 yX5_isWithin wsX5_isWithin) := goodIn_app (goodIn_of _ (by decide +kernel)) ggX5_first_X5_isWithin
set_option maxRecDepth 20000 in
theorem ggX5_first_X5_hoursUntilBreak : GoodIn wsX5_first wsX5_hoursUntilBreak := goodIn_r _ [11, 12, 2, 13, 14, 15, 16, 17, 18, 19, 20, 21, 22, 23, 24, 25, 26, 27, 28, 29, 30, 31, 32, 33, 34, 35, 36, 37, 38, 39, 40, 41, 42, 43, 44, 45, 46, 47, 6, 48, 49, 50, 51, 52, 53, 54, 55, 56, 57, 58, 59, 60, 61, 62, 63, 64, 65, 66, 82, 83, 84, 85, 86, 87, 88, 89, 90, 91, 92, 93, 94, 95, 96, 97, 98, 99, 100, 101, 102, 103, 104, 105, 106, 107, 108, 109, 110, 111] (by decide +kernel) (by decide +kernel)
set_option maxRecDepth 20000 in
theorem gX5_first_X5_hoursUntilBreak : GoodIn wsX5_first (wsV RX5 213 RX5 yX5_hoursUntilBreak wsX5_hoursUntilBreak) := goodIn_app (goodIn_of _ (by decide +kernel)) ggX5_first_X5_hoursUntilBreak
set_option maxRecDepth 20000 in
theorem ggX5_first_X5_doneUpBehind : GoodIn wsX5_first wsX5_doneUpBehind := goodIn_r _ [70, 12, 2, 14, 15, 16, 17, 18, 19, 20, 21, 22, 23, 24, 25, 26, 27, 28, 29, 71, 72, 73, 6, 74, 13, 3, 30, 31, 32, 33, 34, 35, 36, 37, 38, 39, 40, 41, 42, 43, 44, 45, 46, 47, 48, 49, 50, 51, 52, 53, 54, 55, 56, 57, 58, 59, 60, 61, 62, 63, 64, 65, 66, 82, 83, 84, 85, 86, 87, 88, 89, 90, 91, 92, 93, 94, 95, 96, 97, 98, 99, 100, 101, 102, 103, 104, 105, 106, 107, 108, 109, 110, 111] (by decide +kernel) (by decide +kernel)
set_option maxRecDepth 20000 in
theorem gX5_first_X5_doneUpBehind : GoodIn wsX5_first (wsV RX5 216 RX5 yX5_doneUpBehind wsX5_doneUpBehind) := goodIn_app (goodIn_of _ (by decide +kernel)) ggX5_first_X5_doneUpBehind
set_option maxRecDepth 20000 in
theorem ggX5_first_X5_leastOf : GoodIn wsX5_first wsX5_leastOf := goodIn_r _ [77, 78, 79, 62, 80, 81] (by decide +kernel) (by decide +kernel)
set_option maxRecDepth 20000 in
theorem gX5_first_X5_leastOf : GoodIn wsX5_first (va_wsS RX5 219 yX5_leastOf wsX5_leastOf) := goodIn_app (goodIn_of _ (by decide +kernel)) ggX5_first_X5_leastOf
theorem dX5_first_0 : decode cX5_first 0 = .ok (.iload_n 1, 1) := by decide +kernel
theorem dX5_first_1 : decode cX5_first 1 = .ok (.iconst 0, 1) := by decide +kernel
theorem dX5_first_2 : decode cX5_first 2 = .ok (.iconst 1, 1) := by decide +kernel
theorem dX5_first_3 : decode cX5_first 3 = .ok (.invokestatic 64, 3) := by decide +kernel
theorem dX5_first_6 : decode cX5_first 6 = .ok (.ifCond .ne 6, 3) := by decide +kernel
theorem dX5_first_9 : decode cX5_first 9 = .ok (.ldc 68, 2) := by decide +kernel
theorem dX5_first_11 : decode cX5_first 11 = .ok (.ireturn, 1) := by decide +kernel
theorem dX5_first_12 : decode cX5_first 12 = .ok (.aload_n 0, 1) := by decide +kernel
theorem dX5_first_13 : decode cX5_first 13 = .ok (.aload_n 0, 1) := by decide +kernel
theorem dX5_first_14 : decode cX5_first 14 = .ok (.getfield 29, 3) := by decide +kernel
theorem dX5_first_17 : decode cX5_first 17 = .ok (.getfield 110, 3) := by decide +kernel
theorem dX5_first_20 : decode cX5_first 20 = .ok (.invokevirtual 213, 3) := by decide +kernel
theorem dX5_first_23 : decode cX5_first 23 = .ok (.istore_n 2, 1) := by decide +kernel
theorem dX5_first_24 : decode cX5_first 24 = .ok (.iload_n 2, 1) := by decide +kernel
theorem dX5_first_25 : decode cX5_first 25 = .ok (.iconst (-1), 1) := by decide +kernel
theorem dX5_first_26 : decode cX5_first 26 = .ok (.if_icmp .eq 8, 3) := by decide +kernel
theorem dX5_first_29 : decode cX5_first 29 = .ok (.iload_n 1, 1) := by decide +kernel
theorem dX5_first_30 : decode cX5_first 30 = .ok (.iconst 1, 1) := by decide +kernel
theorem dX5_first_31 : decode cX5_first 31 = .ok (.if_icmp .ne 5, 3) := by decide +kernel
theorem dX5_first_34 : decode cX5_first 34 = .ok (.iload_n 2, 1) := by decide +kernel
theorem dX5_first_35 : decode cX5_first 35 = .ok (.ireturn, 1) := by decide +kernel
theorem dX5_first_36 : decode cX5_first 36 = .ok (.aload_n 0, 1) := by decide +kernel
theorem dX5_first_37 : decode cX5_first 37 = .ok (.getfield 29, 3) := by decide +kernel
theorem dX5_first_40 : decode cX5_first 40 = .ok (.getfield 110, 3) := by decide +kernel
theorem dX5_first_43 : decode cX5_first 43 = .ok (.aload_n 0, 1) := by decide +kernel
theorem dX5_first_44 : decode cX5_first 44 = .ok (.iload_n 2, 1) := by decide +kernel
theorem dX5_first_45 : decode cX5_first 45 = .ok (.invokevirtual 216, 3) := by decide +kernel
theorem dX5_first_48 : decode cX5_first 48 = .ok (.iconst (-1), 1) := by decide +kernel
theorem dX5_first_49 : decode cX5_first 49 = .ok (.ixor, 1) := by decide +kernel
theorem dX5_first_50 : decode cX5_first 50 = .ok (.iand, 1) := by decide +kernel
theorem dX5_first_51 : decode cX5_first 51 = .ok (.invokestatic 219, 3) := by decide +kernel
theorem dX5_first_54 : decode cX5_first 54 = .ok (.ireturn, 1) := by decide +kernel
set_option maxRecDepth 20000 in
theorem ggX5_still_X5_isWithin : GoodIn wsX5_still wsX5_isWithin := goodIn_r _ [5] (by decide +kernel) (by decide +kernel)
set_option maxRecDepth 20000 in
theorem gX5_still_X5_isWithin : GoodIn wsX5_still (va_wsS RX5 64 yX5_isWithin wsX5_isWithin) := goodIn_app (goodIn_of _ (by decide +kernel)) ggX5_still_X5_isWithin
set_option maxRecDepth 20000 in
theorem ggX5_still_X5_doneUpBehind : GoodIn wsX5_still wsX5_doneUpBehind := goodIn_r _ [9, 10, 11, 12, 13, 14, 15, 16, 17, 18, 19, 20, 21, 22, 23, 24, 25, 26, 27, 28, 29, 30, 4, 31, 32, 33, 34, 35, 36, 37, 38, 39, 40, 41, 42, 43, 44, 45, 46, 47, 48, 49, 50, 51, 52, 53, 54, 55, 56, 57, 58, 59, 60, 61, 62, 63, 64, 65, 66, 67, 68, 69, 70, 71, 72, 73, 74, 75, 76, 77, 78, 79, 80, 81, 82, 83, 84, 85, 86, 87, 88, 89, 90, 91, 92, 93, 94, 95, 96, 97, 98, 99, 100] (by decide +kernel) (by decide +kernel)
set_option maxRecDepth 20000 in
theorem gX5_still_X5_doneUpBehind : GoodIn wsX5_still (wsV RX5 216 RX5 yX5_doneUpBehind wsX5_doneUpBehind) := goodIn_app (goodIn_of _ (by decide +kernel)) ggX5_still_X5_doneUpBehind
theorem dX5_still_0 : decode cX5_still 0 = .ok (.iload_n 1, 1) := by decide +kernel
theorem dX5_still_1 : decode cX5_still 1 = .ok (.iconst 0, 1) := by decide +kernel
theorem dX5_still_2 : decode cX5_still 2 = .ok (.bipush 60, 2) := by decide +kernel
theorem dX5_still_4 : decode cX5_still 4 = .ok (.invokestatic 64, 3) := by decide +kernel
theorem dX5_still_7 : decode cX5_still 7 = .ok (.ifCond .ne 6, 3) := by decide +kernel
theorem dX5_still_10 : decode cX5_still 10 = .ok (.ldc 68, 2) := by decide +kernel
theorem dX5_still_12 : decode cX5_still 12 = .ok (.ireturn, 1) := by decide +kernel
theorem dX5_still_13 : decode cX5_still 13 = .ok (.aload_n 0, 1) := by decide +kernel
theorem dX5_still_14 : decode cX5_still 14 = .ok (.iload_n 1, 1) := by decide +kernel
theorem dX5_still_15 : decode cX5_still 15 = .ok (.invokevirtual 216, 3) := by decide +kernel
theorem dX5_still_18 : decode cX5_still 18 = .ok (.ireturn, 1) := by decide +kernel
set_option maxRecDepth 20000 in
theorem ggX5_parts_X5_isWithin : GoodIn wsX5_parts wsX5_isWithin := goodIn_r _ [6] (by decide +kernel) (by decide +kernel)
set_option maxRecDepth 20000 in
theorem gX5_parts_X5_isWithin : GoodIn wsX5_parts (va_wsS RX5 64 yX5_isWithin wsX5_isWithin) := goodIn_app (goodIn_of _ (by decide +kernel)) ggX5_parts_X5_isWithin
set_option maxRecDepth 20000 in
theorem ggX5_parts_X5_doneUpBehind : GoodIn wsX5_parts wsX5_doneUpBehind := goodIn_r _ [10, 11, 12, 13, 14, 15, 16, 17, 18, 19, 20, 21, 22, 23, 24, 25, 26, 27, 28, 29, 30, 31, 5, 32, 2, 33, 34, 35, 36, 37, 38, 39, 40, 41, 42, 43, 44, 45, 46, 47, 48, 49, 50, 51, 52, 53, 54, 55, 56, 57, 58, 59, 60, 61, 62, 63, 64, 65, 66, 67, 68, 69, 70, 86, 87, 88, 89, 90, 91, 92, 93, 94, 95, 96, 97, 98, 99, 100, 101, 102, 103, 104, 105, 106, 107, 108, 109, 110, 111, 112, 113, 114, 115] (by decide +kernel) (by decide +kernel)
set_option maxRecDepth 20000 in
theorem gX5_parts_X5_doneUpBehind : GoodIn wsX5_parts (wsV RX5 216 RX5 yX5_doneUpBehind wsX5_doneUpBehind) := goodIn_app (goodIn_of _ (by decide +kernel)) ggX5_parts_X5_doneUpBehind
set_option maxRecDepth 20000 in
theorem ggX5_parts_X1_partsBy : GoodIn wsX5_parts wsX1_partsBy := goodIn_r _ [74, 75, 51, 5, 52, 76, 77, 78, 47, 79, 80, 81, 82, 83, 84, 85, 104, 105, 106, 107, 108, 109, 110, 111, 112, 113, 114, 115] (by decide +kernel) (by decide +kernel)
set_option maxRecDepth 20000 in
theorem gX5_parts_X1_partsBy : GoodIn wsX5_parts (wsV RX5 222 RX1 yX1_partsBy wsX1_partsBy) := goodIn_app (goodIn_of _ (by decide +kernel)) ggX5_parts_X1_partsBy
theorem dX5_parts_0 : decode cX5_parts 0 = .ok (.iload_n 1, 1) := by decide +kernel
theorem dX5_parts_1 : decode cX5_parts 1 = .ok (.iconst 0, 1) := by decide +kernel
theorem dX5_parts_2 : decode cX5_parts 2 = .ok (.bipush 60, 2) := by decide +kernel
theorem dX5_parts_4 : decode cX5_parts 4 = .ok (.invokestatic 64, 3) := by decide +kernel
theorem dX5_parts_7 : decode cX5_parts 7 = .ok (.ifCond .ne 6, 3) := by decide +kernel
theorem dX5_parts_10 : decode cX5_parts 10 = .ok (.ldc 68, 2) := by decide +kernel
theorem dX5_parts_12 : decode cX5_parts 12 = .ok (.ireturn, 1) := by decide +kernel
theorem dX5_parts_13 : decode cX5_parts 13 = .ok (.aload_n 0, 1) := by decide +kernel
theorem dX5_parts_14 : decode cX5_parts 14 = .ok (.getfield 19, 3) := by decide +kernel
theorem dX5_parts_17 : decode cX5_parts 17 = .ok (.aload_n 0, 1) := by decide +kernel
theorem dX5_parts_18 : decode cX5_parts 18 = .ok (.iload_n 1, 1) := by decide +kernel
theorem dX5_parts_19 : decode cX5_parts 19 = .ok (.invokevirtual 216, 3) := by decide +kernel
theorem dX5_parts_22 : decode cX5_parts 22 = .ok (.invokevirtual 222, 3) := by decide +kernel
theorem dX5_parts_25 : decode cX5_parts 25 = .ok (.ireturn, 1) := by decide +kernel
set_option maxRecDepth 20000 in
theorem ggX5_together_X1_hasIsland : GoodIn wsX5_together wsX1_hasIsland := goodIn_r _ [9, 10, 42, 43, 44, 45, 46, 47, 48, 49, 50, 51, 52, 53] (by decide +kernel) (by decide +kernel)
set_option maxRecDepth 20000 in
theorem gX5_together_X1_hasIsland : GoodIn wsX5_together (wsV RX5 164 RX1 yX1_hasIsland wsX1_hasIsland) := goodIn_app (goodIn_of _ (by decide +kernel)) ggX5_together_X1_hasIsland
set_option maxRecDepth 20000 in
theorem ggX5_together_X1_reach : GoodIn wsX5_together wsX1_reach := goodIn_r _ [14, 10, 15, 16, 17, 8, 18, 19, 20, 21, 22, 23, 42, 43, 44, 45, 46, 47, 48, 49, 50, 51, 52, 53] (by decide +kernel) (by decide +kernel)
set_option maxRecDepth 20000 in
theorem gX5_together_X1_reach : GoodIn wsX5_together (wsV RX5 225 RX1 yX1_reach wsX1_reach) := goodIn_app (goodIn_of _ (by decide +kernel)) ggX5_together_X1_reach
theorem dX5_together_0 : decode cX5_together 0 = .ok (.aload_n 0, 1) := by decide +kernel
theorem dX5_together_1 : decode cX5_together 1 = .ok (.getfield 19, 3) := by decide +kernel
theorem dX5_together_4 : decode cX5_together 4 = .ok (.iload_n 1, 1) := by decide +kernel
theorem dX5_together_5 : decode cX5_together 5 = .ok (.invokevirtual 164, 3) := by decide +kernel
theorem dX5_together_8 : decode cX5_together 8 = .ok (.ifCond .ne 6, 3) := by decide +kernel
theorem dX5_together_11 : decode cX5_together 11 = .ok (.ldc 135, 2) := by decide +kernel
theorem dX5_together_13 : decode cX5_together 13 = .ok (.ireturn, 1) := by decide +kernel
theorem dX5_together_14 : decode cX5_together 14 = .ok (.aload_n 0, 1) := by decide +kernel
theorem dX5_together_15 : decode cX5_together 15 = .ok (.getfield 19, 3) := by decide +kernel
theorem dX5_together_18 : decode cX5_together 18 = .ok (.iload_n 1, 1) := by decide +kernel
theorem dX5_together_19 : decode cX5_together 19 = .ok (.aload_n 0, 1) := by decide +kernel
theorem dX5_together_20 : decode cX5_together 20 = .ok (.getfield 29, 3) := by decide +kernel
theorem dX5_together_23 : decode cX5_together 23 = .ok (.getfield 110, 3) := by decide +kernel
theorem dX5_together_26 : decode cX5_together 26 = .ok (.invokevirtual 225, 3) := by decide +kernel
theorem dX5_together_29 : decode cX5_together 29 = .ok (.ireturn, 1) := by decide +kernel
set_option maxRecDepth 20000 in
theorem ggX5_between_X5_areTwoIslands : GoodIn wsX5_between wsX5_areTwoIslands := goodIn_r _ [7, 8, 9, 10, 11, 12, 13, 14, 51, 52, 53, 54, 55, 56, 57, 58, 59, 60, 61, 62, 63, 64, 65, 66, 67, 68, 69, 70, 71, 72, 73] (by decide +kernel) (by decide +kernel)
set_option maxRecDepth 20000 in
theorem gX5_between_X5_areTwoIslands : GoodIn wsX5_between (wsV RX5 228 RX5 yX5_areTwoIslands wsX5_areTwoIslands) := goodIn_app (goodIn_of _ (by decide +kernel)) ggX5_between_X5_areTwoIslands
set_option maxRecDepth 20000 in
theorem ggX5_between_X5_isWithin : GoodIn wsX5_between wsX5_isWithin := goodIn_r _ [17] (by decide +kernel) (by decide +kernel)
set_option maxRecDepth 20000 in
theorem gX5_between_X5_isWithin : GoodIn wsX5_between (va_wsS RX5 64 yX5_isWithin wsX5_isWithin) := goodIn_app (goodIn_of _ (by decide +kernel)) ggX5_between_X5_isWithin
set_option maxRecDepth 20000 in
theorem ggX5_between_X5_fewestToPart : GoodIn wsX5_between wsX5_fewestToPart := goodIn_r _ [21, 22, 23, 8, 24, 25, 26, 6, 27, 28, 29, 30, 31, 32, 33, 34, 35, 36, 37, 12, 38, 39, 40, 41, 42, 14, 43, 44, 45, 46, 47, 48, 49, 50, 51, 52, 53, 54, 55, 56, 57, 58, 59, 60, 61, 74, 75, 76, 77, 78, 79, 80, 62, 63, 64, 65, 66, 67, 68, 69, 70, 71, 72, 73] (by decide +kernel) (by decide +kernel)
set_option maxRecDepth 20000 in
theorem gX5_between_X5_fewestToPart : GoodIn wsX5_between (wsV RX5 231 RX5 yX5_fewestToPart wsX5_fewestToPart) := goodIn_app (goodIn_of _ (by decide +kernel)) ggX5_between_X5_fewestToPart
set_option maxRecDepth 20000 in
theorem ggX5_between_J6_bitCount_0f7a4 : GoodIn wsX5_between wsJ6_bitCount_0f7a4 := goodIn_r _ [31, 32, 33, 34] (by decide +kernel) (by decide +kernel)
set_option maxRecDepth 20000 in
theorem gX5_between_J6_bitCount_0f7a4 : GoodIn wsX5_between (va_wsS RX5 192 yJ6_bitCount_0f7a4 wsJ6_bitCount_0f7a4) := goodIn_app (goodIn_of _ (by decide +kernel)) ggX5_between_J6_bitCount_0f7a4
theorem dX5_between_0 : decode cX5_between 0 = .ok (.aload_n 0, 1) := by decide +kernel
theorem dX5_between_1 : decode cX5_between 1 = .ok (.iload_n 1, 1) := by decide +kernel
theorem dX5_between_2 : decode cX5_between 2 = .ok (.iload_n 2, 1) := by decide +kernel
theorem dX5_between_3 : decode cX5_between 3 = .ok (.invokevirtual 228, 3) := by decide +kernel
theorem dX5_between_6 : decode cX5_between 6 = .ok (.ifCond .ne 6, 3) := by decide +kernel
theorem dX5_between_9 : decode cX5_between 9 = .ok (.ldc 135, 2) := by decide +kernel
theorem dX5_between_11 : decode cX5_between 11 = .ok (.ireturn, 1) := by decide +kernel
theorem dX5_between_12 : decode cX5_between 12 = .ok (.iload_n 3, 1) := by decide +kernel
theorem dX5_between_13 : decode cX5_between 13 = .ok (.iconst 0, 1) := by decide +kernel
theorem dX5_between_14 : decode cX5_between 14 = .ok (.iconst 1, 1) := by decide +kernel
theorem dX5_between_15 : decode cX5_between 15 = .ok (.invokestatic 64, 3) := by decide +kernel
theorem dX5_between_18 : decode cX5_between 18 = .ok (.ifCond .ne 6, 3) := by decide +kernel
theorem dX5_between_21 : decode cX5_between 21 = .ok (.ldc 68, 2) := by decide +kernel
theorem dX5_between_23 : decode cX5_between 23 = .ok (.ireturn, 1) := by decide +kernel
theorem dX5_between_24 : decode cX5_between 24 = .ok (.aload_n 0, 1) := by decide +kernel
theorem dX5_between_25 : decode cX5_between 25 = .ok (.iload_n 1, 1) := by decide +kernel
theorem dX5_between_26 : decode cX5_between 26 = .ok (.iload_n 2, 1) := by decide +kernel
theorem dX5_between_27 : decode cX5_between 27 = .ok (.invokevirtual 231, 3) := by decide +kernel
theorem dX5_between_30 : decode cX5_between 30 = .ok (.istore 4, 2) := by decide +kernel
theorem dX5_between_32 : decode cX5_between 32 = .ok (.iload_n 3, 1) := by decide +kernel
theorem dX5_between_33 : decode cX5_between 33 = .ok (.ifCond .ne 11, 3) := by decide +kernel
theorem dX5_between_36 : decode cX5_between 36 = .ok (.iload 4, 2) := by decide +kernel
theorem dX5_between_38 : decode cX5_between 38 = .ok (.invokestatic 192, 3) := by decide +kernel
theorem dX5_between_41 : decode cX5_between 41 = .ok (.goto 5, 3) := by decide +kernel
theorem dX5_between_44 : decode cX5_between 44 = .ok (.iload 4, 2) := by decide +kernel
theorem dX5_between_46 : decode cX5_between 46 = .ok (.ireturn, 1) := by decide +kernel
set_option maxRecDepth 20000 in
theorem ggX5_way_X5_areTwoIslands : GoodIn wsX5_way wsX5_areTwoIslands := goodIn_r _ [10, 3, 11, 12, 13, 14, 15, 16, 41, 42, 43, 44, 45, 46, 47, 48, 49, 50, 51, 59, 60, 61, 62, 63, 64, 65, 66, 67, 68, 69, 70] (by decide +kernel) (by decide +kernel)
set_option maxRecDepth 20000 in
theorem gX5_way_X5_areTwoIslands : GoodIn wsX5_way (wsV RX5 228 RX5 yX5_areTwoIslands wsX5_areTwoIslands) := goodIn_app (goodIn_of _ (by decide +kernel)) ggX5_way_X5_areTwoIslands
set_option maxRecDepth 20000 in
theorem ggX5_way_X5_isWithin : GoodIn wsX5_way wsX5_isWithin := goodIn_r _ [19] (by decide +kernel) (by decide +kernel)
set_option maxRecDepth 20000 in
theorem gX5_way_X5_isWithin : GoodIn wsX5_way (va_wsS RX5 64 yX5_isWithin wsX5_isWithin) := goodIn_app (goodIn_of _ (by decide +kernel)) ggX5_way_X5_isWithin
set_option maxRecDepth 20000 in
theorem ggX5_way_X1_steps : GoodIn wsX5_way wsX1_steps := goodIn_r _ [23, 16, 24, 9, 25, 26, 27, 28, 14, 29, 30, 31, 59, 60, 61, 62, 63, 64, 65, 66, 67, 68, 69, 70] (by decide +kernel) (by decide +kernel)
set_option maxRecDepth 20000 in
theorem gX5_way_X1_steps : GoodIn wsX5_way (wsV RX5 234 RX1 yX1_steps wsX1_steps) := goodIn_app (goodIn_of _ (by decide +kernel)) ggX5_way_X1_steps
set_option maxRecDepth 20000 in
theorem ggX5_way_X5_firstOfWay : GoodIn wsX5_way wsX5_firstOfWay := goodIn_r _ [35, 3, 36, 4, 5, 37, 38, 39, 40, 24, 9, 25, 20, 21, 22, 14, 23, 16, 26, 27, 28, 29, 30, 31, 41, 42, 43, 44, 45, 46, 47, 48, 49, 50, 51, 59, 60, 61, 62, 63, 64, 65, 66, 67, 68, 69, 70, 52, 53, 54, 55, 56, 57, 58] (by decide +kernel) (by decide +kernel)
set_option maxRecDepth 20000 in
theorem gX5_way_X5_firstOfWay : GoodIn wsX5_way (wsV RX5 238 RX5 yX5_firstOfWay wsX5_firstOfWay) := goodIn_app (goodIn_of _ (by decide +kernel)) ggX5_way_X5_firstOfWay
theorem dX5_way_0 : decode cX5_way 0 = .ok (.aload_n 0, 1) := by decide +kernel
theorem dX5_way_1 : decode cX5_way 1 = .ok (.iload_n 1, 1) := by decide +kernel
theorem dX5_way_2 : decode cX5_way 2 = .ok (.iload_n 2, 1) := by decide +kernel
theorem dX5_way_3 : decode cX5_way 3 = .ok (.invokevirtual 228, 3) := by decide +kernel
theorem dX5_way_6 : decode cX5_way 6 = .ok (.ifCond .ne 6, 3) := by decide +kernel
theorem dX5_way_9 : decode cX5_way 9 = .ok (.ldc 135, 2) := by decide +kernel
theorem dX5_way_11 : decode cX5_way 11 = .ok (.ireturn, 1) := by decide +kernel
theorem dX5_way_12 : decode cX5_way 12 = .ok (.iload_n 3, 1) := by decide +kernel
theorem dX5_way_13 : decode cX5_way 13 = .ok (.iconst 0, 1) := by decide +kernel
theorem dX5_way_14 : decode cX5_way 14 = .ok (.iconst 1, 1) := by decide +kernel
theorem dX5_way_15 : decode cX5_way 15 = .ok (.invokestatic 64, 3) := by decide +kernel
theorem dX5_way_18 : decode cX5_way 18 = .ok (.ifCond .ne 6, 3) := by decide +kernel
theorem dX5_way_21 : decode cX5_way 21 = .ok (.ldc 68, 2) := by decide +kernel
theorem dX5_way_23 : decode cX5_way 23 = .ok (.ireturn, 1) := by decide +kernel
theorem dX5_way_24 : decode cX5_way 24 = .ok (.aload_n 0, 1) := by decide +kernel
theorem dX5_way_25 : decode cX5_way 25 = .ok (.getfield 19, 3) := by decide +kernel
theorem dX5_way_28 : decode cX5_way 28 = .ok (.iload_n 1, 1) := by decide +kernel
theorem dX5_way_29 : decode cX5_way 29 = .ok (.iload_n 2, 1) := by decide +kernel
theorem dX5_way_30 : decode cX5_way 30 = .ok (.aload_n 0, 1) := by decide +kernel
theorem dX5_way_31 : decode cX5_way 31 = .ok (.getfield 29, 3) := by decide +kernel
theorem dX5_way_34 : decode cX5_way 34 = .ok (.getfield 110, 3) := by decide +kernel
theorem dX5_way_37 : decode cX5_way 37 = .ok (.invokevirtual 234, 3) := by decide +kernel
theorem dX5_way_40 : decode cX5_way 40 = .ok (.istore 4, 2) := by decide +kernel
theorem dX5_way_42 : decode cX5_way 42 = .ok (.iload 4, 2) := by decide +kernel
theorem dX5_way_44 : decode cX5_way 44 = .ok (.iconst (-1), 1) := by decide +kernel
theorem dX5_way_45 : decode cX5_way 45 = .ok (.if_icmp .eq 7, 3) := by decide +kernel
theorem dX5_way_48 : decode cX5_way 48 = .ok (.iload_n 3, 1) := by decide +kernel
theorem dX5_way_49 : decode cX5_way 49 = .ok (.ifCond .ne 8, 3) := by decide +kernel
theorem dX5_way_52 : decode cX5_way 52 = .ok (.iload 4, 2) := by decide +kernel
theorem dX5_way_54 : decode cX5_way 54 = .ok (.goto 11, 3) := by decide +kernel
theorem dX5_way_57 : decode cX5_way 57 = .ok (.aload_n 0, 1) := by decide +kernel
theorem dX5_way_58 : decode cX5_way 58 = .ok (.iload_n 1, 1) := by decide +kernel
theorem dX5_way_59 : decode cX5_way 59 = .ok (.iload_n 2, 1) := by decide +kernel
theorem dX5_way_60 : decode cX5_way 60 = .ok (.iload 4, 2) := by decide +kernel
theorem dX5_way_62 : decode cX5_way 62 = .ok (.invokevirtual 238, 3) := by decide +kernel
theorem dX5_way_65 : decode cX5_way 65 = .ok (.ireturn, 1) := by decide +kernel
set_option maxRecDepth 20000 in
theorem ggX5_widest_X5_areTwoIslands : GoodIn wsX5_widest wsX5_areTwoIslands := goodIn_r _ [10, 2, 11, 12, 13, 14, 15, 16, 45, 46, 47, 48, 49, 50, 51, 52, 53, 54, 55, 56, 57, 58, 59, 60, 61, 62, 63, 64, 65, 66, 67] (by decide +kernel) (by decide +kernel)
set_option maxRecDepth 20000 in
theorem gX5_widest_X5_areTwoIslands : GoodIn wsX5_widest (wsV RX5 228 RX5 yX5_areTwoIslands wsX5_areTwoIslands) := goodIn_app (goodIn_of _ (by decide +kernel)) ggX5_widest_X5_areTwoIslands
set_option maxRecDepth 20000 in
theorem ggX5_widest_X0_spare : GoodIn wsX5_widest wsX0_spare := goodIn_r _ [21, 22, 23, 56, 57, 58, 59, 60, 61, 62, 63, 64, 65, 66, 67, 68, 69, 70, 71, 72, 73, 74] (by decide +kernel) (by decide +kernel)
set_option maxRecDepth 20000 in
theorem gX5_widest_X0_spare : GoodIn wsX5_widest (wsV RX5 241 RX0 yX0_spare wsX0_spare) := goodIn_app (goodIn_of _ (by decide +kernel)) ggX5_widest_X0_spare
set_option maxRecDepth 20000 in
theorem ggX5_widest_X5_has : GoodIn wsX5_widest wsX5_has := goodIn_r _ [26] (by decide +kernel) (by decide +kernel)
set_option maxRecDepth 20000 in
theorem gX5_widest_X5_has : GoodIn wsX5_widest (va_wsS RX5 151 yX5_has wsX5_has) := goodIn_app (goodIn_of _ (by decide +kernel)) ggX5_widest_X5_has
set_option maxRecDepth 20000 in
theorem ggX5_widest_X5_linksWithSpare : GoodIn wsX5_widest wsX5_linksWithSpare := goodIn_r _ [30, 2, 3, 4, 5, 24, 25, 9, 26, 17, 18, 19, 20, 21, 22, 23, 45, 46, 47, 48, 49, 50, 51, 52, 53, 54, 55, 56, 57, 58, 59, 60, 61, 62, 63, 64, 65, 66, 67, 68, 69, 70, 71, 72, 73, 74] (by decide +kernel) (by decide +kernel)
set_option maxRecDepth 20000 in
theorem gX5_widest_X5_linksWithSpare : GoodIn wsX5_widest (wsV RX5 245 RX5 yX5_linksWithSpare wsX5_linksWithSpare) := goodIn_app (goodIn_of _ (by decide +kernel)) ggX5_widest_X5_linksWithSpare
set_option maxRecDepth 20000 in
theorem ggX5_widest_X1_hang : GoodIn wsX5_widest wsX1_hang := goodIn_r _ [34, 35, 36, 37, 14, 38, 16, 39, 40, 41, 42, 43, 44, 25, 9, 26, 56, 57, 58, 59, 60, 61, 62, 63, 64, 65, 66, 67] (by decide +kernel) (by decide +kernel)
set_option maxRecDepth 20000 in
theorem gX5_widest_X1_hang : GoodIn wsX5_widest (wsV RX5 248 RX1 yX1_hang wsX1_hang) := goodIn_app (goodIn_of _ (by decide +kernel)) ggX5_widest_X1_hang
theorem dX5_widest_0 : decode cX5_widest 0 = .ok (.aload_n 0, 1) := by decide +kernel
theorem dX5_widest_1 : decode cX5_widest 1 = .ok (.iload_n 1, 1) := by decide +kernel
theorem dX5_widest_2 : decode cX5_widest 2 = .ok (.iload_n 2, 1) := by decide +kernel
theorem dX5_widest_3 : decode cX5_widest 3 = .ok (.invokevirtual 228, 3) := by decide +kernel
theorem dX5_widest_6 : decode cX5_widest 6 = .ok (.ifCond .ne 6, 3) := by decide +kernel
theorem dX5_widest_9 : decode cX5_widest 9 = .ok (.ldc 135, 2) := by decide +kernel
theorem dX5_widest_11 : decode cX5_widest 11 = .ok (.ireturn, 1) := by decide +kernel
theorem dX5_widest_12 : decode cX5_widest 12 = .ok (.iconst (-1), 1) := by decide +kernel
theorem dX5_widest_13 : decode cX5_widest 13 = .ok (.istore_n 3, 1) := by decide +kernel
theorem dX5_widest_14 : decode cX5_widest 14 = .ok (.iconst 0, 1) := by decide +kernel
theorem dX5_widest_15 : decode cX5_widest 15 = .ok (.istore 4, 2) := by decide +kernel
theorem dX5_widest_17 : decode cX5_widest 17 = .ok (.iload 4, 2) := by decide +kernel
theorem dX5_widest_19 : decode cX5_widest 19 = .ok (.aload_n 0, 1) := by decide +kernel
theorem dX5_widest_20 : decode cX5_widest 20 = .ok (.getfield 19, 3) := by decide +kernel
theorem dX5_widest_23 : decode cX5_widest 23 = .ok (.getfield 89, 3) := by decide +kernel
theorem dX5_widest_26 : decode cX5_widest 26 = .ok (.if_icmp .ge 66, 3) := by decide +kernel
theorem dX5_widest_29 : decode cX5_widest 29 = .ok (.aload_n 0, 1) := by decide +kernel
theorem dX5_widest_30 : decode cX5_widest 30 = .ok (.getfield 29, 3) := by decide +kernel
theorem dX5_widest_33 : decode cX5_widest 33 = .ok (.aload_n 0, 1) := by decide +kernel
theorem dX5_widest_34 : decode cX5_widest 34 = .ok (.getfield 19, 3) := by decide +kernel
theorem dX5_widest_37 : decode cX5_widest 37 = .ok (.iload 4, 2) := by decide +kernel
theorem dX5_widest_39 : decode cX5_widest 39 = .ok (.invokevirtual 241, 3) := by decide +kernel
theorem dX5_widest_42 : decode cX5_widest 42 = .ok (.istore 5, 2) := by decide +kernel
theorem dX5_widest_44 : decode cX5_widest 44 = .ok (.aload_n 0, 1) := by decide +kernel
theorem dX5_widest_45 : decode cX5_widest 45 = .ok (.getfield 29, 3) := by decide +kernel
theorem dX5_widest_48 : decode cX5_widest 48 = .ok (.getfield 110, 3) := by decide +kernel
theorem dX5_widest_51 : decode cX5_widest 51 = .ok (.iload 4, 2) := by decide +kernel
theorem dX5_widest_53 : decode cX5_widest 53 = .ok (.invokestatic 151, 3) := by decide +kernel
theorem dX5_widest_56 : decode cX5_widest 56 = .ok (.ifCond .eq 30, 3) := by decide +kernel
theorem dX5_widest_59 : decode cX5_widest 59 = .ok (.iload 5, 2) := by decide +kernel
theorem dX5_widest_61 : decode cX5_widest 61 = .ok (.iload_n 3, 1) := by decide +kernel
theorem dX5_widest_62 : decode cX5_widest 62 = .ok (.if_icmp .le 24, 3) := by decide +kernel
theorem dX5_widest_65 : decode cX5_widest 65 = .ok (.aload_n 0, 1) := by decide +kernel
theorem dX5_widest_66 : decode cX5_widest 66 = .ok (.getfield 19, 3) := by decide +kernel
theorem dX5_widest_69 : decode cX5_widest 69 = .ok (.iload_n 1, 1) := by decide +kernel
theorem dX5_widest_70 : decode cX5_widest 70 = .ok (.iload_n 2, 1) := by decide +kernel
theorem dX5_widest_71 : decode cX5_widest 71 = .ok (.aload_n 0, 1) := by decide +kernel
theorem dX5_widest_72 : decode cX5_widest 72 = .ok (.iload 5, 2) := by decide +kernel
theorem dX5_widest_74 : decode cX5_widest 74 = .ok (.invokevirtual 245, 3) := by decide +kernel
theorem dX5_widest_77 : decode cX5_widest 77 = .ok (.invokevirtual 248, 3) := by decide +kernel
theorem dX5_widest_80 : decode cX5_widest 80 = .ok (.ifCond .eq 6, 3) := by decide +kernel
theorem dX5_widest_83 : decode cX5_widest 83 = .ok (.iload 5, 2) := by decide +kernel
theorem dX5_widest_85 : decode cX5_widest 85 = .ok (.istore_n 3, 1) := by decide +kernel
theorem dX5_widest_86 : decode cX5_widest 86 = .ok (.iinc 4 1, 3) := by decide +kernel
theorem dX5_widest_89 : decode cX5_widest 89 = .ok (.goto (-72), 3) := by decide +kernel
theorem dX5_widest_92 : decode cX5_widest 92 = .ok (.iload_n 3, 1) := by decide +kernel
theorem dX5_widest_93 : decode cX5_widest 93 = .ok (.ireturn, 1) := by decide +kernel
set_option maxRecDepth 20000 in
theorem ggX5_farthest_X1_hasIsland : GoodIn wsX5_farthest wsX1_hasIsland := goodIn_r _ [11, 12, 40, 41, 42, 43, 44, 45, 46, 47, 48, 49, 50, 51] (by decide +kernel) (by decide +kernel)
set_option maxRecDepth 20000 in
theorem gX5_farthest_X1_hasIsland : GoodIn wsX5_farthest (wsV RX5 164 RX1 yX1_hasIsland wsX1_hasIsland) := goodIn_app (goodIn_of _ (by decide +kernel)) ggX5_farthest_X1_hasIsland
set_option maxRecDepth 20000 in
theorem ggX5_farthest_X5_isWithin : GoodIn wsX5_farthest wsX5_isWithin := goodIn_r _ [16] (by decide +kernel) (by decide +kernel)
set_option maxRecDepth 20000 in
theorem gX5_farthest_X5_isWithin : GoodIn wsX5_farthest (va_wsS RX5 64 yX5_isWithin wsX5_isWithin) := goodIn_app (goodIn_of _ (by decide +kernel)) ggX5_farthest_X5_isWithin
set_option maxRecDepth 20000 in
theorem ggX5_farthest_X1_steps : GoodIn wsX5_farthest wsX1_steps := goodIn_r _ [20, 12, 21, 15, 22, 23, 24, 25, 10, 26, 27, 28, 40, 41, 42, 43, 44, 45, 46, 47, 48, 49, 50, 51] (by decide +kernel) (by decide +kernel)
set_option maxRecDepth 20000 in
theorem gX5_farthest_X1_steps : GoodIn wsX5_farthest (wsV RX5 234 RX1 yX1_steps wsX1_steps) := goodIn_app (goodIn_of _ (by decide +kernel)) ggX5_farthest_X1_steps
theorem dX5_farthest_0 : decode cX5_farthest 0 = .ok (.aload_n 0, 1) := by decide +kernel
theorem dX5_farthest_1 : decode cX5_farthest 1 = .ok (.getfield 19, 3) := by decide +kernel
theorem dX5_farthest_4 : decode cX5_farthest 4 = .ok (.iload_n 1, 1) := by decide +kernel
theorem dX5_farthest_5 : decode cX5_farthest 5 = .ok (.invokevirtual 164, 3) := by decide +kernel
theorem dX5_farthest_8 : decode cX5_farthest 8 = .ok (.ifCond .ne 6, 3) := by decide +kernel
theorem dX5_farthest_11 : decode cX5_farthest 11 = .ok (.ldc 135, 2) := by decide +kernel
theorem dX5_farthest_13 : decode cX5_farthest 13 = .ok (.ireturn, 1) := by decide +kernel
theorem dX5_farthest_14 : decode cX5_farthest 14 = .ok (.iload_n 2, 1) := by decide +kernel
theorem dX5_farthest_15 : decode cX5_farthest 15 = .ok (.iconst 0, 1) := by decide +kernel
theorem dX5_farthest_16 : decode cX5_farthest 16 = .ok (.iconst 1, 1) := by decide +kernel
theorem dX5_farthest_17 : decode cX5_farthest 17 = .ok (.invokestatic 64, 3) := by decide +kernel
theorem dX5_farthest_20 : decode cX5_farthest 20 = .ok (.ifCond .ne 6, 3) := by decide +kernel
theorem dX5_farthest_23 : decode cX5_farthest 23 = .ok (.ldc 68, 2) := by decide +kernel
theorem dX5_farthest_25 : decode cX5_farthest 25 = .ok (.ireturn, 1) := by decide +kernel
theorem dX5_farthest_26 : decode cX5_farthest 26 = .ok (.iload_n 1, 1) := by decide +kernel
theorem dX5_farthest_27 : decode cX5_farthest 27 = .ok (.istore_n 3, 1) := by decide +kernel
theorem dX5_farthest_28 : decode cX5_farthest 28 = .ok (.iconst 0, 1) := by decide +kernel
theorem dX5_farthest_29 : decode cX5_farthest 29 = .ok (.istore 4, 2) := by decide +kernel
theorem dX5_farthest_31 : decode cX5_farthest 31 = .ok (.iconst 0, 1) := by decide +kernel
theorem dX5_farthest_32 : decode cX5_farthest 32 = .ok (.istore 5, 2) := by decide +kernel
theorem dX5_farthest_34 : decode cX5_farthest 34 = .ok (.iload 5, 2) := by decide +kernel
theorem dX5_farthest_36 : decode cX5_farthest 36 = .ok (.aload_n 0, 1) := by decide +kernel
theorem dX5_farthest_37 : decode cX5_farthest 37 = .ok (.getfield 19, 3) := by decide +kernel
theorem dX5_farthest_40 : decode cX5_farthest 40 = .ok (.getfield 95, 3) := by decide +kernel
theorem dX5_farthest_43 : decode cX5_farthest 43 = .ok (.if_icmp .ge 42, 3) := by decide +kernel
theorem dX5_farthest_46 : decode cX5_farthest 46 = .ok (.aload_n 0, 1) := by decide +kernel
theorem dX5_farthest_47 : decode cX5_farthest 47 = .ok (.getfield 19, 3) := by decide +kernel
theorem dX5_farthest_50 : decode cX5_farthest 50 = .ok (.iload_n 1, 1) := by decide +kernel
theorem dX5_farthest_51 : decode cX5_farthest 51 = .ok (.iload 5, 2) := by decide +kernel
theorem dX5_farthest_53 : decode cX5_farthest 53 = .ok (.aload_n 0, 1) := by decide +kernel
theorem dX5_farthest_54 : decode cX5_farthest 54 = .ok (.getfield 29, 3) := by decide +kernel
theorem dX5_farthest_57 : decode cX5_farthest 57 = .ok (.getfield 110, 3) := by decide +kernel
theorem dX5_farthest_60 : decode cX5_farthest 60 = .ok (.invokevirtual 234, 3) := by decide +kernel
theorem dX5_farthest_63 : decode cX5_farthest 63 = .ok (.istore 6, 2) := by decide +kernel
theorem dX5_farthest_65 : decode cX5_farthest 65 = .ok (.iload 6, 2) := by decide +kernel
theorem dX5_farthest_67 : decode cX5_farthest 67 = .ok (.iload 4, 2) := by decide +kernel
theorem dX5_farthest_69 : decode cX5_farthest 69 = .ok (.if_icmp .le 10, 3) := by decide +kernel
theorem dX5_farthest_72 : decode cX5_farthest 72 = .ok (.iload 5, 2) := by decide +kernel
theorem dX5_farthest_74 : decode cX5_farthest 74 = .ok (.istore_n 3, 1) := by decide +kernel
theorem dX5_farthest_75 : decode cX5_farthest 75 = .ok (.iload 6, 2) := by decide +kernel
theorem dX5_farthest_77 : decode cX5_farthest 77 = .ok (.istore 4, 2) := by decide +kernel
theorem dX5_farthest_79 : decode cX5_farthest 79 = .ok (.iinc 5 1, 3) := by decide +kernel
theorem dX5_farthest_82 : decode cX5_farthest 82 = .ok (.goto (-48), 3) := by decide +kernel
theorem dX5_farthest_85 : decode cX5_farthest 85 = .ok (.iload_n 2, 1) := by decide +kernel
theorem dX5_farthest_86 : decode cX5_farthest 86 = .ok (.ifCond .ne 7, 3) := by decide +kernel
theorem dX5_farthest_89 : decode cX5_farthest 89 = .ok (.iload_n 3, 1) := by decide +kernel
theorem dX5_farthest_90 : decode cX5_farthest 90 = .ok (.goto 5, 3) := by decide +kernel
theorem dX5_farthest_93 : decode cX5_farthest 93 = .ok (.iload 4, 2) := by decide +kernel
theorem dX5_farthest_95 : decode cX5_farthest 95 = .ok (.ireturn, 1) := by decide +kernel
set_option maxRecDepth 20000 in
theorem ggX5_keepUp_X5_isWithin : GoodIn wsX5_keepUp wsX5_isWithin := goodIn_r _ [5] (by decide +kernel) (by decide +kernel)
set_option maxRecDepth 20000 in
theorem gX5_keepUp_X5_isWithin : GoodIn wsX5_keepUp (va_wsS RX5 64 yX5_isWithin wsX5_isWithin) := goodIn_app (goodIn_of _ (by decide +kernel)) ggX5_keepUp_X5_isWithin
set_option maxRecDepth 20000 in
theorem ggX5_keepUp_X5_fewestToMend : GoodIn wsX5_keepUp wsX5_fewestToMend := goodIn_r _ [9, 10, 11, 12, 13, 14, 15, 16, 17, 18, 19, 4, 20, 21, 22, 23, 24, 25, 26, 27, 28, 29, 30, 31, 32, 33, 34, 35, 36, 37, 38, 39, 40, 41, 42, 43, 44, 45, 46, 47, 48, 49, 50, 51, 52, 53, 54, 55, 56, 57, 58, 59, 60, 61, 62, 63, 64, 65, 66, 67, 68, 69, 70, 71, 72, 73, 74, 75, 76, 77, 78, 79, 80, 81, 82, 83, 84, 85, 86, 87, 88, 89, 90, 91, 92, 93, 94, 95, 96, 97, 98, 99, 100, 101, 102, 103, 104, 105, 106, 107, 108, 109, 110, 111, 112, 113, 114, 115, 116, 117, 118, 119, 120, 121, 122, 123, 124, 125, 126, 127, 128, 129] (by decide +kernel) (by decide +kernel)
set_option maxRecDepth 20000 in
theorem gX5_keepUp_X5_fewestToMend : GoodIn wsX5_keepUp (wsV RX5 251 RX5 yX5_fewestToMend wsX5_fewestToMend) := goodIn_app (goodIn_of _ (by decide +kernel)) ggX5_keepUp_X5_fewestToMend
set_option maxRecDepth 20000 in
theorem ggX5_keepUp_J6_bitCount_0f7a4 : GoodIn wsX5_keepUp wsJ6_bitCount_0f7a4 := goodIn_r _ [86, 87, 88, 89] (by decide +kernel) (by decide +kernel)
set_option maxRecDepth 20000 in
theorem gX5_keepUp_J6_bitCount_0f7a4 : GoodIn wsX5_keepUp (va_wsS RX5 192 yJ6_bitCount_0f7a4 wsJ6_bitCount_0f7a4) := goodIn_app (goodIn_of _ (by decide +kernel)) ggX5_keepUp_J6_bitCount_0f7a4
theorem dX5_keepUp_0 : decode cX5_keepUp 0 = .ok (.iload_n 1, 1) := by decide +kernel
theorem dX5_keepUp_1 : decode cX5_keepUp 1 = .ok (.iconst 0, 1) := by decide +kernel
theorem dX5_keepUp_2 : decode cX5_keepUp 2 = .ok (.bipush 60, 2) := by decide +kernel
theorem dX5_keepUp_4 : decode cX5_keepUp 4 = .ok (.invokestatic 64, 3) := by decide +kernel
theorem dX5_keepUp_7 : decode cX5_keepUp 7 = .ok (.ifCond .eq 12, 3) := by decide +kernel
theorem dX5_keepUp_10 : decode cX5_keepUp 10 = .ok (.iload_n 2, 1) := by decide +kernel
theorem dX5_keepUp_11 : decode cX5_keepUp 11 = .ok (.iconst 0, 1) := by decide +kernel
theorem dX5_keepUp_12 : decode cX5_keepUp 12 = .ok (.iconst 1, 1) := by decide +kernel
theorem dX5_keepUp_13 : decode cX5_keepUp 13 = .ok (.invokestatic 64, 3) := by decide +kernel
theorem dX5_keepUp_16 : decode cX5_keepUp 16 = .ok (.ifCond .ne 6, 3) := by decide +kernel
theorem dX5_keepUp_19 : decode cX5_keepUp 19 = .ok (.ldc 68, 2) := by decide +kernel
theorem dX5_keepUp_21 : decode cX5_keepUp 21 = .ok (.ireturn, 1) := by decide +kernel
theorem dX5_keepUp_22 : decode cX5_keepUp 22 = .ok (.aload_n 0, 1) := by decide +kernel
theorem dX5_keepUp_23 : decode cX5_keepUp 23 = .ok (.iload_n 1, 1) := by decide +kernel
theorem dX5_keepUp_24 : decode cX5_keepUp 24 = .ok (.invokevirtual 251, 3) := by decide +kernel
theorem dX5_keepUp_27 : decode cX5_keepUp 27 = .ok (.istore_n 3, 1) := by decide +kernel
theorem dX5_keepUp_28 : decode cX5_keepUp 28 = .ok (.iload_n 3, 1) := by decide +kernel
theorem dX5_keepUp_29 : decode cX5_keepUp 29 = .ok (.iconst (-1), 1) := by decide +kernel
theorem dX5_keepUp_30 : decode cX5_keepUp 30 = .ok (.if_icmp .eq 8, 3) := by decide +kernel
theorem dX5_keepUp_33 : decode cX5_keepUp 33 = .ok (.iload_n 2, 1) := by decide +kernel
theorem dX5_keepUp_34 : decode cX5_keepUp 34 = .ok (.iconst 1, 1) := by decide +kernel
theorem dX5_keepUp_35 : decode cX5_keepUp 35 = .ok (.if_icmp .ne 7, 3) := by decide +kernel
theorem dX5_keepUp_38 : decode cX5_keepUp 38 = .ok (.iload_n 3, 1) := by decide +kernel
theorem dX5_keepUp_39 : decode cX5_keepUp 39 = .ok (.goto 7, 3) := by decide +kernel
theorem dX5_keepUp_42 : decode cX5_keepUp 42 = .ok (.iload_n 3, 1) := by decide +kernel
theorem dX5_keepUp_43 : decode cX5_keepUp 43 = .ok (.invokestatic 192, 3) := by decide +kernel
theorem dX5_keepUp_46 : decode cX5_keepUp 46 = .ok (.ireturn, 1) := by decide +kernel
set_option maxRecDepth 20000 in
theorem ggX5_agree_X5_isWithin : GoodIn wsX5_agree wsX5_isWithin := goodIn_r _ [5] (by decide +kernel) (by decide +kernel)
set_option maxRecDepth 20000 in
theorem gX5_agree_X5_isWithin : GoodIn wsX5_agree (va_wsS RX5 64 yX5_isWithin wsX5_isWithin) := goodIn_app (goodIn_of _ (by decide +kernel)) ggX5_agree_X5_isWithin
set_option maxRecDepth 20000 in
theorem ggX5_agree_X5_fewestToTurn : GoodIn wsX5_agree wsX5_fewestToTurn := goodIn_r _ [9, 10, 11, 12, 13, 14, 4, 15, 16, 17, 18, 19, 20, 21, 22, 23, 24, 25, 26, 27, 28, 29, 30, 31, 32, 33, 34, 35, 36, 37, 38, 39, 40, 41, 42, 43, 44, 45, 46, 47, 48, 49, 50, 51, 52, 53, 54, 55, 56, 57, 58, 59, 60, 61, 62, 63, 64, 65, 66, 67, 68, 69, 70, 71, 72, 73, 74, 75, 76, 77] (by decide +kernel) (by decide +kernel)
set_option maxRecDepth 20000 in
theorem gX5_agree_X5_fewestToTurn : GoodIn wsX5_agree (wsV RX5 254 RX5 yX5_fewestToTurn wsX5_fewestToTurn) := goodIn_app (goodIn_of _ (by decide +kernel)) ggX5_agree_X5_fewestToTurn
set_option maxRecDepth 20000 in
theorem ggX5_agree_X5_clashesIfTurned : GoodIn wsX5_agree wsX5_clashesIfTurned := goodIn_r _ [15, 16, 10, 11, 17, 18, 19, 20, 21, 22, 23, 24, 25, 26, 27, 28, 4, 29, 30, 31, 32, 33, 34, 35, 36, 37, 38, 39, 40, 41, 42, 43, 48, 49, 50, 51, 52, 53, 54, 55, 56, 57, 58, 59, 60, 61, 62, 63, 64, 65, 66, 67, 68, 69, 70, 71, 72, 73, 74, 75, 76, 77] (by decide +kernel) (by decide +kernel)
set_option maxRecDepth 20000 in
theorem gX5_agree_X5_clashesIfTurned : GoodIn wsX5_agree (wsV RX5 257 RX5 yX5_clashesIfTurned wsX5_clashesIfTurned) := goodIn_app (goodIn_of _ (by decide +kernel)) ggX5_agree_X5_clashesIfTurned
theorem dX5_agree_0 : decode cX5_agree 0 = .ok (.iload_n 1, 1) := by decide +kernel
theorem dX5_agree_1 : decode cX5_agree 1 = .ok (.iconst 0, 1) := by decide +kernel
theorem dX5_agree_2 : decode cX5_agree 2 = .ok (.iconst 1, 1) := by decide +kernel
theorem dX5_agree_3 : decode cX5_agree 3 = .ok (.invokestatic 64, 3) := by decide +kernel
theorem dX5_agree_6 : decode cX5_agree 6 = .ok (.ifCond .ne 6, 3) := by decide +kernel
theorem dX5_agree_9 : decode cX5_agree 9 = .ok (.ldc 68, 2) := by decide +kernel
theorem dX5_agree_11 : decode cX5_agree 11 = .ok (.ireturn, 1) := by decide +kernel
theorem dX5_agree_12 : decode cX5_agree 12 = .ok (.aload_n 0, 1) := by decide +kernel
theorem dX5_agree_13 : decode cX5_agree 13 = .ok (.invokevirtual 254, 3) := by decide +kernel
theorem dX5_agree_16 : decode cX5_agree 16 = .ok (.istore_n 2, 1) := by decide +kernel
theorem dX5_agree_17 : decode cX5_agree 17 = .ok (.iload_n 1, 1) := by decide +kernel
theorem dX5_agree_18 : decode cX5_agree 18 = .ok (.iconst 1, 1) := by decide +kernel
theorem dX5_agree_19 : decode cX5_agree 19 = .ok (.if_icmp .ne 7, 3) := by decide +kernel
theorem dX5_agree_22 : decode cX5_agree 22 = .ok (.iload_n 2, 1) := by decide +kernel
theorem dX5_agree_23 : decode cX5_agree 23 = .ok (.goto 8, 3) := by decide +kernel
theorem dX5_agree_26 : decode cX5_agree 26 = .ok (.aload_n 0, 1) := by decide +kernel
theorem dX5_agree_27 : decode cX5_agree 27 = .ok (.iload_n 2, 1) := by decide +kernel
theorem dX5_agree_28 : decode cX5_agree 28 = .ok (.invokevirtual 257, 3) := by decide +kernel
theorem dX5_agree_31 : decode cX5_agree 31 = .ok (.ireturn, 1) := by decide +kernel
set_option maxRecDepth 20000 in
theorem ggX5_fold_X5_liesOn : GoodIn wsX5_fold wsX5_liesOn := goodIn_r _ [7, 1, 8, 9, 10, 11, 12, 13, 14, 15, 16, 17, 6, 18, 19, 20, 21, 22, 23, 24, 25, 26, 27, 28, 29, 42, 43, 44, 45, 46, 47, 48, 30, 31, 32, 33, 34, 35, 36, 37, 38, 39, 40, 41] (by decide +kernel) (by decide +kernel)
set_option maxRecDepth 20000 in
theorem gX5_fold_X5_liesOn : GoodIn wsX5_fold (wsV RX5 260 RX5 yX5_liesOn wsX5_liesOn) := goodIn_app (goodIn_of _ (by decide +kernel)) ggX5_fold_X5_liesOn
theorem dX5_fold_0 : decode cX5_fold 0 = .ok (.iconst 0, 1) := by decide +kernel
theorem dX5_fold_1 : decode cX5_fold 1 = .ok (.istore_n 2, 1) := by decide +kernel
theorem dX5_fold_2 : decode cX5_fold 2 = .ok (.iconst 0, 1) := by decide +kernel
theorem dX5_fold_3 : decode cX5_fold 3 = .ok (.istore_n 3, 1) := by decide +kernel
theorem dX5_fold_4 : decode cX5_fold 4 = .ok (.iload_n 3, 1) := by decide +kernel
theorem dX5_fold_5 : decode cX5_fold 5 = .ok (.aload_n 0, 1) := by decide +kernel
theorem dX5_fold_6 : decode cX5_fold 6 = .ok (.getfield 19, 3) := by decide +kernel
theorem dX5_fold_9 : decode cX5_fold 9 = .ok (.getfield 95, 3) := by decide +kernel
theorem dX5_fold_12 : decode cX5_fold 12 = .ok (.if_icmp .ge 58, 3) := by decide +kernel
theorem dX5_fold_15 : decode cX5_fold 15 = .ok (.iload_n 3, 1) := by decide +kernel
theorem dX5_fold_16 : decode cX5_fold 16 = .ok (.iconst 1, 1) := by decide +kernel
theorem dX5_fold_17 : decode cX5_fold 17 = .ok (.iadd, 1) := by decide +kernel
theorem dX5_fold_18 : decode cX5_fold 18 = .ok (.istore 4, 2) := by decide +kernel
theorem dX5_fold_20 : decode cX5_fold 20 = .ok (.iload 4, 2) := by decide +kernel
theorem dX5_fold_22 : decode cX5_fold 22 = .ok (.aload_n 0, 1) := by decide +kernel
theorem dX5_fold_23 : decode cX5_fold 23 = .ok (.getfield 19, 3) := by decide +kernel
theorem dX5_fold_26 : decode cX5_fold 26 = .ok (.getfield 95, 3) := by decide +kernel
theorem dX5_fold_29 : decode cX5_fold 29 = .ok (.if_icmp .ge 35, 3) := by decide +kernel
theorem dX5_fold_32 : decode cX5_fold 32 = .ok (.aload_n 0, 1) := by decide +kernel
theorem dX5_fold_33 : decode cX5_fold 33 = .ok (.iload_n 3, 1) := by decide +kernel
theorem dX5_fold_34 : decode cX5_fold 34 = .ok (.iload 4, 2) := by decide +kernel
theorem dX5_fold_36 : decode cX5_fold 36 = .ok (.invokevirtual 260, 3) := by decide +kernel
theorem dX5_fold_39 : decode cX5_fold 39 = .ok (.ifCond .eq 19, 3) := by decide +kernel
theorem dX5_fold_42 : decode cX5_fold 42 = .ok (.iload_n 2, 1) := by decide +kernel
theorem dX5_fold_43 : decode cX5_fold 43 = .ok (.iload_n 1, 1) := by decide +kernel
theorem dX5_fold_44 : decode cX5_fold 44 = .ok (.if_icmp .ne 11, 3) := by decide +kernel
theorem dX5_fold_47 : decode cX5_fold 47 = .ok (.bipush 10, 2) := by decide +kernel
theorem dX5_fold_49 : decode cX5_fold 49 = .ok (.iload_n 3, 1) := by decide +kernel
theorem dX5_fold_50 : decode cX5_fold 50 = .ok (.imul, 1) := by decide +kernel
theorem dX5_fold_51 : decode cX5_fold 51 = .ok (.iload 4, 2) := by decide +kernel
theorem dX5_fold_53 : decode cX5_fold 53 = .ok (.iadd, 1) := by decide +kernel
theorem dX5_fold_54 : decode cX5_fold 54 = .ok (.ireturn, 1) := by decide +kernel
theorem dX5_fold_55 : decode cX5_fold 55 = .ok (.iinc 2 1, 3) := by decide +kernel
theorem dX5_fold_58 : decode cX5_fold 58 = .ok (.iinc 4 1, 3) := by decide +kernel
theorem dX5_fold_61 : decode cX5_fold 61 = .ok (.goto (-41), 3) := by decide +kernel
theorem dX5_fold_64 : decode cX5_fold 64 = .ok (.iinc 3 1, 3) := by decide +kernel
theorem dX5_fold_67 : decode cX5_fold 67 = .ok (.goto (-63), 3) := by decide +kernel
theorem dX5_fold_70 : decode cX5_fold 70 = .ok (.iload_n 1, 1) := by decide +kernel
theorem dX5_fold_71 : decode cX5_fold 71 = .ok (.iconst (-1), 1) := by decide +kernel
theorem dX5_fold_72 : decode cX5_fold 72 = .ok (.if_icmp .ne 7, 3) := by decide +kernel
theorem dX5_fold_75 : decode cX5_fold 75 = .ok (.iload_n 2, 1) := by decide +kernel
theorem dX5_fold_76 : decode cX5_fold 76 = .ok (.goto 4, 3) := by decide +kernel
theorem dX5_fold_79 : decode cX5_fold 79 = .ok (.iconst (-1), 1) := by decide +kernel
theorem dX5_fold_80 : decode cX5_fold 80 = .ok (.ireturn, 1) := by decide +kernel
set_option maxRecDepth 20000 in
theorem ggX5_share_X5_isWithin : GoodIn wsX5_share wsX5_isWithin := goodIn_r _ [7] (by decide +kernel) (by decide +kernel)
set_option maxRecDepth 20000 in
theorem gX5_share_X5_isWithin : GoodIn wsX5_share (va_wsS RX5 64 yX5_isWithin wsX5_isWithin) := goodIn_app (goodIn_of _ (by decide +kernel)) ggX5_share_X5_isWithin
set_option maxRecDepth 20000 in
theorem ggX5_share_X5_mostStrained : GoodIn wsX5_share wsX5_mostStrained := goodIn_r _ [11, 12, 13, 2, 14, 15, 16, 6, 17, 18, 19, 20, 21, 22, 23, 24, 25, 26, 27, 28, 29, 30, 31, 32, 33, 34, 35, 36, 44, 45, 46, 47, 48, 49, 50, 51, 52, 53, 54, 55, 37, 38, 39, 40, 41, 42, 43] (by decide +kernel) (by decide +kernel)
set_option maxRecDepth 20000 in
theorem gX5_share_X5_mostStrained : GoodIn wsX5_share (wsV RX5 263 RX5 yX5_mostStrained wsX5_mostStrained) := goodIn_app (goodIn_of _ (by decide +kernel)) ggX5_share_X5_mostStrained
theorem dX5_share_0 : decode cX5_share 0 = .ok (.iload_n 1, 1) := by decide +kernel
theorem dX5_share_1 : decode cX5_share 1 = .ok (.iconst 0, 1) := by decide +kernel
theorem dX5_share_2 : decode cX5_share 2 = .ok (.bipush 99, 2) := by decide +kernel
theorem dX5_share_4 : decode cX5_share 4 = .ok (.invokestatic 64, 3) := by decide +kernel
theorem dX5_share_7 : decode cX5_share 7 = .ok (.ifCond .eq 12, 3) := by decide +kernel
theorem dX5_share_10 : decode cX5_share 10 = .ok (.iload_n 2, 1) := by decide +kernel
theorem dX5_share_11 : decode cX5_share 11 = .ok (.iconst 0, 1) := by decide +kernel
theorem dX5_share_12 : decode cX5_share 12 = .ok (.iconst 1, 1) := by decide +kernel
theorem dX5_share_13 : decode cX5_share 13 = .ok (.invokestatic 64, 3) := by decide +kernel
theorem dX5_share_16 : decode cX5_share 16 = .ok (.ifCond .ne 6, 3) := by decide +kernel
theorem dX5_share_19 : decode cX5_share 19 = .ok (.ldc 68, 2) := by decide +kernel
theorem dX5_share_21 : decode cX5_share 21 = .ok (.ireturn, 1) := by decide +kernel
theorem dX5_share_22 : decode cX5_share 22 = .ok (.iconst 0, 1) := by decide +kernel
theorem dX5_share_23 : decode cX5_share 23 = .ok (.istore_n 3, 1) := by decide +kernel
theorem dX5_share_24 : decode cX5_share 24 = .ok (.iload_n 1, 1) := by decide +kernel
theorem dX5_share_25 : decode cX5_share 25 = .ok (.istore 4, 2) := by decide +kernel
theorem dX5_share_27 : decode cX5_share 27 = .ok (.iconst 0, 1) := by decide +kernel
theorem dX5_share_28 : decode cX5_share 28 = .ok (.istore 5, 2) := by decide +kernel
theorem dX5_share_30 : decode cX5_share 30 = .ok (.iload 5, 2) := by decide +kernel
theorem dX5_share_32 : decode cX5_share 32 = .ok (.bipush 10, 2) := by decide +kernel
theorem dX5_share_34 : decode cX5_share 34 = .ok (.if_icmp .ge 48, 3) := by decide +kernel
theorem dX5_share_37 : decode cX5_share 37 = .ok (.iload 4, 2) := by decide +kernel
theorem dX5_share_39 : decode cX5_share 39 = .ok (.ifCond .le 43, 3) := by decide +kernel
theorem dX5_share_42 : decode cX5_share 42 = .ok (.iload_n 3, 1) := by decide +kernel
theorem dX5_share_43 : decode cX5_share 43 = .ok (.aload_n 0, 1) := by decide +kernel
theorem dX5_share_44 : decode cX5_share 44 = .ok (.getfield 29, 3) := by decide +kernel
theorem dX5_share_47 : decode cX5_share 47 = .ok (.getfield 110, 3) := by decide +kernel
theorem dX5_share_50 : decode cX5_share 50 = .ok (.if_icmp .eq 32, 3) := by decide +kernel
theorem dX5_share_53 : decode cX5_share 53 = .ok (.iload_n 3, 1) := by decide +kernel
theorem dX5_share_54 : decode cX5_share 54 = .ok (.iconst 1, 1) := by decide +kernel
theorem dX5_share_55 : decode cX5_share 55 = .ok (.aload_n 0, 1) := by decide +kernel
theorem dX5_share_56 : decode cX5_share 56 = .ok (.aload_n 0, 1) := by decide +kernel
theorem dX5_share_57 : decode cX5_share 57 = .ok (.getfield 29, 3) := by decide +kernel
theorem dX5_share_60 : decode cX5_share 60 = .ok (.getfield 110, 3) := by decide +kernel
theorem dX5_share_63 : decode cX5_share 63 = .ok (.iload_n 3, 1) := by decide +kernel
theorem dX5_share_64 : decode cX5_share 64 = .ok (.iconst (-1), 1) := by decide +kernel
theorem dX5_share_65 : decode cX5_share 65 = .ok (.ixor, 1) := by decide +kernel
theorem dX5_share_66 : decode cX5_share 66 = .ok (.iand, 1) := by decide +kernel
theorem dX5_share_67 : decode cX5_share 67 = .ok (.invokevirtual 263, 3) := by decide +kernel
theorem dX5_share_70 : decode cX5_share 70 = .ok (.ishl, 1) := by decide +kernel
theorem dX5_share_71 : decode cX5_share 71 = .ok (.ior, 1) := by decide +kernel
theorem dX5_share_72 : decode cX5_share 72 = .ok (.istore_n 3, 1) := by decide +kernel
theorem dX5_share_73 : decode cX5_share 73 = .ok (.iinc 4 (-1), 3) := by decide +kernel
theorem dX5_share_76 : decode cX5_share 76 = .ok (.iinc 5 1, 3) := by decide +kernel
theorem dX5_share_79 : decode cX5_share 79 = .ok (.goto (-49), 3) := by decide +kernel
theorem dX5_share_82 : decode cX5_share 82 = .ok (.iload_n 2, 1) := by decide +kernel
theorem dX5_share_83 : decode cX5_share 83 = .ok (.ifCond .ne 8, 3) := by decide +kernel
theorem dX5_share_86 : decode cX5_share 86 = .ok (.iload 4, 2) := by decide +kernel
theorem dX5_share_88 : decode cX5_share 88 = .ok (.goto 4, 3) := by decide +kernel
theorem dX5_share_91 : decode cX5_share 91 = .ok (.iload_n 3, 1) := by decide +kernel
theorem dX5_share_92 : decode cX5_share 92 = .ok (.ireturn, 1) := by decide +kernel
set_option maxRecDepth 20000 in
theorem ggX5_calm_X5_isWithin : GoodIn wsX5_calm wsX5_isWithin := goodIn_r _ [7] (by decide +kernel) (by decide +kernel)
set_option maxRecDepth 20000 in
theorem gX5_calm_X5_isWithin : GoodIn wsX5_calm (va_wsS RX5 64 yX5_isWithin wsX5_isWithin) := goodIn_app (goodIn_of _ (by decide +kernel)) ggX5_calm_X5_isWithin
theorem dX5_calm_0 : decode cX5_calm 0 = .ok (.iload_n 1, 1) := by decide +kernel
theorem dX5_calm_1 : decode cX5_calm 1 = .ok (.iconst 0, 1) := by decide +kernel
theorem dX5_calm_2 : decode cX5_calm 2 = .ok (.bipush 60, 2) := by decide +kernel
theorem dX5_calm_4 : decode cX5_calm 4 = .ok (.invokestatic 64, 3) := by decide +kernel
theorem dX5_calm_7 : decode cX5_calm 7 = .ok (.ifCond .eq 13, 3) := by decide +kernel
theorem dX5_calm_10 : decode cX5_calm 10 = .ok (.iload_n 2, 1) := by decide +kernel
theorem dX5_calm_11 : decode cX5_calm 11 = .ok (.iconst 0, 1) := by decide +kernel
theorem dX5_calm_12 : decode cX5_calm 12 = .ok (.bipush 100, 2) := by decide +kernel
theorem dX5_calm_14 : decode cX5_calm 14 = .ok (.invokestatic 64, 3) := by decide +kernel
theorem dX5_calm_17 : decode cX5_calm 17 = .ok (.ifCond .ne 6, 3) := by decide +kernel
theorem dX5_calm_20 : decode cX5_calm 20 = .ok (.ldc 68, 2) := by decide +kernel
theorem dX5_calm_22 : decode cX5_calm 22 = .ok (.ireturn, 1) := by decide +kernel
theorem dX5_calm_23 : decode cX5_calm 23 = .ok (.ldc2_w 266, 3) := by decide +kernel
theorem dX5_calm_26 : decode cX5_calm 26 = .ok (.lstore_n 3, 1) := by decide +kernel
theorem dX5_calm_27 : decode cX5_calm 27 = .ok (.iconst 0, 1) := by decide +kernel
theorem dX5_calm_28 : decode cX5_calm 28 = .ok (.istore 5, 2) := by decide +kernel
theorem dX5_calm_30 : decode cX5_calm 30 = .ok (.iload 5, 2) := by decide +kernel
theorem dX5_calm_32 : decode cX5_calm 32 = .ok (.iload_n 1, 1) := by decide +kernel
theorem dX5_calm_33 : decode cX5_calm 33 = .ok (.if_icmp .ge 18, 3) := by decide +kernel
theorem dX5_calm_36 : decode cX5_calm 36 = .ok (.lload_n 3, 1) := by decide +kernel
theorem dX5_calm_37 : decode cX5_calm 37 = .ok (.iload_n 2, 1) := by decide +kernel
theorem dX5_calm_38 : decode cX5_calm 38 = .ok (.i2l, 1) := by decide +kernel
theorem dX5_calm_39 : decode cX5_calm 39 = .ok (.lmul, 1) := by decide +kernel
theorem dX5_calm_40 : decode cX5_calm 40 = .ok (.ldc2_w 268, 3) := by decide +kernel
theorem dX5_calm_43 : decode cX5_calm 43 = .ok (.ldiv, 1) := by decide +kernel
theorem dX5_calm_44 : decode cX5_calm 44 = .ok (.lstore_n 3, 1) := by decide +kernel
theorem dX5_calm_45 : decode cX5_calm 45 = .ok (.iinc 5 1, 3) := by decide +kernel
theorem dX5_calm_48 : decode cX5_calm 48 = .ok (.goto (-18), 3) := by decide +kernel
theorem dX5_calm_51 : decode cX5_calm 51 = .ok (.lload_n 3, 1) := by decide +kernel
theorem dX5_calm_52 : decode cX5_calm 52 = .ok (.l2i, 1) := by decide +kernel
theorem dX5_calm_53 : decode cX5_calm 53 = .ok (.ireturn, 1) := by decide +kernel
set_option maxRecDepth 20000 in
theorem ggX5_hear_X5_areTwoIslands : GoodIn wsX5_hear wsX5_areTwoIslands := goodIn_r _ [9, 10, 11, 12, 13, 14, 15, 16, 26, 27, 28, 29, 30, 31, 32, 33, 34, 35, 36, 44, 45, 46, 47, 48, 49, 50, 51, 52, 53, 54, 55] (by decide +kernel) (by decide +kernel)
set_option maxRecDepth 20000 in
theorem gX5_hear_X5_areTwoIslands : GoodIn wsX5_hear (wsV RX5 228 RX5 yX5_areTwoIslands wsX5_areTwoIslands) := goodIn_app (goodIn_of _ (by decide +kernel)) ggX5_hear_X5_areTwoIslands
set_option maxRecDepth 20000 in
theorem ggX5_hear_X3_addHeard : GoodIn wsX5_hear wsX3_addHeard := goodIn_r _ [21, 22, 23, 24, 25, 37, 38, 39, 40, 41, 42, 43] (by decide +kernel) (by decide +kernel)
set_option maxRecDepth 20000 in
theorem gX5_hear_X3_addHeard : GoodIn wsX5_hear (wsV RX5 270 RX3 yX3_addHeard wsX3_addHeard) := goodIn_app (goodIn_of _ (by decide +kernel)) ggX5_hear_X3_addHeard
theorem dX5_hear_0 : decode cX5_hear 0 = .ok (.aload_n 0, 1) := by decide +kernel
theorem dX5_hear_1 : decode cX5_hear 1 = .ok (.iload_n 1, 1) := by decide +kernel
theorem dX5_hear_2 : decode cX5_hear 2 = .ok (.iload_n 2, 1) := by decide +kernel
theorem dX5_hear_3 : decode cX5_hear 3 = .ok (.invokevirtual 228, 3) := by decide +kernel
theorem dX5_hear_6 : decode cX5_hear 6 = .ok (.ifCond .ne 6, 3) := by decide +kernel
theorem dX5_hear_9 : decode cX5_hear 9 = .ok (.ldc 135, 2) := by decide +kernel
theorem dX5_hear_11 : decode cX5_hear 11 = .ok (.ireturn, 1) := by decide +kernel
theorem dX5_hear_12 : decode cX5_hear 12 = .ok (.aload_n 0, 1) := by decide +kernel
theorem dX5_hear_13 : decode cX5_hear 13 = .ok (.getfield 46, 3) := by decide +kernel
theorem dX5_hear_16 : decode cX5_hear 16 = .ok (.getfield 124, 3) := by decide +kernel
theorem dX5_hear_19 : decode cX5_hear 19 = .ok (.bipush 6, 2) := by decide +kernel
theorem dX5_hear_21 : decode cX5_hear 21 = .ok (.if_icmp .lt 6, 3) := by decide +kernel
theorem dX5_hear_24 : decode cX5_hear 24 = .ok (.ldc 72, 2) := by decide +kernel
theorem dX5_hear_26 : decode cX5_hear 26 = .ok (.ireturn, 1) := by decide +kernel
theorem dX5_hear_27 : decode cX5_hear 27 = .ok (.aload_n 0, 1) := by decide +kernel
theorem dX5_hear_28 : decode cX5_hear 28 = .ok (.getfield 46, 3) := by decide +kernel
theorem dX5_hear_31 : decode cX5_hear 31 = .ok (.iload_n 1, 1) := by decide +kernel
theorem dX5_hear_32 : decode cX5_hear 32 = .ok (.iload_n 2, 1) := by decide +kernel
theorem dX5_hear_33 : decode cX5_hear 33 = .ok (.iload_n 3, 1) := by decide +kernel
theorem dX5_hear_34 : decode cX5_hear 34 = .ok (.invokevirtual 270, 3) := by decide +kernel
theorem dX5_hear_37 : decode cX5_hear 37 = .ok (.ireturn, 1) := by decide +kernel
set_option maxRecDepth 20000 in
theorem ggX5_traitor_X5_has : GoodIn wsX5_traitor wsX5_has := goodIn_r _ [8] (by decide +kernel) (by decide +kernel)
set_option maxRecDepth 20000 in
theorem gX5_traitor_X5_has : GoodIn wsX5_traitor (va_wsS RX5 151 yX5_has wsX5_has) := goodIn_app (goodIn_of _ (by decide +kernel)) ggX5_traitor_X5_has
set_option maxRecDepth 20000 in
theorem ggX5_traitor_X5_doneUpWithout : GoodIn wsX5_traitor wsX5_doneUpWithout := goodIn_r _ [12, 1, 2, 38, 39, 40, 41, 42, 43, 44, 45, 46, 47, 48, 49, 50, 51, 52, 53, 54, 55] (by decide +kernel) (by decide +kernel)
set_option maxRecDepth 20000 in
theorem gX5_traitor_X5_doneUpWithout : GoodIn wsX5_traitor (wsV RX5 274 RX5 yX5_doneUpWithout wsX5_doneUpWithout) := goodIn_app (goodIn_of _ (by decide +kernel)) ggX5_traitor_X5_doneUpWithout
set_option maxRecDepth 20000 in
theorem ggX5_traitor_X3_fits : GoodIn wsX5_traitor wsX3_fits := goodIn_r _ [17, 18, 19, 20, 21, 22, 23, 24, 25, 26, 27, 28, 29, 30, 31, 32, 33, 34, 35, 36, 37, 6, 7, 8, 56, 57, 58, 59, 60, 61, 62, 63, 64, 65, 66, 67, 68, 69, 70, 71, 72, 73, 74] (by decide +kernel) (by decide +kernel)
set_option maxRecDepth 20000 in
theorem gX5_traitor_X3_fits : GoodIn wsX5_traitor (wsV RX5 277 RX3 yX3_fits wsX3_fits) := goodIn_app (goodIn_of _ (by decide +kernel)) ggX5_traitor_X3_fits
theorem dX5_traitor_0 : decode cX5_traitor 0 = .ok (.iconst 0, 1) := by decide +kernel
theorem dX5_traitor_1 : decode cX5_traitor 1 = .ok (.istore_n 1, 1) := by decide +kernel
theorem dX5_traitor_2 : decode cX5_traitor 2 = .ok (.iconst 0, 1) := by decide +kernel
theorem dX5_traitor_3 : decode cX5_traitor 3 = .ok (.istore_n 2, 1) := by decide +kernel
theorem dX5_traitor_4 : decode cX5_traitor 4 = .ok (.iload_n 2, 1) := by decide +kernel
theorem dX5_traitor_5 : decode cX5_traitor 5 = .ok (.bipush 10, 2) := by decide +kernel
theorem dX5_traitor_7 : decode cX5_traitor 7 = .ok (.if_icmp .gt 64, 3) := by decide +kernel
theorem dX5_traitor_10 : decode cX5_traitor 10 = .ok (.iload_n 2, 1) := by decide +kernel
theorem dX5_traitor_11 : decode cX5_traitor 11 = .ok (.bipush 10, 2) := by decide +kernel
theorem dX5_traitor_13 : decode cX5_traitor 13 = .ok (.if_icmp .eq 17, 3) := by decide +kernel
theorem dX5_traitor_16 : decode cX5_traitor 16 = .ok (.aload_n 0, 1) := by decide +kernel
theorem dX5_traitor_17 : decode cX5_traitor 17 = .ok (.getfield 29, 3) := by decide +kernel
theorem dX5_traitor_20 : decode cX5_traitor 20 = .ok (.getfield 110, 3) := by decide +kernel
theorem dX5_traitor_23 : decode cX5_traitor 23 = .ok (.iload_n 2, 1) := by decide +kernel
theorem dX5_traitor_24 : decode cX5_traitor 24 = .ok (.invokestatic 151, 3) := by decide +kernel
theorem dX5_traitor_27 : decode cX5_traitor 27 = .ok (.ifCond .eq 7, 3) := by decide +kernel
theorem dX5_traitor_30 : decode cX5_traitor 30 = .ok (.iconst 1, 1) := by decide +kernel
theorem dX5_traitor_31 : decode cX5_traitor 31 = .ok (.goto 4, 3) := by decide +kernel
theorem dX5_traitor_34 : decode cX5_traitor 34 = .ok (.iconst 0, 1) := by decide +kernel
theorem dX5_traitor_35 : decode cX5_traitor 35 = .ok (.istore_n 3, 1) := by decide +kernel
theorem dX5_traitor_36 : decode cX5_traitor 36 = .ok (.iload_n 3, 1) := by decide +kernel
theorem dX5_traitor_37 : decode cX5_traitor 37 = .ok (.ifCond .eq 28, 3) := by decide +kernel
theorem dX5_traitor_40 : decode cX5_traitor 40 = .ok (.aload_n 0, 1) := by decide +kernel
theorem dX5_traitor_41 : decode cX5_traitor 41 = .ok (.getfield 46, 3) := by decide +kernel
theorem dX5_traitor_44 : decode cX5_traitor 44 = .ok (.aload_n 0, 1) := by decide +kernel
theorem dX5_traitor_45 : decode cX5_traitor 45 = .ok (.getfield 19, 3) := by decide +kernel
theorem dX5_traitor_48 : decode cX5_traitor 48 = .ok (.aload_n 0, 1) := by decide +kernel
theorem dX5_traitor_49 : decode cX5_traitor 49 = .ok (.iload_n 2, 1) := by decide +kernel
theorem dX5_traitor_50 : decode cX5_traitor 50 = .ok (.invokevirtual 274, 3) := by decide +kernel
theorem dX5_traitor_53 : decode cX5_traitor 53 = .ok (.invokevirtual 277, 3) := by decide +kernel
theorem dX5_traitor_56 : decode cX5_traitor 56 = .ok (.ifCond .eq 9, 3) := by decide +kernel
theorem dX5_traitor_59 : decode cX5_traitor 59 = .ok (.iload_n 1, 1) := by decide +kernel
theorem dX5_traitor_60 : decode cX5_traitor 60 = .ok (.iconst 1, 1) := by decide +kernel
theorem dX5_traitor_61 : decode cX5_traitor 61 = .ok (.iload_n 2, 1) := by decide +kernel
theorem dX5_traitor_62 : decode cX5_traitor 62 = .ok (.ishl, 1) := by decide +kernel
theorem dX5_traitor_63 : decode cX5_traitor 63 = .ok (.ior, 1) := by decide +kernel
theorem dX5_traitor_64 : decode cX5_traitor 64 = .ok (.istore_n 1, 1) := by decide +kernel
theorem dX5_traitor_65 : decode cX5_traitor 65 = .ok (.iinc 2 1, 3) := by decide +kernel
theorem dX5_traitor_68 : decode cX5_traitor 68 = .ok (.goto (-64), 3) := by decide +kernel
theorem dX5_traitor_71 : decode cX5_traitor 71 = .ok (.iload_n 1, 1) := by decide +kernel
theorem dX5_traitor_72 : decode cX5_traitor 72 = .ok (.ireturn, 1) := by decide +kernel
set_option maxRecDepth 20000 in
theorem ggX5_ask_X5_traitor : GoodIn wsX5_ask wsX5_traitor := goodIn_r _ [7, 8, 9, 10, 1, 11, 12, 6, 13, 14, 15, 16, 17, 18, 19, 20, 21, 22, 23, 24, 25, 26, 27, 28, 29, 30, 31, 32, 33, 34, 35, 36, 37, 38, 39, 40, 41, 42, 59, 60, 61, 62, 63, 64, 65, 66, 67, 68, 69, 82, 83, 84, 85, 86, 87, 88, 89, 90, 91, 92, 93, 94, 95, 70, 71, 72, 73, 74, 75, 76, 77, 78, 79, 80, 81] (by decide +kernel) (by decide +kernel)
set_option maxRecDepth 20000 in
theorem gX5_ask_X5_traitor : GoodIn wsX5_ask (wsV RX5 280 RX5 yX5_traitor wsX5_traitor) := goodIn_app (goodIn_of _ (by decide +kernel)) ggX5_ask_X5_traitor
set_option maxRecDepth 20000 in
theorem ggX5_ask_J6_bitCount_0f7a4 : GoodIn wsX5_ask wsJ6_bitCount_0f7a4 := goodIn_r _ [46, 47, 48, 49] (by decide +kernel) (by decide +kernel)
set_option maxRecDepth 20000 in
theorem gX5_ask_J6_bitCount_0f7a4 : GoodIn wsX5_ask (va_wsS RX5 192 yJ6_bitCount_0f7a4 wsJ6_bitCount_0f7a4) := goodIn_app (goodIn_of _ (by decide +kernel)) ggX5_ask_J6_bitCount_0f7a4
set_option maxRecDepth 20000 in
theorem ggX5_ask_X5_greaterPart : GoodIn wsX5_ask wsX5_greaterPart := goodIn_r _ [53, 1, 54, 55, 56, 57, 11, 12, 6, 13, 14, 15, 16, 17, 8, 9, 58, 28, 29, 30, 31, 32, 33, 34, 35, 36, 37, 38, 39, 40, 41, 42, 43, 44, 45, 46, 47, 48, 49, 59, 60, 61, 62, 63, 64, 65, 66, 67, 68, 69, 82, 83, 84, 85, 86, 87, 88, 70, 71, 72, 73, 74, 75, 76, 77, 78, 79, 80, 81] (by decide +kernel) (by decide +kernel)
set_option maxRecDepth 20000 in
theorem gX5_ask_X5_greaterPart : GoodIn wsX5_ask (wsV RX5 283 RX5 yX5_greaterPart wsX5_greaterPart) := goodIn_app (goodIn_of _ (by decide +kernel)) ggX5_ask_X5_greaterPart
theorem dX5_ask_0 : decode cX5_ask 0 = .ok (.aload_n 0, 1) := by decide +kernel
theorem dX5_ask_1 : decode cX5_ask 1 = .ok (.invokevirtual 280, 3) := by decide +kernel
theorem dX5_ask_4 : decode cX5_ask 4 = .ok (.istore_n 1, 1) := by decide +kernel
theorem dX5_ask_5 : decode cX5_ask 5 = .ok (.iload_n 1, 1) := by decide +kernel
theorem dX5_ask_6 : decode cX5_ask 6 = .ok (.invokestatic 192, 3) := by decide +kernel
theorem dX5_ask_9 : decode cX5_ask 9 = .ok (.istore_n 2, 1) := by decide +kernel
theorem dX5_ask_10 : decode cX5_ask 10 = .ok (.iconst (-1), 1) := by decide +kernel
theorem dX5_ask_11 : decode cX5_ask 11 = .ok (.istore_n 3, 1) := by decide +kernel
theorem dX5_ask_12 : decode cX5_ask 12 = .ok (.iconst 0, 1) := by decide +kernel
theorem dX5_ask_13 : decode cX5_ask 13 = .ok (.istore 4, 2) := by decide +kernel
theorem dX5_ask_15 : decode cX5_ask 15 = .ok (.iload 4, 2) := by decide +kernel
theorem dX5_ask_17 : decode cX5_ask 17 = .ok (.aload_n 0, 1) := by decide +kernel
theorem dX5_ask_18 : decode cX5_ask 18 = .ok (.getfield 19, 3) := by decide +kernel
theorem dX5_ask_21 : decode cX5_ask 21 = .ok (.getfield 95, 3) := by decide +kernel
theorem dX5_ask_24 : decode cX5_ask 24 = .ok (.if_icmp .ge 62, 3) := by decide +kernel
theorem dX5_ask_27 : decode cX5_ask 27 = .ok (.iload 4, 2) := by decide +kernel
theorem dX5_ask_29 : decode cX5_ask 29 = .ok (.iconst 1, 1) := by decide +kernel
theorem dX5_ask_30 : decode cX5_ask 30 = .ok (.iadd, 1) := by decide +kernel
theorem dX5_ask_31 : decode cX5_ask 31 = .ok (.istore 5, 2) := by decide +kernel
theorem dX5_ask_33 : decode cX5_ask 33 = .ok (.iload 5, 2) := by decide +kernel
theorem dX5_ask_35 : decode cX5_ask 35 = .ok (.aload_n 0, 1) := by decide +kernel
theorem dX5_ask_36 : decode cX5_ask 36 = .ok (.getfield 19, 3) := by decide +kernel
theorem dX5_ask_39 : decode cX5_ask 39 = .ok (.getfield 95, 3) := by decide +kernel
theorem dX5_ask_42 : decode cX5_ask 42 = .ok (.if_icmp .ge 38, 3) := by decide +kernel
theorem dX5_ask_45 : decode cX5_ask 45 = .ok (.aload_n 0, 1) := by decide +kernel
theorem dX5_ask_46 : decode cX5_ask 46 = .ok (.iload 4, 2) := by decide +kernel
theorem dX5_ask_48 : decode cX5_ask 48 = .ok (.iload 5, 2) := by decide +kernel
theorem dX5_ask_50 : decode cX5_ask 50 = .ok (.iload_n 1, 1) := by decide +kernel
theorem dX5_ask_51 : decode cX5_ask 51 = .ok (.invokevirtual 283, 3) := by decide +kernel
theorem dX5_ask_54 : decode cX5_ask 54 = .ok (.istore 6, 2) := by decide +kernel
theorem dX5_ask_56 : decode cX5_ask 56 = .ok (.iload 6, 2) := by decide +kernel
theorem dX5_ask_58 : decode cX5_ask 58 = .ok (.iload_n 2, 1) := by decide +kernel
theorem dX5_ask_59 : decode cX5_ask 59 = .ok (.if_icmp .ge 15, 3) := by decide +kernel
theorem dX5_ask_62 : decode cX5_ask 62 = .ok (.iload 6, 2) := by decide +kernel
theorem dX5_ask_64 : decode cX5_ask 64 = .ok (.istore_n 2, 1) := by decide +kernel
theorem dX5_ask_65 : decode cX5_ask 65 = .ok (.bipush 10, 2) := by decide +kernel
theorem dX5_ask_67 : decode cX5_ask 67 = .ok (.iload 4, 2) := by decide +kernel
theorem dX5_ask_69 : decode cX5_ask 69 = .ok (.imul, 1) := by decide +kernel
theorem dX5_ask_70 : decode cX5_ask 70 = .ok (.iload 5, 2) := by decide +kernel
theorem dX5_ask_72 : decode cX5_ask 72 = .ok (.iadd, 1) := by decide +kernel
theorem dX5_ask_73 : decode cX5_ask 73 = .ok (.istore_n 3, 1) := by decide +kernel
theorem dX5_ask_74 : decode cX5_ask 74 = .ok (.iinc 5 1, 3) := by decide +kernel
theorem dX5_ask_77 : decode cX5_ask 77 = .ok (.goto (-44), 3) := by decide +kernel
theorem dX5_ask_80 : decode cX5_ask 80 = .ok (.iinc 4 1, 3) := by decide +kernel
theorem dX5_ask_83 : decode cX5_ask 83 = .ok (.goto (-68), 3) := by decide +kernel
theorem dX5_ask_86 : decode cX5_ask 86 = .ok (.iload_n 3, 1) := by decide +kernel
theorem dX5_ask_87 : decode cX5_ask 87 = .ok (.ireturn, 1) := by decide +kernel
set_option maxRecDepth 20000 in
theorem ggX5_write_X1_hasLink : GoodIn wsX5_write wsX1_hasLink := goodIn_r _ [11, 12, 43, 44, 45, 46, 47, 48, 49, 50, 51, 52, 53, 54] (by decide +kernel) (by decide +kernel)
set_option maxRecDepth 20000 in
theorem gX5_write_X1_hasLink : GoodIn wsX5_write (wsV RX5 131 RX1 yX1_hasLink wsX1_hasLink) := goodIn_app (goodIn_of _ (by decide +kernel)) ggX5_write_X1_hasLink
set_option maxRecDepth 20000 in
theorem ggX5_write_X5_isWithin : GoodIn wsX5_write wsX5_isWithin := goodIn_r _ [16] (by decide +kernel) (by decide +kernel)
set_option maxRecDepth 20000 in
theorem gX5_write_X5_isWithin : GoodIn wsX5_write (va_wsS RX5 64 yX5_isWithin wsX5_isWithin) := goodIn_app (goodIn_of _ (by decide +kernel)) ggX5_write_X5_isWithin
set_option maxRecDepth 20000 in
theorem ggX5_write_X3_addEntry : GoodIn wsX5_write wsX3_addEntry := goodIn_r _ [21, 22, 23, 24, 36, 37, 38, 39, 40, 41, 42] (by decide +kernel) (by decide +kernel)
set_option maxRecDepth 20000 in
theorem gX5_write_X3_addEntry : GoodIn wsX5_write (wsV RX5 286 RX3 yX3_addEntry wsX3_addEntry) := goodIn_app (goodIn_of _ (by decide +kernel)) ggX5_write_X3_addEntry
theorem dX5_write_0 : decode cX5_write 0 = .ok (.aload_n 0, 1) := by decide +kernel
theorem dX5_write_1 : decode cX5_write 1 = .ok (.getfield 19, 3) := by decide +kernel
theorem dX5_write_4 : decode cX5_write 4 = .ok (.iload_n 1, 1) := by decide +kernel
theorem dX5_write_5 : decode cX5_write 5 = .ok (.invokevirtual 131, 3) := by decide +kernel
theorem dX5_write_8 : decode cX5_write 8 = .ok (.ifCond .ne 6, 3) := by decide +kernel
theorem dX5_write_11 : decode cX5_write 11 = .ok (.ldc 135, 2) := by decide +kernel
theorem dX5_write_13 : decode cX5_write 13 = .ok (.ireturn, 1) := by decide +kernel
theorem dX5_write_14 : decode cX5_write 14 = .ok (.iload_n 2, 1) := by decide +kernel
theorem dX5_write_15 : decode cX5_write 15 = .ok (.iconst 0, 1) := by decide +kernel
theorem dX5_write_16 : decode cX5_write 16 = .ok (.iconst 1, 1) := by decide +kernel
theorem dX5_write_17 : decode cX5_write 17 = .ok (.invokestatic 64, 3) := by decide +kernel
theorem dX5_write_20 : decode cX5_write 20 = .ok (.ifCond .ne 6, 3) := by decide +kernel
theorem dX5_write_23 : decode cX5_write 23 = .ok (.ldc 68, 2) := by decide +kernel
theorem dX5_write_25 : decode cX5_write 25 = .ok (.ireturn, 1) := by decide +kernel
theorem dX5_write_26 : decode cX5_write 26 = .ok (.aload_n 0, 1) := by decide +kernel
theorem dX5_write_27 : decode cX5_write 27 = .ok (.getfield 46, 3) := by decide +kernel
theorem dX5_write_30 : decode cX5_write 30 = .ok (.getfield 127, 3) := by decide +kernel
theorem dX5_write_33 : decode cX5_write 33 = .ok (.bipush 20, 2) := by decide +kernel
theorem dX5_write_35 : decode cX5_write 35 = .ok (.if_icmp .lt 6, 3) := by decide +kernel
theorem dX5_write_38 : decode cX5_write 38 = .ok (.ldc 72, 2) := by decide +kernel
theorem dX5_write_40 : decode cX5_write 40 = .ok (.ireturn, 1) := by decide +kernel
theorem dX5_write_41 : decode cX5_write 41 = .ok (.aload_n 0, 1) := by decide +kernel
theorem dX5_write_42 : decode cX5_write 42 = .ok (.getfield 46, 3) := by decide +kernel
theorem dX5_write_45 : decode cX5_write 45 = .ok (.iload_n 1, 1) := by decide +kernel
theorem dX5_write_46 : decode cX5_write 46 = .ok (.iload_n 2, 1) := by decide +kernel
theorem dX5_write_47 : decode cX5_write 47 = .ok (.invokevirtual 286, 3) := by decide +kernel
theorem dX5_write_50 : decode cX5_write 50 = .ok (.ireturn, 1) := by decide +kernel
set_option maxRecDepth 20000 in
theorem ggX5_judge_X3_firstWrong : GoodIn wsX5_judge wsX3_firstWrong := goodIn_r _ [8, 9, 10, 11, 12, 13, 14, 33, 34, 35, 36, 37, 38, 39] (by decide +kernel) (by decide +kernel)
set_option maxRecDepth 20000 in
theorem gX5_judge_X3_firstWrong : GoodIn wsX5_judge (wsV RX5 289 RX3 yX3_firstWrong wsX3_firstWrong) := goodIn_app (goodIn_of _ (by decide +kernel)) ggX5_judge_X3_firstWrong
theorem dX5_judge_0 : decode cX5_judge 0 = .ok (.aload_n 0, 1) := by decide +kernel
theorem dX5_judge_1 : decode cX5_judge 1 = .ok (.getfield 46, 3) := by decide +kernel
theorem dX5_judge_4 : decode cX5_judge 4 = .ok (.aload_n 0, 1) := by decide +kernel
theorem dX5_judge_5 : decode cX5_judge 5 = .ok (.getfield 29, 3) := by decide +kernel
theorem dX5_judge_8 : decode cX5_judge 8 = .ok (.getfield 110, 3) := by decide +kernel
theorem dX5_judge_11 : decode cX5_judge 11 = .ok (.invokevirtual 289, 3) := by decide +kernel
theorem dX5_judge_14 : decode cX5_judge 14 = .ok (.ireturn, 1) := by decide +kernel
set_option maxRecDepth 20000 in
theorem ggX5_tear_X3_forget : GoodIn wsX5_tear wsX3_forget := goodIn_r _ [8, 9, 10, 11, 12, 24, 25, 26, 27, 28, 29, 30] (by decide +kernel) (by decide +kernel)
set_option maxRecDepth 20000 in
theorem gX5_tear_X3_forget : GoodIn wsX5_tear (wsV RX5 88 RX3 yX3_forget wsX3_forget) := goodIn_app (goodIn_of _ (by decide +kernel)) ggX5_tear_X3_forget
theorem dX5_tear_0 : decode cX5_tear 0 = .ok (.aload_n 0, 1) := by decide +kernel
theorem dX5_tear_1 : decode cX5_tear 1 = .ok (.getfield 46, 3) := by decide +kernel
theorem dX5_tear_4 : decode cX5_tear 4 = .ok (.getfield 124, 3) := by decide +kernel
theorem dX5_tear_7 : decode cX5_tear 7 = .ok (.aload_n 0, 1) := by decide +kernel
theorem dX5_tear_8 : decode cX5_tear 8 = .ok (.getfield 46, 3) := by decide +kernel
theorem dX5_tear_11 : decode cX5_tear 11 = .ok (.getfield 127, 3) := by decide +kernel
theorem dX5_tear_14 : decode cX5_tear 14 = .ok (.iadd, 1) := by decide +kernel
theorem dX5_tear_15 : decode cX5_tear 15 = .ok (.istore_n 1, 1) := by decide +kernel
theorem dX5_tear_16 : decode cX5_tear 16 = .ok (.aload_n 0, 1) := by decide +kernel
theorem dX5_tear_17 : decode cX5_tear 17 = .ok (.getfield 46, 3) := by decide +kernel
theorem dX5_tear_20 : decode cX5_tear 20 = .ok (.invokevirtual 88, 3) := by decide +kernel
theorem dX5_tear_23 : decode cX5_tear 23 = .ok (.iload_n 1, 1) := by decide +kernel
theorem dX5_tear_24 : decode cX5_tear 24 = .ok (.ireturn, 1) := by decide +kernel
theorem dX5_seed_0 : decode cX5_seed 0 = .ok (.iload_n 1, 1) := by decide +kernel
theorem dX5_seed_1 : decode cX5_seed 1 = .ok (.ifCond .ge 6, 3) := by decide +kernel
theorem dX5_seed_4 : decode cX5_seed 4 = .ok (.ldc 68, 2) := by decide +kernel
theorem dX5_seed_6 : decode cX5_seed 6 = .ok (.ireturn, 1) := by decide +kernel
theorem dX5_seed_7 : decode cX5_seed 7 = .ok (.aload_n 0, 1) := by decide +kernel
theorem dX5_seed_8 : decode cX5_seed 8 = .ok (.getfield 61, 3) := by decide +kernel
theorem dX5_seed_11 : decode cX5_seed 11 = .ok (.istore_n 2, 1) := by decide +kernel
theorem dX5_seed_12 : decode cX5_seed 12 = .ok (.aload_n 0, 1) := by decide +kernel
theorem dX5_seed_13 : decode cX5_seed 13 = .ok (.iload_n 1, 1) := by decide +kernel
theorem dX5_seed_14 : decode cX5_seed 14 = .ok (.putfield 61, 3) := by decide +kernel
theorem dX5_seed_17 : decode cX5_seed 17 = .ok (.iload_n 2, 1) := by decide +kernel
theorem dX5_seed_18 : decode cX5_seed 18 = .ok (.ireturn, 1) := by decide +kernel
set_option maxRecDepth 20000 in
theorem ggX5_keep_X5_isWithin : GoodIn wsX5_keep wsX5_isWithin := goodIn_r _ [11] (by decide +kernel) (by decide +kernel)
set_option maxRecDepth 20000 in
theorem gX5_keep_X5_isWithin : GoodIn wsX5_keep (va_wsS RX5 64 yX5_isWithin wsX5_isWithin) := goodIn_app (goodIn_of _ (by decide +kernel)) ggX5_keep_X5_isWithin
set_option maxRecDepth 20000 in
theorem ggX5_keep_X0_store : GoodIn wsX5_keep wsX0_store := goodIn_r _ [16, 17, 18, 19, 20, 21, 22, 23, 24, 25, 26, 27, 46, 47, 48, 49, 50, 51, 52] (by decide +kernel) (by decide +kernel)
set_option maxRecDepth 20000 in
theorem gX5_keep_X0_store : GoodIn wsX5_keep (wsV RX5 292 RX0 yX0_store wsX0_store) := goodIn_app (goodIn_of _ (by decide +kernel)) ggX5_keep_X0_store
set_option maxRecDepth 20000 in
theorem ggX5_keep_X2_forget : GoodIn wsX5_keep wsX2_forget := goodIn_r _ [32, 33, 34, 53, 54, 55] (by decide +kernel) (by decide +kernel)
set_option maxRecDepth 20000 in
theorem gX5_keep_X2_forget : GoodIn wsX5_keep (wsV RX5 85 RX2 yX2_forget wsX2_forget) := goodIn_app (goodIn_of _ (by decide +kernel)) ggX5_keep_X2_forget
theorem dX5_keep_0 : decode cX5_keep 0 = .ok (.iload_n 1, 1) := by decide +kernel
theorem dX5_keep_1 : decode cX5_keep 1 = .ok (.iconst 0, 1) := by decide +kernel
theorem dX5_keep_2 : decode cX5_keep 2 = .ok (.iconst 1, 1) := by decide +kernel
theorem dX5_keep_3 : decode cX5_keep 3 = .ok (.invokestatic 64, 3) := by decide +kernel
theorem dX5_keep_6 : decode cX5_keep 6 = .ok (.ifCond .ne 6, 3) := by decide +kernel
theorem dX5_keep_9 : decode cX5_keep 9 = .ok (.ldc 135, 2) := by decide +kernel
theorem dX5_keep_11 : decode cX5_keep 11 = .ok (.ireturn, 1) := by decide +kernel
theorem dX5_keep_12 : decode cX5_keep 12 = .ok (.aload_n 0, 1) := by decide +kernel
theorem dX5_keep_13 : decode cX5_keep 13 = .ok (.getfield 29, 3) := by decide +kernel
theorem dX5_keep_16 : decode cX5_keep 16 = .ok (.aload_n 0, 1) := by decide +kernel
theorem dX5_keep_17 : decode cX5_keep 17 = .ok (.getfield 50, 3) := by decide +kernel
theorem dX5_keep_20 : decode cX5_keep 20 = .ok (.iload_n 1, 1) := by decide +kernel
theorem dX5_keep_21 : decode cX5_keep 21 = .ok (.invokevirtual 292, 3) := by decide +kernel
theorem dX5_keep_24 : decode cX5_keep 24 = .ok (.aload_n 0, 1) := by decide +kernel
theorem dX5_keep_25 : decode cX5_keep 25 = .ok (.getfield 54, 3) := by decide +kernel
theorem dX5_keep_28 : decode cX5_keep 28 = .ok (.iload_n 1, 1) := by decide +kernel
theorem dX5_keep_29 : decode cX5_keep 29 = .ok (.aload_n 0, 1) := by decide +kernel
theorem dX5_keep_30 : decode cX5_keep 30 = .ok (.getfield 61, 3) := by decide +kernel
theorem dX5_keep_33 : decode cX5_keep 33 = .ok (.iastore, 1) := by decide +kernel
theorem dX5_keep_34 : decode cX5_keep 34 = .ok (.aload_n 0, 1) := by decide +kernel
theorem dX5_keep_35 : decode cX5_keep 35 = .ok (.dup, 1) := by decide +kernel
theorem dX5_keep_36 : decode cX5_keep 36 = .ok (.getfield 57, 3) := by decide +kernel
theorem dX5_keep_39 : decode cX5_keep 39 = .ok (.iconst 1, 1) := by decide +kernel
theorem dX5_keep_40 : decode cX5_keep 40 = .ok (.iload_n 1, 1) := by decide +kernel
theorem dX5_keep_41 : decode cX5_keep 41 = .ok (.ishl, 1) := by decide +kernel
theorem dX5_keep_42 : decode cX5_keep 42 = .ok (.ior, 1) := by decide +kernel
theorem dX5_keep_43 : decode cX5_keep 43 = .ok (.putfield 57, 3) := by decide +kernel
theorem dX5_keep_46 : decode cX5_keep 46 = .ok (.aload_n 0, 1) := by decide +kernel
theorem dX5_keep_47 : decode cX5_keep 47 = .ok (.getfield 39, 3) := by decide +kernel
theorem dX5_keep_50 : decode cX5_keep 50 = .ok (.invokevirtual 85, 3) := by decide +kernel
theorem dX5_keep_53 : decode cX5_keep 53 = .ok (.iconst 1, 1) := by decide +kernel
theorem dX5_keep_54 : decode cX5_keep 54 = .ok (.ireturn, 1) := by decide +kernel
set_option maxRecDepth 20000 in
theorem ggX5_goBack_X5_isWithin : GoodIn wsX5_goBack wsX5_isWithin := goodIn_r _ [12] (by decide +kernel) (by decide +kernel)
set_option maxRecDepth 20000 in
theorem gX5_goBack_X5_isWithin : GoodIn wsX5_goBack (va_wsS RX5 64 yX5_isWithin wsX5_isWithin) := goodIn_app (goodIn_of _ (by decide +kernel)) ggX5_goBack_X5_isWithin
set_option maxRecDepth 20000 in
theorem ggX5_goBack_X5_has : GoodIn wsX5_goBack wsX5_has := goodIn_r _ [15] (by decide +kernel) (by decide +kernel)
set_option maxRecDepth 20000 in
theorem gX5_goBack_X5_has : GoodIn wsX5_goBack (va_wsS RX5 151 yX5_has wsX5_has) := goodIn_app (goodIn_of _ (by decide +kernel)) ggX5_goBack_X5_has
set_option maxRecDepth 20000 in
theorem ggX5_goBack_X0_restore : GoodIn wsX5_goBack wsX0_restore := goodIn_r _ [20, 21, 22, 23, 24, 25, 26, 27, 28, 29, 30, 31, 50, 51, 52, 53, 54, 55, 56] (by decide +kernel) (by decide +kernel)
set_option maxRecDepth 20000 in
theorem gX5_goBack_X0_restore : GoodIn wsX5_goBack (wsV RX5 296 RX0 yX0_restore wsX0_restore) := goodIn_app (goodIn_of _ (by decide +kernel)) ggX5_goBack_X0_restore
set_option maxRecDepth 20000 in
theorem ggX5_goBack_X2_forget : GoodIn wsX5_goBack wsX2_forget := goodIn_r _ [36, 37, 38, 57, 58, 59] (by decide +kernel) (by decide +kernel)
set_option maxRecDepth 20000 in
theorem gX5_goBack_X2_forget : GoodIn wsX5_goBack (wsV RX5 85 RX2 yX2_forget wsX2_forget) := goodIn_app (goodIn_of _ (by decide +kernel)) ggX5_goBack_X2_forget
theorem dX5_goBack_0 : decode cX5_goBack 0 = .ok (.iload_n 1, 1) := by decide +kernel
theorem dX5_goBack_1 : decode cX5_goBack 1 = .ok (.iconst 0, 1) := by decide +kernel
theorem dX5_goBack_2 : decode cX5_goBack 2 = .ok (.iconst 1, 1) := by decide +kernel
theorem dX5_goBack_3 : decode cX5_goBack 3 = .ok (.invokestatic 64, 3) := by decide +kernel
theorem dX5_goBack_6 : decode cX5_goBack 6 = .ok (.ifCond .ne 6, 3) := by decide +kernel
theorem dX5_goBack_9 : decode cX5_goBack 9 = .ok (.ldc 135, 2) := by decide +kernel
theorem dX5_goBack_11 : decode cX5_goBack 11 = .ok (.ireturn, 1) := by decide +kernel
theorem dX5_goBack_12 : decode cX5_goBack 12 = .ok (.aload_n 0, 1) := by decide +kernel
theorem dX5_goBack_13 : decode cX5_goBack 13 = .ok (.getfield 57, 3) := by decide +kernel
theorem dX5_goBack_16 : decode cX5_goBack 16 = .ok (.iload_n 1, 1) := by decide +kernel
theorem dX5_goBack_17 : decode cX5_goBack 17 = .ok (.invokestatic 151, 3) := by decide +kernel
theorem dX5_goBack_20 : decode cX5_goBack 20 = .ok (.ifCond .ne 6, 3) := by decide +kernel
theorem dX5_goBack_23 : decode cX5_goBack 23 = .ok (.ldc 178, 2) := by decide +kernel
theorem dX5_goBack_25 : decode cX5_goBack 25 = .ok (.ireturn, 1) := by decide +kernel
theorem dX5_goBack_26 : decode cX5_goBack 26 = .ok (.aload_n 0, 1) := by decide +kernel
theorem dX5_goBack_27 : decode cX5_goBack 27 = .ok (.getfield 29, 3) := by decide +kernel
theorem dX5_goBack_30 : decode cX5_goBack 30 = .ok (.aload_n 0, 1) := by decide +kernel
theorem dX5_goBack_31 : decode cX5_goBack 31 = .ok (.getfield 50, 3) := by decide +kernel
theorem dX5_goBack_34 : decode cX5_goBack 34 = .ok (.iload_n 1, 1) := by decide +kernel
theorem dX5_goBack_35 : decode cX5_goBack 35 = .ok (.invokevirtual 296, 3) := by decide +kernel
theorem dX5_goBack_38 : decode cX5_goBack 38 = .ok (.aload_n 0, 1) := by decide +kernel
theorem dX5_goBack_39 : decode cX5_goBack 39 = .ok (.aload_n 0, 1) := by decide +kernel
theorem dX5_goBack_40 : decode cX5_goBack 40 = .ok (.getfield 54, 3) := by decide +kernel
theorem dX5_goBack_43 : decode cX5_goBack 43 = .ok (.iload_n 1, 1) := by decide +kernel
theorem dX5_goBack_44 : decode cX5_goBack 44 = .ok (.iaload, 1) := by decide +kernel
theorem dX5_goBack_45 : decode cX5_goBack 45 = .ok (.putfield 61, 3) := by decide +kernel
theorem dX5_goBack_48 : decode cX5_goBack 48 = .ok (.aload_n 0, 1) := by decide +kernel
theorem dX5_goBack_49 : decode cX5_goBack 49 = .ok (.getfield 39, 3) := by decide +kernel
theorem dX5_goBack_52 : decode cX5_goBack 52 = .ok (.invokevirtual 85, 3) := by decide +kernel
theorem dX5_goBack_55 : decode cX5_goBack 55 = .ok (.iconst 1, 1) := by decide +kernel
theorem dX5_goBack_56 : decode cX5_goBack 56 = .ok (.ireturn, 1) := by decide +kernel
theorem dX5_has_0 : decode cX5_has 0 = .ok (.iload_n 0, 1) := by decide +kernel
theorem dX5_has_1 : decode cX5_has 1 = .ok (.iload_n 1, 1) := by decide +kernel
theorem dX5_has_2 : decode cX5_has 2 = .ok (.ishr, 1) := by decide +kernel
theorem dX5_has_3 : decode cX5_has 3 = .ok (.iconst 1, 1) := by decide +kernel
theorem dX5_has_4 : decode cX5_has 4 = .ok (.iand, 1) := by decide +kernel
theorem dX5_has_5 : decode cX5_has 5 = .ok (.ifCond .eq 7, 3) := by decide +kernel
theorem dX5_has_8 : decode cX5_has 8 = .ok (.iconst 1, 1) := by decide +kernel
theorem dX5_has_9 : decode cX5_has 9 = .ok (.goto 4, 3) := by decide +kernel
theorem dX5_has_12 : decode cX5_has 12 = .ok (.iconst 0, 1) := by decide +kernel
theorem dX5_has_13 : decode cX5_has 13 = .ok (.ireturn, 1) := by decide +kernel
theorem dX5_isWithin_0 : decode cX5_isWithin 0 = .ok (.iload_n 0, 1) := by decide +kernel
theorem dX5_isWithin_1 : decode cX5_isWithin 1 = .ok (.iload_n 1, 1) := by decide +kernel
theorem dX5_isWithin_2 : decode cX5_isWithin 2 = .ok (.if_icmp .lt 12, 3) := by decide +kernel
theorem dX5_isWithin_5 : decode cX5_isWithin 5 = .ok (.iload_n 0, 1) := by decide +kernel
theorem dX5_isWithin_6 : decode cX5_isWithin 6 = .ok (.iload_n 2, 1) := by decide +kernel
theorem dX5_isWithin_7 : decode cX5_isWithin 7 = .ok (.if_icmp .gt 7, 3) := by decide +kernel
theorem dX5_isWithin_10 : decode cX5_isWithin 10 = .ok (.iconst 1, 1) := by decide +kernel
theorem dX5_isWithin_11 : decode cX5_isWithin 11 = .ok (.goto 4, 3) := by decide +kernel
theorem dX5_isWithin_14 : decode cX5_isWithin 14 = .ok (.iconst 0, 1) := by decide +kernel
theorem dX5_isWithin_15 : decode cX5_isWithin 15 = .ok (.ireturn, 1) := by decide +kernel
set_option maxRecDepth 20000 in
theorem ggX5_leastOf_J6_numberOfTrailingZeros_0f7a4 : GoodIn wsX5_leastOf wsJ6_numberOfTrailingZeros_0f7a4 := goodIn_r _ [4, 5] (by decide +kernel) (by decide +kernel)
set_option maxRecDepth 20000 in
theorem gX5_leastOf_J6_numberOfTrailingZeros_0f7a4 : GoodIn wsX5_leastOf (va_wsS RX5 299 yJ6_numberOfTrailingZeros_0f7a4 wsJ6_numberOfTrailingZeros_0f7a4) := goodIn_app (goodIn_of _ (by decide +kernel)) ggX5_leastOf_J6_numberOfTrailingZeros_0f7a4
theorem dX5_leastOf_0 : decode cX5_leastOf 0 = .ok (.iload_n 0, 1) := by decide +kernel
theorem dX5_leastOf_1 : decode cX5_leastOf 1 = .ok (.ifCond .ne 7, 3) := by decide +kernel
theorem dX5_leastOf_4 : decode cX5_leastOf 4 = .ok (.iconst (-1), 1) := by decide +kernel
theorem dX5_leastOf_5 : decode cX5_leastOf 5 = .ok (.goto 7, 3) := by decide +kernel
theorem dX5_leastOf_8 : decode cX5_leastOf 8 = .ok (.iload_n 0, 1) := by decide +kernel
theorem dX5_leastOf_9 : decode cX5_leastOf 9 = .ok (.invokestatic 299, 3) := by decide +kernel
theorem dX5_leastOf_12 : decode cX5_leastOf 12 = .ok (.ireturn, 1) := by decide +kernel
set_option maxRecDepth 20000 in
theorem ggX5_areTwoIslands_X1_hasIsland : GoodIn wsX5_areTwoIslands wsX1_hasIsland := goodIn_r _ [6, 7, 19, 20, 21, 22, 23, 24, 25, 26, 27, 28, 29, 30] (by decide +kernel) (by decide +kernel)
set_option maxRecDepth 20000 in
theorem gX5_areTwoIslands_X1_hasIsland : GoodIn wsX5_areTwoIslands (wsV RX5 164 RX1 yX1_hasIsland wsX1_hasIsland) := goodIn_app (goodIn_of _ (by decide +kernel)) ggX5_areTwoIslands_X1_hasIsland
theorem dX5_areTwoIslands_0 : decode cX5_areTwoIslands 0 = .ok (.aload_n 0, 1) := by decide +kernel
theorem dX5_areTwoIslands_1 : decode cX5_areTwoIslands 1 = .ok (.getfield 19, 3) := by decide +kernel
theorem dX5_areTwoIslands_4 : decode cX5_areTwoIslands 4 = .ok (.iload_n 1, 1) := by decide +kernel
theorem dX5_areTwoIslands_5 : decode cX5_areTwoIslands 5 = .ok (.invokevirtual 164, 3) := by decide +kernel
theorem dX5_areTwoIslands_8 : decode cX5_areTwoIslands 8 = .ok (.ifCond .eq 23, 3) := by decide +kernel
theorem dX5_areTwoIslands_11 : decode cX5_areTwoIslands 11 = .ok (.aload_n 0, 1) := by decide +kernel
theorem dX5_areTwoIslands_12 : decode cX5_areTwoIslands 12 = .ok (.getfield 19, 3) := by decide +kernel
theorem dX5_areTwoIslands_15 : decode cX5_areTwoIslands 15 = .ok (.iload_n 2, 1) := by decide +kernel
theorem dX5_areTwoIslands_16 : decode cX5_areTwoIslands 16 = .ok (.invokevirtual 164, 3) := by decide +kernel
theorem dX5_areTwoIslands_19 : decode cX5_areTwoIslands 19 = .ok (.ifCond .eq 12, 3) := by decide +kernel
theorem dX5_areTwoIslands_22 : decode cX5_areTwoIslands 22 = .ok (.iload_n 1, 1) := by decide +kernel
theorem dX5_areTwoIslands_23 : decode cX5_areTwoIslands 23 = .ok (.iload_n 2, 1) := by decide +kernel
theorem dX5_areTwoIslands_24 : decode cX5_areTwoIslands 24 = .ok (.if_icmp .eq 7, 3) := by decide +kernel
