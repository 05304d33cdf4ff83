theorem dX0_init_0 : decode cX0_init 0 = .ok (.aload_n 0, 1) := by decide +kernel
theorem dX0_init_1 : decode cX0_init 1 = .ok (.invokespecial 3, 3) := by decide +kernel
theorem dX0_init_4 : decode cX0_init 4 = .ok (.aload_n 0, 1) := by decide +kernel
theorem dX0_init_5 : decode cX0_init 5 = .ok (.bipush 10, 2) := by decide +kernel
theorem dX0_init_7 : decode cX0_init 7 = .ok (.newarray .int, 2) := by decide +kernel
theorem dX0_init_9 : decode cX0_init 9 = .ok (.putfield 9, 3) := by decide +kernel
theorem dX0_init_12 : decode cX0_init 12 = .ok (.aload_n 0, 1) := by decide +kernel
theorem dX0_init_13 : decode cX0_init 13 = .ok (.iconst 0, 1) := by decide +kernel
theorem dX0_init_14 : decode cX0_init 14 = .ok (.putfield 15, 3) := by decide +kernel
theorem dX0_init_17 : decode cX0_init 17 = .ok (.aload_n 0, 1) := by decide +kernel
theorem dX0_init_18 : decode cX0_init 18 = .ok (.iconst 0, 1) := by decide +kernel
theorem dX0_init_19 : decode cX0_init 19 = .ok (.putfield 19, 3) := by decide +kernel
theorem dX0_init_22 : decode cX0_init 22 = .ok (.aload_n 0, 1) := by decide +kernel
theorem dX0_init_23 : decode cX0_init 23 = .ok (.iconst 0, 1) := by decide +kernel
theorem dX0_init_24 : decode cX0_init 24 = .ok (.putfield 22, 3) := by decide +kernel
theorem dX0_init_27 : decode cX0_init 27 = .ok (.aload_n 0, 1) := by decide +kernel
theorem dX0_init_28 : decode cX0_init 28 = .ok (.iconst 0, 1) := by decide +kernel
theorem dX0_init_29 : decode cX0_init 29 = .ok (.putfield 25, 3) := by decide +kernel
theorem dX0_init_32 : decode cX0_init 32 = .ok (.aload_n 0, 1) := by decide +kernel
theorem dX0_init_33 : decode cX0_init 33 = .ok (.iconst 0, 1) := by decide +kernel
theorem dX0_init_34 : decode cX0_init 34 = .ok (.putfield 28, 3) := by decide +kernel
theorem dX0_init_37 : decode cX0_init 37 = .ok (.aload_n 0, 1) := by decide +kernel
theorem dX0_init_38 : decode cX0_init 38 = .ok (.iconst 0, 1) := by decide +kernel
theorem dX0_init_39 : decode cX0_init 39 = .ok (.putfield 31, 3) := by decide +kernel
theorem dX0_init_42 : decode cX0_init 42 = .ok (.return_, 1) := by decide +kernel
set_option maxRecDepth 20000 in
theorem ggX0_begin_X1_isThere : GoodIn wsX0_begin wsX1_isThere := goodIn_r _ [13, 14, 22, 23, 24, 25, 26, 27, 28, 29, 30, 31, 32, 33] (by decide +kernel) (by decide +kernel)
set_option maxRecDepth 20000 in
theorem gX0_begin_X1_isThere : GoodIn wsX0_begin (wsV RX0 39 RX1 yX1_isThere wsX1_isThere) := goodIn_app (goodIn_of _ (by decide +kernel)) ggX0_begin_X1_isThere
theorem dX0_begin_0 : decode cX0_begin 0 = .ok (.iconst 0, 1) := by decide +kernel
theorem dX0_begin_1 : decode cX0_begin 1 = .ok (.istore_n 2, 1) := by decide +kernel
theorem dX0_begin_2 : decode cX0_begin 2 = .ok (.iload_n 2, 1) := by decide +kernel
theorem dX0_begin_3 : decode cX0_begin 3 = .ok (.bipush 10, 2) := by decide +kernel
theorem dX0_begin_5 : decode cX0_begin 5 = .ok (.if_icmp .ge 16, 3) := by decide +kernel
theorem dX0_begin_8 : decode cX0_begin 8 = .ok (.aload_n 0, 1) := by decide +kernel
theorem dX0_begin_9 : decode cX0_begin 9 = .ok (.getfield 9, 3) := by decide +kernel
theorem dX0_begin_12 : decode cX0_begin 12 = .ok (.iload_n 2, 1) := by decide +kernel
theorem dX0_begin_13 : decode cX0_begin 13 = .ok (.iconst 0, 1) := by decide +kernel
theorem dX0_begin_14 : decode cX0_begin 14 = .ok (.iastore, 1) := by decide +kernel
theorem dX0_begin_15 : decode cX0_begin 15 = .ok (.iinc 2 1, 3) := by decide +kernel
theorem dX0_begin_18 : decode cX0_begin 18 = .ok (.goto (-16), 3) := by decide +kernel
theorem dX0_begin_21 : decode cX0_begin 21 = .ok (.aload_n 0, 1) := by decide +kernel
theorem dX0_begin_22 : decode cX0_begin 22 = .ok (.iconst 1, 1) := by decide +kernel
theorem dX0_begin_23 : decode cX0_begin 23 = .ok (.aload_n 1, 1) := by decide +kernel
theorem dX0_begin_24 : decode cX0_begin 24 = .ok (.getfield 34, 3) := by decide +kernel
theorem dX0_begin_27 : decode cX0_begin 27 = .ok (.ishl, 1) := by decide +kernel
theorem dX0_begin_28 : decode cX0_begin 28 = .ok (.iconst 1, 1) := by decide +kernel
theorem dX0_begin_29 : decode cX0_begin 29 = .ok (.isub, 1) := by decide +kernel
theorem dX0_begin_30 : decode cX0_begin 30 = .ok (.putfield 15, 3) := by decide +kernel
theorem dX0_begin_33 : decode cX0_begin 33 = .ok (.aload_n 0, 1) := by decide +kernel
theorem dX0_begin_34 : decode cX0_begin 34 = .ok (.iconst 0, 1) := by decide +kernel
theorem dX0_begin_35 : decode cX0_begin 35 = .ok (.putfield 19, 3) := by decide +kernel
theorem dX0_begin_38 : decode cX0_begin 38 = .ok (.aload_n 0, 1) := by decide +kernel
theorem dX0_begin_39 : decode cX0_begin 39 = .ok (.iconst 0, 1) := by decide +kernel
theorem dX0_begin_40 : decode cX0_begin 40 = .ok (.putfield 22, 3) := by decide +kernel
theorem dX0_begin_43 : decode cX0_begin 43 = .ok (.aload_n 0, 1) := by decide +kernel
theorem dX0_begin_44 : decode cX0_begin 44 = .ok (.iconst 0, 1) := by decide +kernel
theorem dX0_begin_45 : decode cX0_begin 45 = .ok (.putfield 25, 3) := by decide +kernel
theorem dX0_begin_48 : decode cX0_begin 48 = .ok (.aload_n 0, 1) := by decide +kernel
theorem dX0_begin_49 : decode cX0_begin 49 = .ok (.aload_n 1, 1) := by decide +kernel
theorem dX0_begin_50 : decode cX0_begin 50 = .ok (.invokevirtual 39, 3) := by decide +kernel
theorem dX0_begin_53 : decode cX0_begin 53 = .ok (.ifCond .eq 7, 3) := by decide +kernel
theorem dX0_begin_56 : decode cX0_begin 56 = .ok (.iconst 3, 1) := by decide +kernel
theorem dX0_begin_57 : decode cX0_begin 57 = .ok (.goto 4, 3) := by decide +kernel
theorem dX0_begin_60 : decode cX0_begin 60 = .ok (.iconst 0, 1) := by decide +kernel
theorem dX0_begin_61 : decode cX0_begin 61 = .ok (.putfield 28, 3) := by decide +kernel
theorem dX0_begin_64 : decode cX0_begin 64 = .ok (.aload_n 0, 1) := by decide +kernel
theorem dX0_begin_65 : decode cX0_begin 65 = .ok (.iconst 0, 1) := by decide +kernel
theorem dX0_begin_66 : decode cX0_begin 66 = .ok (.putfield 31, 3) := by decide +kernel
theorem dX0_begin_69 : decode cX0_begin 69 = .ok (.return_, 1) := by decide +kernel
theorem dX0_become_0 : decode cX0_become 0 = .ok (.aload_n 1, 1) := by decide +kernel
theorem dX0_become_1 : decode cX0_become 1 = .ok (.getfield 9, 3) := by decide +kernel
theorem dX0_become_4 : decode cX0_become 4 = .ok (.iconst 0, 1) := by decide +kernel
theorem dX0_become_5 : decode cX0_become 5 = .ok (.aload_n 0, 1) := by decide +kernel
theorem dX0_become_6 : decode cX0_become 6 = .ok (.getfield 9, 3) := by decide +kernel
theorem dX0_become_9 : decode cX0_become 9 = .ok (.iconst 0, 1) := by decide +kernel
theorem dX0_become_10 : decode cX0_become 10 = .ok (.bipush 10, 2) := by decide +kernel
theorem dX0_become_12 : decode cX0_become 12 = .ok (.invokestatic 43, 3) := by decide +kernel
theorem dX0_become_15 : decode cX0_become 15 = .ok (.aload_n 0, 1) := by decide +kernel
theorem dX0_become_16 : decode cX0_become 16 = .ok (.aload_n 1, 1) := by decide +kernel
theorem dX0_become_17 : decode cX0_become 17 = .ok (.getfield 15, 3) := by decide +kernel
theorem dX0_become_20 : decode cX0_become 20 = .ok (.putfield 15, 3) := by decide +kernel
theorem dX0_become_23 : decode cX0_become 23 = .ok (.aload_n 0, 1) := by decide +kernel
theorem dX0_become_24 : decode cX0_become 24 = .ok (.aload_n 1, 1) := by decide +kernel
theorem dX0_become_25 : decode cX0_become 25 = .ok (.getfield 19, 3) := by decide +kernel
theorem dX0_become_28 : decode cX0_become 28 = .ok (.putfield 19, 3) := by decide +kernel
theorem dX0_become_31 : decode cX0_become 31 = .ok (.aload_n 0, 1) := by decide +kernel
theorem dX0_become_32 : decode cX0_become 32 = .ok (.aload_n 1, 1) := by decide +kernel
theorem dX0_become_33 : decode cX0_become 33 = .ok (.getfield 22, 3) := by decide +kernel
theorem dX0_become_36 : decode cX0_become 36 = .ok (.putfield 22, 3) := by decide +kernel
theorem dX0_become_39 : decode cX0_become 39 = .ok (.aload_n 0, 1) := by decide +kernel
theorem dX0_become_40 : decode cX0_become 40 = .ok (.aload_n 1, 1) := by decide +kernel
theorem dX0_become_41 : decode cX0_become 41 = .ok (.getfield 25, 3) := by decide +kernel
theorem dX0_become_44 : decode cX0_become 44 = .ok (.putfield 25, 3) := by decide +kernel
theorem dX0_become_47 : decode cX0_become 47 = .ok (.aload_n 0, 1) := by decide +kernel
theorem dX0_become_48 : decode cX0_become 48 = .ok (.aload_n 1, 1) := by decide +kernel
theorem dX0_become_49 : decode cX0_become 49 = .ok (.getfield 28, 3) := by decide +kernel
theorem dX0_become_52 : decode cX0_become 52 = .ok (.putfield 28, 3) := by decide +kernel
theorem dX0_become_55 : decode cX0_become 55 = .ok (.aload_n 0, 1) := by decide +kernel
theorem dX0_become_56 : decode cX0_become 56 = .ok (.aload_n 1, 1) := by decide +kernel
theorem dX0_become_57 : decode cX0_become 57 = .ok (.getfield 31, 3) := by decide +kernel
theorem dX0_become_60 : decode cX0_become 60 = .ok (.putfield 31, 3) := by decide +kernel
theorem dX0_become_63 : decode cX0_become 63 = .ok (.return_, 1) := by decide +kernel
theorem dX0_store_0 : decode cX0_store 0 = .ok (.iload_n 2, 1) := by decide +kernel
theorem dX0_store_1 : decode cX0_store 1 = .ok (.bipush 16, 2) := by decide +kernel
theorem dX0_store_3 : decode cX0_store 3 = .ok (.imul, 1) := by decide +kernel
theorem dX0_store_4 : decode cX0_store 4 = .ok (.istore_n 3, 1) := by decide +kernel
theorem dX0_store_5 : decode cX0_store 5 = .ok (.iload_n 3, 1) := by decide +kernel
theorem dX0_store_6 : decode cX0_store 6 = .ok (.ifCond .lt 12, 3) := by decide +kernel
theorem dX0_store_9 : decode cX0_store 9 = .ok (.iload_n 3, 1) := by decide +kernel
theorem dX0_store_10 : decode cX0_store 10 = .ok (.bipush 16, 2) := by decide +kernel
theorem dX0_store_12 : decode cX0_store 12 = .ok (.iadd, 1) := by decide +kernel
theorem dX0_store_13 : decode cX0_store 13 = .ok (.aload_n 1, 1) := by decide +kernel
theorem dX0_store_14 : decode cX0_store 14 = .ok (.arraylength, 1) := by decide +kernel
theorem dX0_store_15 : decode cX0_store 15 = .ok (.if_icmp .le 4, 3) := by decide +kernel
theorem dX0_store_18 : decode cX0_store 18 = .ok (.return_, 1) := by decide +kernel
theorem dX0_store_19 : decode cX0_store 19 = .ok (.aload_n 0, 1) := by decide +kernel
theorem dX0_store_20 : decode cX0_store 20 = .ok (.getfield 9, 3) := by decide +kernel
theorem dX0_store_23 : decode cX0_store 23 = .ok (.iconst 0, 1) := by decide +kernel
theorem dX0_store_24 : decode cX0_store 24 = .ok (.aload_n 1, 1) := by decide +kernel
theorem dX0_store_25 : decode cX0_store 25 = .ok (.iload_n 3, 1) := by decide +kernel
theorem dX0_store_26 : decode cX0_store 26 = .ok (.bipush 10, 2) := by decide +kernel
theorem dX0_store_28 : decode cX0_store 28 = .ok (.invokestatic 43, 3) := by decide +kernel
theorem dX0_store_31 : decode cX0_store 31 = .ok (.aload_n 1, 1) := by decide +kernel
theorem dX0_store_32 : decode cX0_store 32 = .ok (.iload_n 3, 1) := by decide +kernel
theorem dX0_store_33 : decode cX0_store 33 = .ok (.bipush 10, 2) := by decide +kernel
theorem dX0_store_35 : decode cX0_store 35 = .ok (.iadd, 1) := by decide +kernel
theorem dX0_store_36 : decode cX0_store 36 = .ok (.aload_n 0, 1) := by decide +kernel
theorem dX0_store_37 : decode cX0_store 37 = .ok (.getfield 15, 3) := by decide +kernel
theorem dX0_store_40 : decode cX0_store 40 = .ok (.iastore, 1) := by decide +kernel
theorem dX0_store_41 : decode cX0_store 41 = .ok (.aload_n 1, 1) := by decide +kernel
theorem dX0_store_42 : decode cX0_store 42 = .ok (.iload_n 3, 1) := by decide +kernel
theorem dX0_store_43 : decode cX0_store 43 = .ok (.bipush 10, 2) := by decide +kernel
theorem dX0_store_45 : decode cX0_store 45 = .ok (.iadd, 1) := by decide +kernel
theorem dX0_store_46 : decode cX0_store 46 = .ok (.iconst 1, 1) := by decide +kernel
theorem dX0_store_47 : decode cX0_store 47 = .ok (.iadd, 1) := by decide +kernel
theorem dX0_store_48 : decode cX0_store 48 = .ok (.aload_n 0, 1) := by decide +kernel
theorem dX0_store_49 : decode cX0_store 49 = .ok (.getfield 19, 3) := by decide +kernel
theorem dX0_store_52 : decode cX0_store 52 = .ok (.iastore, 1) := by decide +kernel
theorem dX0_store_53 : decode cX0_store 53 = .ok (.aload_n 1, 1) := by decide +kernel
theorem dX0_store_54 : decode cX0_store 54 = .ok (.iload_n 3, 1) := by decide +kernel
theorem dX0_store_55 : decode cX0_store 55 = .ok (.bipush 10, 2) := by decide +kernel
theorem dX0_store_57 : decode cX0_store 57 = .ok (.iadd, 1) := by decide +kernel
theorem dX0_store_58 : decode cX0_store 58 = .ok (.iconst 2, 1) := by decide +kernel
theorem dX0_store_59 : decode cX0_store 59 = .ok (.iadd, 1) := by decide +kernel
theorem dX0_store_60 : decode cX0_store 60 = .ok (.aload_n 0, 1) := by decide +kernel
theorem dX0_store_61 : decode cX0_store 61 = .ok (.getfield 22, 3) := by decide +kernel
theorem dX0_store_64 : decode cX0_store 64 = .ok (.iastore, 1) := by decide +kernel
theorem dX0_store_65 : decode cX0_store 65 = .ok (.aload_n 1, 1) := by decide +kernel
theorem dX0_store_66 : decode cX0_store 66 = .ok (.iload_n 3, 1) := by decide +kernel
theorem dX0_store_67 : decode cX0_store 67 = .ok (.bipush 10, 2) := by decide +kernel
theorem dX0_store_69 : decode cX0_store 69 = .ok (.iadd, 1) := by decide +kernel
theorem dX0_store_70 : decode cX0_store 70 = .ok (.iconst 3, 1) := by decide +kernel
theorem dX0_store_71 : decode cX0_store 71 = .ok (.iadd, 1) := by decide +kernel
theorem dX0_store_72 : decode cX0_store 72 = .ok (.aload_n 0, 1) := by decide +kernel
theorem dX0_store_73 : decode cX0_store 73 = .ok (.getfield 25, 3) := by decide +kernel
theorem dX0_store_76 : decode cX0_store 76 = .ok (.iastore, 1) := by decide +kernel
theorem dX0_store_77 : decode cX0_store 77 = .ok (.aload_n 1, 1) := by decide +kernel
theorem dX0_store_78 : decode cX0_store 78 = .ok (.iload_n 3, 1) := by decide +kernel
theorem dX0_store_79 : decode cX0_store 79 = .ok (.bipush 10, 2) := by decide +kernel
theorem dX0_store_81 : decode cX0_store 81 = .ok (.iadd, 1) := by decide +kernel
theorem dX0_store_82 : decode cX0_store 82 = .ok (.iconst 4, 1) := by decide +kernel
theorem dX0_store_83 : decode cX0_store 83 = .ok (.iadd, 1) := by decide +kernel
theorem dX0_store_84 : decode cX0_store 84 = .ok (.aload_n 0, 1) := by decide +kernel
theorem dX0_store_85 : decode cX0_store 85 = .ok (.getfield 28, 3) := by decide +kernel
theorem dX0_store_88 : decode cX0_store 88 = .ok (.iastore, 1) := by decide +kernel
theorem dX0_store_89 : decode cX0_store 89 = .ok (.aload_n 1, 1) := by decide +kernel
theorem dX0_store_90 : decode cX0_store 90 = .ok (.iload_n 3, 1) := by decide +kernel
theorem dX0_store_91 : decode cX0_store 91 = .ok (.bipush 10, 2) := by decide +kernel
theorem dX0_store_93 : decode cX0_store 93 = .ok (.iadd, 1) := by decide +kernel
theorem dX0_store_94 : decode cX0_store 94 = .ok (.iconst 5, 1) := by decide +kernel
theorem dX0_store_95 : decode cX0_store 95 = .ok (.iadd, 1) := by decide +kernel
theorem dX0_store_96 : decode cX0_store 96 = .ok (.aload_n 0, 1) := by decide +kernel
theorem dX0_store_97 : decode cX0_store 97 = .ok (.getfield 31, 3) := by decide +kernel
theorem dX0_store_100 : decode cX0_store 100 = .ok (.iastore, 1) := by decide +kernel
theorem dX0_store_101 : decode cX0_store 101 = .ok (.return_, 1) := by decide +kernel
theorem dX0_restore_0 : decode cX0_restore 0 = .ok (.iload_n 2, 1) := by decide +kernel
theorem dX0_restore_1 : decode cX0_restore 1 = .ok (.bipush 16, 2) := by decide +kernel
theorem dX0_restore_3 : decode cX0_restore 3 = .ok (.imul, 1) := by decide +kernel
theorem dX0_restore_4 : decode cX0_restore 4 = .ok (.istore_n 3, 1) := by decide +kernel
theorem dX0_restore_5 : decode cX0_restore 5 = .ok (.iload_n 3, 1) := by decide +kernel
theorem dX0_restore_6 : decode cX0_restore 6 = .ok (.ifCond .lt 12, 3) := by decide +kernel
theorem dX0_restore_9 : decode cX0_restore 9 = .ok (.iload_n 3, 1) := by decide +kernel
theorem dX0_restore_10 : decode cX0_restore 10 = .ok (.bipush 16, 2) := by decide +kernel
theorem dX0_restore_12 : decode cX0_restore 12 = .ok (.iadd, 1) := by decide +kernel
theorem dX0_restore_13 : decode cX0_restore 13 = .ok (.aload_n 1, 1) := by decide +kernel
theorem dX0_restore_14 : decode cX0_restore 14 = .ok (.arraylength, 1) := by decide +kernel
theorem dX0_restore_15 : decode cX0_restore 15 = .ok (.if_icmp .le 4, 3) := by decide +kernel
theorem dX0_restore_18 : decode cX0_restore 18 = .ok (.return_, 1) := by decide +kernel
theorem dX0_restore_19 : decode cX0_restore 19 = .ok (.aload_n 1, 1) := by decide +kernel
theorem dX0_restore_20 : decode cX0_restore 20 = .ok (.iload_n 3, 1) := by decide +kernel
theorem dX0_restore_21 : decode cX0_restore 21 = .ok (.aload_n 0, 1) := by decide +kernel
theorem dX0_restore_22 : decode cX0_restore 22 = .ok (.getfield 9, 3) := by decide +kernel
theorem dX0_restore_25 : decode cX0_restore 25 = .ok (.iconst 0, 1) := by decide +kernel
theorem dX0_restore_26 : decode cX0_restore 26 = .ok (.bipush 10, 2) := by decide +kernel
theorem dX0_restore_28 : decode cX0_restore 28 = .ok (.invokestatic 43, 3) := by decide +kernel
theorem dX0_restore_31 : decode cX0_restore 31 = .ok (.aload_n 0, 1) := by decide +kernel
theorem dX0_restore_32 : decode cX0_restore 32 = .ok (.aload_n 1, 1) := by decide +kernel
theorem dX0_restore_33 : decode cX0_restore 33 = .ok (.iload_n 3, 1) := by decide +kernel
theorem dX0_restore_34 : decode cX0_restore 34 = .ok (.bipush 10, 2) := by decide +kernel
theorem dX0_restore_36 : decode cX0_restore 36 = .ok (.iadd, 1) := by decide +kernel
theorem dX0_restore_37 : decode cX0_restore 37 = .ok (.iaload, 1) := by decide +kernel
theorem dX0_restore_38 : decode cX0_restore 38 = .ok (.putfield 15, 3) := by decide +kernel
theorem dX0_restore_41 : decode cX0_restore 41 = .ok (.aload_n 0, 1) := by decide +kernel
theorem dX0_restore_42 : decode cX0_restore 42 = .ok (.aload_n 1, 1) := by decide +kernel
theorem dX0_restore_43 : decode cX0_restore 43 = .ok (.iload_n 3, 1) := by decide +kernel
theorem dX0_restore_44 : decode cX0_restore 44 = .ok (.bipush 10, 2) := by decide +kernel
theorem dX0_restore_46 : decode cX0_restore 46 = .ok (.iadd, 1) := by decide +kernel
theorem dX0_restore_47 : decode cX0_restore 47 = .ok (.iconst 1, 1) := by decide +kernel
theorem dX0_restore_48 : decode cX0_restore 48 = .ok (.iadd, 1) := by decide +kernel
theorem dX0_restore_49 : decode cX0_restore 49 = .ok (.iaload, 1) := by decide +kernel
theorem dX0_restore_50 : decode cX0_restore 50 = .ok (.putfield 19, 3) := by decide +kernel
theorem dX0_restore_53 : decode cX0_restore 53 = .ok (.aload_n 0, 1) := by decide +kernel
theorem dX0_restore_54 : decode cX0_restore 54 = .ok (.aload_n 1, 1) := by decide +kernel
theorem dX0_restore_55 : decode cX0_restore 55 = .ok (.iload_n 3, 1) := by decide +kernel
theorem dX0_restore_56 : decode cX0_restore 56 = .ok (.bipush 10, 2) := by decide +kernel
theorem dX0_restore_58 : decode cX0_restore 58 = .ok (.iadd, 1) := by decide +kernel
theorem dX0_restore_59 : decode cX0_restore 59 = .ok (.iconst 2, 1) := by decide +kernel
theorem dX0_restore_60 : decode cX0_restore 60 = .ok (.iadd, 1) := by decide +kernel
theorem dX0_restore_61 : decode cX0_restore 61 = .ok (.iaload, 1) := by decide +kernel
theorem dX0_restore_62 : decode cX0_restore 62 = .ok (.putfield 22, 3) := by decide +kernel
theorem dX0_restore_65 : decode cX0_restore 65 = .ok (.aload_n 0, 1) := by decide +kernel
theorem dX0_restore_66 : decode cX0_restore 66 = .ok (.aload_n 1, 1) := by decide +kernel
theorem dX0_restore_67 : decode cX0_restore 67 = .ok (.iload_n 3, 1) := by decide +kernel
theorem dX0_restore_68 : decode cX0_restore 68 = .ok (.bipush 10, 2) := by decide +kernel
theorem dX0_restore_70 : decode cX0_restore 70 = .ok (.iadd, 1) := by decide +kernel
theorem dX0_restore_71 : decode cX0_restore 71 = .ok (.iconst 3, 1) := by decide +kernel
theorem dX0_restore_72 : decode cX0_restore 72 = .ok (.iadd, 1) := by decide +kernel
theorem dX0_restore_73 : decode cX0_restore 73 = .ok (.iaload, 1) := by decide +kernel
theorem dX0_restore_74 : decode cX0_restore 74 = .ok (.putfield 25, 3) := by decide +kernel
theorem dX0_restore_77 : decode cX0_restore 77 = .ok (.aload_n 0, 1) := by decide +kernel
theorem dX0_restore_78 : decode cX0_restore 78 = .ok (.aload_n 1, 1) := by decide +kernel
theorem dX0_restore_79 : decode cX0_restore 79 = .ok (.iload_n 3, 1) := by decide +kernel
theorem dX0_restore_80 : decode cX0_restore 80 = .ok (.bipush 10, 2) := by decide +kernel
theorem dX0_restore_82 : decode cX0_restore 82 = .ok (.iadd, 1) := by decide +kernel
theorem dX0_restore_83 : decode cX0_restore 83 = .ok (.iconst 4, 1) := by decide +kernel
theorem dX0_restore_84 : decode cX0_restore 84 = .ok (.iadd, 1) := by decide +kernel
theorem dX0_restore_85 : decode cX0_restore 85 = .ok (.iaload, 1) := by decide +kernel
theorem dX0_restore_86 : decode cX0_restore 86 = .ok (.putfield 28, 3) := by decide +kernel
theorem dX0_restore_89 : decode cX0_restore 89 = .ok (.aload_n 0, 1) := by decide +kernel
theorem dX0_restore_90 : decode cX0_restore 90 = .ok (.aload_n 1, 1) := by decide +kernel
theorem dX0_restore_91 : decode cX0_restore 91 = .ok (.iload_n 3, 1) := by decide +kernel
theorem dX0_restore_92 : decode cX0_restore 92 = .ok (.bipush 10, 2) := by decide +kernel
theorem dX0_restore_94 : decode cX0_restore 94 = .ok (.iadd, 1) := by decide +kernel
theorem dX0_restore_95 : decode cX0_restore 95 = .ok (.iconst 5, 1) := by decide +kernel
theorem dX0_restore_96 : decode cX0_restore 96 = .ok (.iadd, 1) := by decide +kernel
theorem dX0_restore_97 : decode cX0_restore 97 = .ok (.iaload, 1) := by decide +kernel
theorem dX0_restore_98 : decode cX0_restore 98 = .ok (.putfield 31, 3) := by decide +kernel
theorem dX0_restore_101 : decode cX0_restore 101 = .ok (.return_, 1) := by decide +kernel
theorem dX0_spare_0 : decode cX0_spare 0 = .ok (.aload_n 1, 1) := by decide +kernel
theorem dX0_spare_1 : decode cX0_spare 1 = .ok (.getfield 49, 3) := by decide +kernel
theorem dX0_spare_4 : decode cX0_spare 4 = .ok (.iload_n 2, 1) := by decide +kernel
theorem dX0_spare_5 : decode cX0_spare 5 = .ok (.iaload, 1) := by decide +kernel
theorem dX0_spare_6 : decode cX0_spare 6 = .ok (.aload_n 0, 1) := by decide +kernel
theorem dX0_spare_7 : decode cX0_spare 7 = .ok (.getfield 9, 3) := by decide +kernel
theorem dX0_spare_10 : decode cX0_spare 10 = .ok (.iload_n 2, 1) := by decide +kernel
theorem dX0_spare_11 : decode cX0_spare 11 = .ok (.iaload, 1) := by decide +kernel
theorem dX0_spare_12 : decode cX0_spare 12 = .ok (.isub, 1) := by decide +kernel
theorem dX0_spare_13 : decode cX0_spare 13 = .ok (.ireturn, 1) := by decide +kernel
set_option maxRecDepth 20000 in
theorem ggX0_canBeDoneUp_X5_has : GoodIn wsX0_canBeDoneUp wsX5_has := goodIn_r _ [4] (by decide +kernel) (by decide +kernel)
set_option maxRecDepth 20000 in
theorem gX0_canBeDoneUp_X5_has_n52 : GoodIn wsX0_canBeDoneUp (wsX5_has) := ggX0_canBeDoneUp_X5_has
set_option maxRecDepth 20000 in
theorem ggX0_canBeDoneUp_X0_spare : GoodIn wsX0_canBeDoneUp wsX0_spare := goodIn_r _ [9, 10, 11, 19, 20, 21, 22, 23, 24, 25, 26, 27, 28, 29, 30, 12, 13, 14, 15, 16, 17, 18] (by decide +kernel) (by decide +kernel)
set_option maxRecDepth 20000 in
theorem gX0_canBeDoneUp_X0_spare : GoodIn wsX0_canBeDoneUp (wsV RX0 56 RX0 yX0_spare wsX0_spare) := goodIn_app (goodIn_of _ (by decide +kernel)) ggX0_canBeDoneUp_X0_spare
theorem dX0_canBeDoneUp_0 : decode cX0_canBeDoneUp 0 = .ok (.aload_n 0, 1) := by decide +kernel
theorem dX0_canBeDoneUp_1 : decode cX0_canBeDoneUp 1 = .ok (.getfield 15, 3) := by decide +kernel
theorem dX0_canBeDoneUp_4 : decode cX0_canBeDoneUp 4 = .ok (.iload_n 2, 1) := by decide +kernel
theorem dX0_canBeDoneUp_5 : decode cX0_canBeDoneUp 5 = .ok (.invokestatic 52, 3) := by decide +kernel
theorem dX0_canBeDoneUp_8 : decode cX0_canBeDoneUp 8 = .ok (.ifCond .ne 16, 3) := by decide +kernel
theorem dX0_canBeDoneUp_11 : decode cX0_canBeDoneUp 11 = .ok (.aload_n 0, 1) := by decide +kernel
theorem dX0_canBeDoneUp_12 : decode cX0_canBeDoneUp 12 = .ok (.aload_n 1, 1) := by decide +kernel
theorem dX0_canBeDoneUp_13 : decode cX0_canBeDoneUp 13 = .ok (.iload_n 2, 1) := by decide +kernel
theorem dX0_canBeDoneUp_14 : decode cX0_canBeDoneUp 14 = .ok (.invokevirtual 56, 3) := by decide +kernel
theorem dX0_canBeDoneUp_17 : decode cX0_canBeDoneUp 17 = .ok (.ifCond .le 7, 3) := by decide +kernel
theorem dX0_canBeDoneUp_20 : decode cX0_canBeDoneUp 20 = .ok (.iconst 1, 1) := by decide +kernel
theorem dX0_canBeDoneUp_21 : decode cX0_canBeDoneUp 21 = .ok (.goto 4, 3) := by decide +kernel
theorem dX0_canBeDoneUp_24 : decode cX0_canBeDoneUp 24 = .ok (.iconst 0, 1) := by decide +kernel
theorem dX0_canBeDoneUp_25 : decode cX0_canBeDoneUp 25 = .ok (.ireturn, 1) := by decide +kernel
set_option maxRecDepth 20000 in
theorem ggX0_passHour_X1_windOf : GoodIn wsX0_passHour wsX1_windOf := goodIn_r _ [16, 17, 18, 48, 49, 50, 51, 52, 53, 54, 55, 56, 57, 58, 59] (by decide +kernel) (by decide +kernel)
set_option maxRecDepth 20000 in
theorem gX0_passHour_X1_windOf : GoodIn wsX0_passHour (wsV RX0 60 RX1 yX1_windOf wsX1_windOf) := goodIn_app (goodIn_of _ (by decide +kernel)) ggX0_passHour_X1_windOf
set_option maxRecDepth 20000 in
theorem ggX0_passHour_X5_has : GoodIn wsX0_passHour wsX5_has := goodIn_r _ [21] (by decide +kernel) (by decide +kernel)
set_option maxRecDepth 20000 in
theorem gX0_passHour_X5_has_n52 : GoodIn wsX0_passHour (wsX5_has) := ggX0_passHour_X5_has
set_option maxRecDepth 20000 in
theorem ggX0_passHour_X0_pull : GoodIn wsX0_passHour wsX0_pull := goodIn_r _ [25, 26, 27, 9, 28] (by decide +kernel) (by decide +kernel)
set_option maxRecDepth 20000 in
theorem gX0_passHour_X0_pull : GoodIn wsX0_passHour (va_wsS RX0 67 yX0_pull wsX0_pull) := goodIn_app (goodIn_of _ (by decide +kernel)) ggX0_passHour_X0_pull
set_option maxRecDepth 20000 in
theorem ggX0_passHour_X0_spare : GoodIn wsX0_passHour wsX0_spare := goodIn_r _ [32, 33, 4, 48, 49, 50, 51, 52, 53, 54, 55, 56, 57, 58, 59, 41, 42, 43, 44, 45, 46, 47] (by decide +kernel) (by decide +kernel)
set_option maxRecDepth 20000 in
theorem gX0_passHour_X0_spare : GoodIn wsX0_passHour (wsV RX0 56 RX0 yX0_spare wsX0_spare) := goodIn_app (goodIn_of _ (by decide +kernel)) ggX0_passHour_X0_spare
set_option maxRecDepth 20000 in
theorem ggX0_passHour_J6_bitCount_0f7a4 : GoodIn wsX0_passHour wsJ6_bitCount_0f7a4 := goodIn_r _ [37, 38, 39, 40] (by decide +kernel) (by decide +kernel)
set_option maxRecDepth 20000 in
theorem gX0_passHour_J6_bitCount_0f7a4 : GoodIn wsX0_passHour (va_wsS RX0 77 yJ6_bitCount_0f7a4 wsJ6_bitCount_0f7a4) := goodIn_app (goodIn_of _ (by decide +kernel)) ggX0_passHour_J6_bitCount_0f7a4
theorem dX0_passHour_0 : decode cX0_passHour 0 = .ok (.aload_n 1, 1) := by decide +kernel
theorem dX0_passHour_1 : decode cX0_passHour 1 = .ok (.aload_n 0, 1) := by decide +kernel
theorem dX0_passHour_2 : decode cX0_passHour 2 = .ok (.getfield 25, 3) := by decide +kernel
theorem dX0_passHour_5 : decode cX0_passHour 5 = .ok (.invokevirtual 60, 3) := by decide +kernel
theorem dX0_passHour_8 : decode cX0_passHour 8 = .ok (.istore_n 2, 1) := by decide +kernel
theorem dX0_passHour_9 : decode cX0_passHour 9 = .ok (.iconst 0, 1) := by decide +kernel
theorem dX0_passHour_10 : decode cX0_passHour 10 = .ok (.istore_n 3, 1) := by decide +kernel
theorem dX0_passHour_11 : decode cX0_passHour 11 = .ok (.iconst 0, 1) := by decide +kernel
theorem dX0_passHour_12 : decode cX0_passHour 12 = .ok (.istore 4, 2) := by decide +kernel
theorem dX0_passHour_14 : decode cX0_passHour 14 = .ok (.iload 4, 2) := by decide +kernel
theorem dX0_passHour_16 : decode cX0_passHour 16 = .ok (.aload_n 1, 1) := by decide +kernel
theorem dX0_passHour_17 : decode cX0_passHour 17 = .ok (.getfield 34, 3) := by decide +kernel
theorem dX0_passHour_20 : decode cX0_passHour 20 = .ok (.if_icmp .ge 79, 3) := by decide +kernel
theorem dX0_passHour_23 : decode cX0_passHour 23 = .ok (.aload_n 0, 1) := by decide +kernel
theorem dX0_passHour_24 : decode cX0_passHour 24 = .ok (.getfield 15, 3) := by decide +kernel
theorem dX0_passHour_27 : decode cX0_passHour 27 = .ok (.iload 4, 2) := by decide +kernel
theorem dX0_passHour_29 : decode cX0_passHour 29 = .ok (.invokestatic 52, 3) := by decide +kernel
theorem dX0_passHour_32 : decode cX0_passHour 32 = .ok (.ifCond .eq 61, 3) := by decide +kernel
theorem dX0_passHour_35 : decode cX0_passHour 35 = .ok (.aload_n 0, 1) := by decide +kernel
theorem dX0_passHour_36 : decode cX0_passHour 36 = .ok (.getfield 9, 3) := by decide +kernel
theorem dX0_passHour_39 : decode cX0_passHour 39 = .ok (.iload 4, 2) := by decide +kernel
theorem dX0_passHour_41 : decode cX0_passHour 41 = .ok (.aload_n 0, 1) := by decide +kernel
theorem dX0_passHour_42 : decode cX0_passHour 42 = .ok (.getfield 9, 3) := by decide +kernel
theorem dX0_passHour_45 : decode cX0_passHour 45 = .ok (.iload 4, 2) := by decide +kernel
theorem dX0_passHour_47 : decode cX0_passHour 47 = .ok (.iaload, 1) := by decide +kernel
theorem dX0_passHour_48 : decode cX0_passHour 48 = .ok (.aload_n 1, 1) := by decide +kernel
theorem dX0_passHour_49 : decode cX0_passHour 49 = .ok (.getfield 64, 3) := by decide +kernel
theorem dX0_passHour_52 : decode cX0_passHour 52 = .ok (.iload 4, 2) := by decide +kernel
theorem dX0_passHour_54 : decode cX0_passHour 54 = .ok (.iaload, 1) := by decide +kernel
theorem dX0_passHour_55 : decode cX0_passHour 55 = .ok (.iload_n 2, 1) := by decide +kernel
theorem dX0_passHour_56 : decode cX0_passHour 56 = .ok (.aload_n 0, 1) := by decide +kernel
theorem dX0_passHour_57 : decode cX0_passHour 57 = .ok (.getfield 22, 3) := by decide +kernel
theorem dX0_passHour_60 : decode cX0_passHour 60 = .ok (.iload 4, 2) := by decide +kernel
theorem dX0_passHour_62 : decode cX0_passHour 62 = .ok (.invokestatic 52, 3) := by decide +kernel
theorem dX0_passHour_65 : decode cX0_passHour 65 = .ok (.invokestatic 67, 3) := by decide +kernel
theorem dX0_passHour_68 : decode cX0_passHour 68 = .ok (.iadd, 1) := by decide +kernel
theorem dX0_passHour_69 : decode cX0_passHour 69 = .ok (.sipush 999, 3) := by decide +kernel
theorem dX0_passHour_72 : decode cX0_passHour 72 = .ok (.invokestatic 71, 3) := by decide +kernel
theorem dX0_passHour_75 : decode cX0_passHour 75 = .ok (.iastore, 1) := by decide +kernel
theorem dX0_passHour_76 : decode cX0_passHour 76 = .ok (.aload_n 0, 1) := by decide +kernel
theorem dX0_passHour_77 : decode cX0_passHour 77 = .ok (.aload_n 1, 1) := by decide +kernel
theorem dX0_passHour_78 : decode cX0_passHour 78 = .ok (.iload 4, 2) := by decide +kernel
theorem dX0_passHour_80 : decode cX0_passHour 80 = .ok (.invokevirtual 56, 3) := by decide +kernel
theorem dX0_passHour_83 : decode cX0_passHour 83 = .ok (.ifCond .gt 10, 3) := by decide +kernel
theorem dX0_passHour_86 : decode cX0_passHour 86 = .ok (.iload_n 3, 1) := by decide +kernel
theorem dX0_passHour_87 : decode cX0_passHour 87 = .ok (.iconst 1, 1) := by decide +kernel
theorem dX0_passHour_88 : decode cX0_passHour 88 = .ok (.iload 4, 2) := by decide +kernel
theorem dX0_passHour_90 : decode cX0_passHour 90 = .ok (.ishl, 1) := by decide +kernel
theorem dX0_passHour_91 : decode cX0_passHour 91 = .ok (.ior, 1) := by decide +kernel
theorem dX0_passHour_92 : decode cX0_passHour 92 = .ok (.istore_n 3, 1) := by decide +kernel
theorem dX0_passHour_93 : decode cX0_passHour 93 = .ok (.iinc 4 1, 3) := by decide +kernel
theorem dX0_passHour_96 : decode cX0_passHour 96 = .ok (.goto (-82), 3) := by decide +kernel
theorem dX0_passHour_99 : decode cX0_passHour 99 = .ok (.aload_n 0, 1) := by decide +kernel
theorem dX0_passHour_100 : decode cX0_passHour 100 = .ok (.dup, 1) := by decide +kernel
theorem dX0_passHour_101 : decode cX0_passHour 101 = .ok (.getfield 15, 3) := by decide +kernel
theorem dX0_passHour_104 : decode cX0_passHour 104 = .ok (.iload_n 3, 1) := by decide +kernel
theorem dX0_passHour_105 : decode cX0_passHour 105 = .ok (.iconst (-1), 1) := by decide +kernel
theorem dX0_passHour_106 : decode cX0_passHour 106 = .ok (.ixor, 1) := by decide +kernel
theorem dX0_passHour_107 : decode cX0_passHour 107 = .ok (.iand, 1) := by decide +kernel
theorem dX0_passHour_108 : decode cX0_passHour 108 = .ok (.putfield 15, 3) := by decide +kernel
theorem dX0_passHour_111 : decode cX0_passHour 111 = .ok (.aload_n 0, 1) := by decide +kernel
theorem dX0_passHour_112 : decode cX0_passHour 112 = .ok (.dup, 1) := by decide +kernel
theorem dX0_passHour_113 : decode cX0_passHour 113 = .ok (.getfield 31, 3) := by decide +kernel
theorem dX0_passHour_116 : decode cX0_passHour 116 = .ok (.iload_n 3, 1) := by decide +kernel
theorem dX0_passHour_117 : decode cX0_passHour 117 = .ok (.invokestatic 77, 3) := by decide +kernel
theorem dX0_passHour_120 : decode cX0_passHour 120 = .ok (.iadd, 1) := by decide +kernel
theorem dX0_passHour_121 : decode cX0_passHour 121 = .ok (.putfield 31, 3) := by decide +kernel
theorem dX0_passHour_124 : decode cX0_passHour 124 = .ok (.aload_n 0, 1) := by decide +kernel
theorem dX0_passHour_125 : decode cX0_passHour 125 = .ok (.dup, 1) := by decide +kernel
theorem dX0_passHour_126 : decode cX0_passHour 126 = .ok (.getfield 25, 3) := by decide +kernel
theorem dX0_passHour_129 : decode cX0_passHour 129 = .ok (.iconst 1, 1) := by decide +kernel
theorem dX0_passHour_130 : decode cX0_passHour 130 = .ok (.iadd, 1) := by decide +kernel
theorem dX0_passHour_131 : decode cX0_passHour 131 = .ok (.putfield 25, 3) := by decide +kernel
theorem dX0_passHour_134 : decode cX0_passHour 134 = .ok (.iload_n 3, 1) := by decide +kernel
theorem dX0_passHour_135 : decode cX0_passHour 135 = .ok (.ireturn, 1) := by decide +kernel
theorem dX0_pull_0 : decode cX0_pull 0 = .ok (.iload_n 0, 1) := by decide +kernel
theorem dX0_pull_1 : decode cX0_pull 1 = .ok (.tableswitch 61 1 3 #[27, 41, 45], 27) := by decide +kernel
theorem dX0_pull_28 : decode cX0_pull 28 = .ok (.iload_n 1, 1) := by decide +kernel
theorem dX0_pull_29 : decode cX0_pull 29 = .ok (.bipush 6, 2) := by decide +kernel
theorem dX0_pull_31 : decode cX0_pull 31 = .ok (.if_icmp .ge 7, 3) := by decide +kernel
theorem dX0_pull_34 : decode cX0_pull 34 = .ok (.iconst 0, 1) := by decide +kernel
theorem dX0_pull_35 : decode cX0_pull 35 = .ok (.goto 6, 3) := by decide +kernel
theorem dX0_pull_38 : decode cX0_pull 38 = .ok (.iconst 2, 1) := by decide +kernel
theorem dX0_pull_39 : decode cX0_pull 39 = .ok (.iload_n 1, 1) := by decide +kernel
theorem dX0_pull_40 : decode cX0_pull 40 = .ok (.imul, 1) := by decide +kernel
theorem dX0_pull_41 : decode cX0_pull 41 = .ok (.ireturn, 1) := by decide +kernel
theorem dX0_pull_42 : decode cX0_pull 42 = .ok (.iload_n 1, 1) := by decide +kernel
theorem dX0_pull_43 : decode cX0_pull 43 = .ok (.iconst 2, 1) := by decide +kernel
theorem dX0_pull_44 : decode cX0_pull 44 = .ok (.idiv, 1) := by decide +kernel
theorem dX0_pull_45 : decode cX0_pull 45 = .ok (.ireturn, 1) := by decide +kernel
theorem dX0_pull_46 : decode cX0_pull 46 = .ok (.iload_n 2, 1) := by decide +kernel
theorem dX0_pull_47 : decode cX0_pull 47 = .ok (.ifCond .eq 13, 3) := by decide +kernel
theorem dX0_pull_50 : decode cX0_pull 50 = .ok (.iload_n 1, 1) := by decide +kernel
theorem dX0_pull_51 : decode cX0_pull 51 = .ok (.iconst 3, 1) := by decide +kernel
theorem dX0_pull_52 : decode cX0_pull 52 = .ok (.isub, 1) := by decide +kernel
theorem dX0_pull_53 : decode cX0_pull 53 = .ok (.iconst 0, 1) := by decide +kernel
theorem dX0_pull_54 : decode cX0_pull 54 = .ok (.invokestatic 82, 3) := by decide +kernel
theorem dX0_pull_57 : decode cX0_pull 57 = .ok (.goto 4, 3) := by decide +kernel
theorem dX0_pull_60 : decode cX0_pull 60 = .ok (.iload_n 1, 1) := by decide +kernel
theorem dX0_pull_61 : decode cX0_pull 61 = .ok (.ireturn, 1) := by decide +kernel
theorem dX0_pull_62 : decode cX0_pull 62 = .ok (.iload_n 1, 1) := by decide +kernel
theorem dX0_pull_63 : decode cX0_pull 63 = .ok (.ireturn, 1) := by decide +kernel
theorem dX1_init_0 : decode cX1_init 0 = .ok (.aload_n 0, 1) := by decide +kernel
theorem dX1_init_1 : decode cX1_init 1 = .ok (.invokespecial 3, 3) := by decide +kernel
theorem dX1_init_4 : decode cX1_init 4 = .ok (.aload_n 0, 1) := by decide +kernel
theorem dX1_init_5 : decode cX1_init 5 = .ok (.bipush 10, 2) := by decide +kernel
theorem dX1_init_7 : decode cX1_init 7 = .ok (.newarray .int, 2) := by decide +kernel
theorem dX1_init_9 : decode cX1_init 9 = .ok (.putfield 9, 3) := by decide +kernel
theorem dX1_init_12 : decode cX1_init 12 = .ok (.aload_n 0, 1) := by decide +kernel
theorem dX1_init_13 : decode cX1_init 13 = .ok (.bipush 10, 2) := by decide +kernel
theorem dX1_init_15 : decode cX1_init 15 = .ok (.newarray .int, 2) := by decide +kernel
theorem dX1_init_17 : decode cX1_init 17 = .ok (.putfield 15, 3) := by decide +kernel
theorem dX1_init_20 : decode cX1_init 20 = .ok (.aload_n 0, 1) := by decide +kernel
theorem dX1_init_21 : decode cX1_init 21 = .ok (.bipush 10, 2) := by decide +kernel
theorem dX1_init_23 : decode cX1_init 23 = .ok (.newarray .int, 2) := by decide +kernel
theorem dX1_init_25 : decode cX1_init 25 = .ok (.putfield 18, 3) := by decide +kernel
theorem dX1_init_28 : decode cX1_init 28 = .ok (.aload_n 0, 1) := by decide +kernel
theorem dX1_init_29 : decode cX1_init 29 = .ok (.bipush 10, 2) := by decide +kernel
theorem dX1_init_31 : decode cX1_init 31 = .ok (.newarray .int, 2) := by decide +kernel
theorem dX1_init_33 : decode cX1_init 33 = .ok (.putfield 21, 3) := by decide +kernel
theorem dX1_init_36 : decode cX1_init 36 = .ok (.aload_n 0, 1) := by decide +kernel
theorem dX1_init_37 : decode cX1_init 37 = .ok (.bipush 10, 2) := by decide +kernel
theorem dX1_init_39 : decode cX1_init 39 = .ok (.newarray .int, 2) := by decide +kernel
theorem dX1_init_41 : decode cX1_init 41 = .ok (.putfield 24, 3) := by decide +kernel
theorem dX1_init_44 : decode cX1_init 44 = .ok (.aload_n 0, 1) := by decide +kernel
theorem dX1_init_45 : decode cX1_init 45 = .ok (.bipush 10, 2) := by decide +kernel
theorem dX1_init_47 : decode cX1_init 47 = .ok (.newarray .int, 2) := by decide +kernel
theorem dX1_init_49 : decode cX1_init 49 = .ok (.putfield 27, 3) := by decide +kernel
theorem dX1_init_52 : decode cX1_init 52 = .ok (.aload_n 0, 1) := by decide +kernel
theorem dX1_init_53 : decode cX1_init 53 = .ok (.bipush 10, 2) := by decide +kernel
theorem dX1_init_55 : decode cX1_init 55 = .ok (.newarray .int, 2) := by decide +kernel
theorem dX1_init_57 : decode cX1_init 57 = .ok (.putfield 30, 3) := by decide +kernel
theorem dX1_init_60 : decode cX1_init 60 = .ok (.aload_n 0, 1) := by decide +kernel
theorem dX1_init_61 : decode cX1_init 61 = .ok (.bipush 12, 2) := by decide +kernel
theorem dX1_init_63 : decode cX1_init 63 = .ok (.newarray .int, 2) := by decide +kernel
theorem dX1_init_65 : decode cX1_init 65 = .ok (.putfield 33, 3) := by decide +kernel
theorem dX1_init_68 : decode cX1_init 68 = .ok (.aload_n 0, 1) := by decide +kernel
theorem dX1_init_69 : decode cX1_init 69 = .ok (.bipush 8, 2) := by decide +kernel
theorem dX1_init_71 : decode cX1_init 71 = .ok (.newarray .int, 2) := by decide +kernel
theorem dX1_init_73 : decode cX1_init 73 = .ok (.putfield 36, 3) := by decide +kernel
theorem dX1_init_76 : decode cX1_init 76 = .ok (.aload_n 0, 1) := by decide +kernel
theorem dX1_init_77 : decode cX1_init 77 = .ok (.iconst 0, 1) := by decide +kernel
theorem dX1_init_78 : decode cX1_init 78 = .ok (.putfield 39, 3) := by decide +kernel
theorem dX1_init_81 : decode cX1_init 81 = .ok (.aload_n 0, 1) := by decide +kernel
theorem dX1_init_82 : decode cX1_init 82 = .ok (.iconst 0, 1) := by decide +kernel
theorem dX1_init_83 : decode cX1_init 83 = .ok (.putfield 43, 3) := by decide +kernel
theorem dX1_init_86 : decode cX1_init 86 = .ok (.aload_n 0, 1) := by decide +kernel
theorem dX1_init_87 : decode cX1_init 87 = .ok (.iconst 0, 1) := by decide +kernel
theorem dX1_init_88 : decode cX1_init 88 = .ok (.putfield 46, 3) := by decide +kernel
theorem dX1_init_91 : decode cX1_init 91 = .ok (.return_, 1) := by decide +kernel
theorem dX1_clear_0 : decode cX1_clear 0 = .ok (.aload_n 0, 1) := by decide +kernel
theorem dX1_clear_1 : decode cX1_clear 1 = .ok (.iconst 0, 1) := by decide +kernel
theorem dX1_clear_2 : decode cX1_clear 2 = .ok (.putfield 39, 3) := by decide +kernel
theorem dX1_clear_5 : decode cX1_clear 5 = .ok (.aload_n 0, 1) := by decide +kernel
theorem dX1_clear_6 : decode cX1_clear 6 = .ok (.iconst 0, 1) := by decide +kernel
theorem dX1_clear_7 : decode cX1_clear 7 = .ok (.putfield 43, 3) := by decide +kernel
theorem dX1_clear_10 : decode cX1_clear 10 = .ok (.aload_n 0, 1) := by decide +kernel
theorem dX1_clear_11 : decode cX1_clear 11 = .ok (.iconst 0, 1) := by decide +kernel
theorem dX1_clear_12 : decode cX1_clear 12 = .ok (.putfield 46, 3) := by decide +kernel
theorem dX1_clear_15 : decode cX1_clear 15 = .ok (.return_, 1) := by decide +kernel
theorem dX1_isThere_0 : decode cX1_isThere 0 = .ok (.aload_n 0, 1) := by decide +kernel
theorem dX1_isThere_1 : decode cX1_isThere 1 = .ok (.getfield 39, 3) := by decide +kernel
theorem dX1_isThere_4 : decode cX1_isThere 4 = .ok (.ifCond .le 7, 3) := by decide +kernel
theorem dX1_isThere_7 : decode cX1_isThere 7 = .ok (.iconst 1, 1) := by decide +kernel
theorem dX1_isThere_8 : decode cX1_isThere 8 = .ok (.goto 4, 3) := by decide +kernel
theorem dX1_isThere_11 : decode cX1_isThere 11 = .ok (.iconst 0, 1) := by decide +kernel
theorem dX1_isThere_12 : decode cX1_isThere 12 = .ok (.ireturn, 1) := by decide +kernel
theorem dX1_hasIsland_0 : decode cX1_hasIsland 0 = .ok (.iload_n 1, 1) := by decide +kernel
theorem dX1_hasIsland_1 : decode cX1_hasIsland 1 = .ok (.ifCond .lt 15, 3) := by decide +kernel
theorem dX1_hasIsland_4 : decode cX1_hasIsland 4 = .ok (.iload_n 1, 1) := by decide +kernel
theorem dX1_hasIsland_5 : decode cX1_hasIsland 5 = .ok (.aload_n 0, 1) := by decide +kernel
theorem dX1_hasIsland_6 : decode cX1_hasIsland 6 = .ok (.getfield 39, 3) := by decide +kernel
theorem dX1_hasIsland_9 : decode cX1_hasIsland 9 = .ok (.if_icmp .ge 7, 3) := by decide +kernel
theorem dX1_hasIsland_12 : decode cX1_hasIsland 12 = .ok (.iconst 1, 1) := by decide +kernel
theorem dX1_hasIsland_13 : decode cX1_hasIsland 13 = .ok (.goto 4, 3) := by decide +kernel
theorem dX1_hasIsland_16 : decode cX1_hasIsland 16 = .ok (.iconst 0, 1) := by decide +kernel
theorem dX1_hasIsland_17 : decode cX1_hasIsland 17 = .ok (.ireturn, 1) := by decide +kernel
theorem dX1_hasLink_0 : decode cX1_hasLink 0 = .ok (.iload_n 1, 1) := by decide +kernel
theorem dX1_hasLink_1 : decode cX1_hasLink 1 = .ok (.ifCond .lt 15, 3) := by decide +kernel
theorem dX1_hasLink_4 : decode cX1_hasLink 4 = .ok (.iload_n 1, 1) := by decide +kernel
theorem dX1_hasLink_5 : decode cX1_hasLink 5 = .ok (.aload_n 0, 1) := by decide +kernel
theorem dX1_hasLink_6 : decode cX1_hasLink 6 = .ok (.getfield 43, 3) := by decide +kernel
theorem dX1_hasLink_9 : decode cX1_hasLink 9 = .ok (.if_icmp .ge 7, 3) := by decide +kernel
theorem dX1_hasLink_12 : decode cX1_hasLink 12 = .ok (.iconst 1, 1) := by decide +kernel
theorem dX1_hasLink_13 : decode cX1_hasLink 13 = .ok (.goto 4, 3) := by decide +kernel
theorem dX1_hasLink_16 : decode cX1_hasLink 16 = .ok (.iconst 0, 1) := by decide +kernel
theorem dX1_hasLink_17 : decode cX1_hasLink 17 = .ok (.ireturn, 1) := by decide +kernel
theorem dX1_windOf_0 : decode cX1_windOf 0 = .ok (.aload_n 0, 1) := by decide +kernel
theorem dX1_windOf_1 : decode cX1_windOf 1 = .ok (.getfield 46, 3) := by decide +kernel
theorem dX1_windOf_4 : decode cX1_windOf 4 = .ok (.iconst 1, 1) := by decide +kernel
theorem dX1_windOf_5 : decode cX1_windOf 5 = .ok (.if_icmp .lt 7, 3) := by decide +kernel
theorem dX1_windOf_8 : decode cX1_windOf 8 = .ok (.iload_n 1, 1) := by decide +kernel
theorem dX1_windOf_9 : decode cX1_windOf 9 = .ok (.ifCond .ge 7, 3) := by decide +kernel
theorem dX1_windOf_12 : decode cX1_windOf 12 = .ok (.iconst 0, 1) := by decide +kernel
theorem dX1_windOf_13 : decode cX1_windOf 13 = .ok (.goto 14, 3) := by decide +kernel
theorem dX1_windOf_16 : decode cX1_windOf 16 = .ok (.aload_n 0, 1) := by decide +kernel
theorem dX1_windOf_17 : decode cX1_windOf 17 = .ok (.getfield 33, 3) := by decide +kernel
theorem dX1_windOf_20 : decode cX1_windOf 20 = .ok (.iload_n 1, 1) := by decide +kernel
theorem dX1_windOf_21 : decode cX1_windOf 21 = .ok (.aload_n 0, 1) := by decide +kernel
theorem dX1_windOf_22 : decode cX1_windOf 22 = .ok (.getfield 46, 3) := by decide +kernel
theorem dX1_windOf_25 : decode cX1_windOf 25 = .ok (.irem, 1) := by decide +kernel
theorem dX1_windOf_26 : decode cX1_windOf 26 = .ok (.iaload, 1) := by decide +kernel
theorem dX1_windOf_27 : decode cX1_windOf 27 = .ok (.ireturn, 1) := by decide +kernel
theorem dX1_sideRead_0 : decode cX1_sideRead 0 = .ok (.iload_n 2, 1) := by decide +kernel
theorem dX1_sideRead_1 : decode cX1_sideRead 1 = .ok (.iload_n 3, 1) := by decide +kernel
theorem dX1_sideRead_2 : decode cX1_sideRead 2 = .ok (.if_icmp .eq 12, 3) := by decide +kernel
theorem dX1_sideRead_5 : decode cX1_sideRead 5 = .ok (.aload_n 0, 1) := by decide +kernel
theorem dX1_sideRead_6 : decode cX1_sideRead 6 = .ok (.getfield 27, 3) := by decide +kernel
theorem dX1_sideRead_9 : decode cX1_sideRead 9 = .ok (.iload_n 1, 1) := by decide +kernel
theorem dX1_sideRead_10 : decode cX1_sideRead 10 = .ok (.iaload, 1) := by decide +kernel
theorem dX1_sideRead_11 : decode cX1_sideRead 11 = .ok (.goto 9, 3) := by decide +kernel
theorem dX1_sideRead_14 : decode cX1_sideRead 14 = .ok (.aload_n 0, 1) := by decide +kernel
theorem dX1_sideRead_15 : decode cX1_sideRead 15 = .ok (.getfield 30, 3) := by decide +kernel
theorem dX1_sideRead_18 : decode cX1_sideRead 18 = .ok (.iload_n 1, 1) := by decide +kernel
theorem dX1_sideRead_19 : decode cX1_sideRead 19 = .ok (.iaload, 1) := by decide +kernel
theorem dX1_sideRead_20 : decode cX1_sideRead 20 = .ok (.ireturn, 1) := by decide +kernel
set_option maxRecDepth 20000 in
theorem ggX1_widen_X5_has : GoodIn wsX1_widen wsX5_has := goodIn_r _ [5] (by decide +kernel) (by decide +kernel)
set_option maxRecDepth 20000 in
theorem gX1_widen_X5_has_n49 : GoodIn wsX1_widen (wsX5_has) := ggX1_widen_X5_has
theorem dX1_widen_0 : decode cX1_widen 0 = .ok (.iload_n 1, 1) := by decide +kernel
theorem dX1_widen_1 : decode cX1_widen 1 = .ok (.istore_n 3, 1) := by decide +kernel
theorem dX1_widen_2 : decode cX1_widen 2 = .ok (.iconst 0, 1) := by decide +kernel
theorem dX1_widen_3 : decode cX1_widen 3 = .ok (.istore 4, 2) := by decide +kernel
theorem dX1_widen_5 : decode cX1_widen 5 = .ok (.iload 4, 2) := by decide +kernel
theorem dX1_widen_7 : decode cX1_widen 7 = .ok (.aload_n 0, 1) := by decide +kernel
theorem dX1_widen_8 : decode cX1_widen 8 = .ok (.getfield 43, 3) := by decide +kernel
theorem dX1_widen_11 : decode cX1_widen 11 = .ok (.if_icmp .ge 40, 3) := by decide +kernel
theorem dX1_widen_14 : decode cX1_widen 14 = .ok (.iload_n 2, 1) := by decide +kernel
theorem dX1_widen_15 : decode cX1_widen 15 = .ok (.iload 4, 2) := by decide +kernel
theorem dX1_widen_17 : decode cX1_widen 17 = .ok (.invokestatic 49, 3) := by decide +kernel
theorem dX1_widen_20 : decode cX1_widen 20 = .ok (.ifCond .eq 25, 3) := by decide +kernel
theorem dX1_widen_23 : decode cX1_widen 23 = .ok (.iload_n 1, 1) := by decide +kernel
theorem dX1_widen_24 : decode cX1_widen 24 = .ok (.aload_n 0, 1) := by decide +kernel
theorem dX1_widen_25 : decode cX1_widen 25 = .ok (.getfield 18, 3) := by decide +kernel
theorem dX1_widen_28 : decode cX1_widen 28 = .ok (.iload 4, 2) := by decide +kernel
theorem dX1_widen_30 : decode cX1_widen 30 = .ok (.iaload, 1) := by decide +kernel
theorem dX1_widen_31 : decode cX1_widen 31 = .ok (.iand, 1) := by decide +kernel
theorem dX1_widen_32 : decode cX1_widen 32 = .ok (.ifCond .eq 13, 3) := by decide +kernel
theorem dX1_widen_35 : decode cX1_widen 35 = .ok (.iload_n 3, 1) := by decide +kernel
theorem dX1_widen_36 : decode cX1_widen 36 = .ok (.aload_n 0, 1) := by decide +kernel
theorem dX1_widen_37 : decode cX1_widen 37 = .ok (.getfield 18, 3) := by decide +kernel
theorem dX1_widen_40 : decode cX1_widen 40 = .ok (.iload 4, 2) := by decide +kernel
theorem dX1_widen_42 : decode cX1_widen 42 = .ok (.iaload, 1) := by decide +kernel
theorem dX1_widen_43 : decode cX1_widen 43 = .ok (.ior, 1) := by decide +kernel
theorem dX1_widen_44 : decode cX1_widen 44 = .ok (.istore_n 3, 1) := by decide +kernel
theorem dX1_widen_45 : decode cX1_widen 45 = .ok (.iinc 4 1, 3) := by decide +kernel
theorem dX1_widen_48 : decode cX1_widen 48 = .ok (.goto (-43), 3) := by decide +kernel
theorem dX1_widen_51 : decode cX1_widen 51 = .ok (.iload_n 3, 1) := by decide +kernel
theorem dX1_widen_52 : decode cX1_widen 52 = .ok (.ireturn, 1) := by decide +kernel
set_option maxRecDepth 20000 in
theorem ggX1_reach_X1_widen : GoodIn wsX1_reach wsX1_widen := goodIn_r _ [6, 7, 8, 9, 10, 11, 12, 13, 14, 15, 16, 17, 18, 19, 20, 21, 22, 23] (by decide +kernel) (by decide +kernel)
set_option maxRecDepth 20000 in
theorem gX1_reach_X1_widen : GoodIn wsX1_reach (wsV RX1 53 RX1 yX1_widen wsX1_widen) := goodIn_app (goodIn_of _ (by decide +kernel)) ggX1_reach_X1_widen
theorem dX1_reach_0 : decode cX1_reach 0 = .ok (.iconst 1, 1) := by decide +kernel
theorem dX1_reach_1 : decode cX1_reach 1 = .ok (.iload_n 1, 1) := by decide +kernel
theorem dX1_reach_2 : decode cX1_reach 2 = .ok (.ishl, 1) := by decide +kernel
theorem dX1_reach_3 : decode cX1_reach 3 = .ok (.istore_n 3, 1) := by decide +kernel
theorem dX1_reach_4 : decode cX1_reach 4 = .ok (.iconst 0, 1) := by decide +kernel
theorem dX1_reach_5 : decode cX1_reach 5 = .ok (.istore 4, 2) := by decide +kernel
theorem dX1_reach_7 : decode cX1_reach 7 = .ok (.iload 4, 2) := by decide +kernel
theorem dX1_reach_9 : decode cX1_reach 9 = .ok (.aload_n 0, 1) := by decide +kernel
theorem dX1_reach_10 : decode cX1_reach 10 = .ok (.getfield 39, 3) := by decide +kernel
theorem dX1_reach_13 : decode cX1_reach 13 = .ok (.if_icmp .ge 29, 3) := by decide +kernel
theorem dX1_reach_16 : decode cX1_reach 16 = .ok (.aload_n 0, 1) := by decide +kernel
theorem dX1_reach_17 : decode cX1_reach 17 = .ok (.iload_n 3, 1) := by decide +kernel
theorem dX1_reach_18 : decode cX1_reach 18 = .ok (.iload_n 2, 1) := by decide +kernel
theorem dX1_reach_19 : decode cX1_reach 19 = .ok (.invokevirtual 53, 3) := by decide +kernel
theorem dX1_reach_22 : decode cX1_reach 22 = .ok (.istore 5, 2) := by decide +kernel
theorem dX1_reach_24 : decode cX1_reach 24 = .ok (.iload 5, 2) := by decide +kernel
theorem dX1_reach_26 : decode cX1_reach 26 = .ok (.iload_n 3, 1) := by decide +kernel
theorem dX1_reach_27 : decode cX1_reach 27 = .ok (.if_icmp .ne 6, 3) := by decide +kernel
theorem dX1_reach_30 : decode cX1_reach 30 = .ok (.goto 12, 3) := by decide +kernel
theorem dX1_reach_33 : decode cX1_reach 33 = .ok (.iload 5, 2) := by decide +kernel
theorem dX1_reach_35 : decode cX1_reach 35 = .ok (.istore_n 3, 1) := by decide +kernel
theorem dX1_reach_36 : decode cX1_reach 36 = .ok (.iinc 4 1, 3) := by decide +kernel
theorem dX1_reach_39 : decode cX1_reach 39 = .ok (.goto (-32), 3) := by decide +kernel
theorem dX1_reach_42 : decode cX1_reach 42 = .ok (.iload_n 3, 1) := by decide +kernel
theorem dX1_reach_43 : decode cX1_reach 43 = .ok (.ireturn, 1) := by decide +kernel
set_option maxRecDepth 20000 in
theorem ggX1_hang_X1_reach : GoodIn wsX1_hang wsX1_reach := goodIn_r _ [5, 6, 7, 8, 9, 4, 10, 11, 12, 13, 14, 15, 16, 17, 18, 19, 20, 21, 22, 23, 24, 25, 26, 27] (by decide +kernel) (by decide +kernel)
set_option maxRecDepth 20000 in
theorem gX1_hang_X1_reach : GoodIn wsX1_hang (wsV RX1 57 RX1 yX1_reach wsX1_reach) := goodIn_app (goodIn_of _ (by decide +kernel)) ggX1_hang_X1_reach
set_option maxRecDepth 20000 in
theorem ggX1_hang_X5_has : GoodIn wsX1_hang wsX5_has := goodIn_r _ [15] (by decide +kernel) (by decide +kernel)
set_option maxRecDepth 20000 in
theorem gX1_hang_X5_has_n49 : GoodIn wsX1_hang (wsX5_has) := ggX1_hang_X5_has
theorem dX1_hang_0 : decode cX1_hang 0 = .ok (.aload_n 0, 1) := by decide +kernel
theorem dX1_hang_1 : decode cX1_hang 1 = .ok (.iload_n 1, 1) := by decide +kernel
theorem dX1_hang_2 : decode cX1_hang 2 = .ok (.iload_n 3, 1) := by decide +kernel
theorem dX1_hang_3 : decode cX1_hang 3 = .ok (.invokevirtual 57, 3) := by decide +kernel
theorem dX1_hang_6 : decode cX1_hang 6 = .ok (.iload_n 2, 1) := by decide +kernel
theorem dX1_hang_7 : decode cX1_hang 7 = .ok (.invokestatic 49, 3) := by decide +kernel
theorem dX1_hang_10 : decode cX1_hang 10 = .ok (.ireturn, 1) := by decide +kernel
set_option maxRecDepth 20000 in
theorem ggX1_steps_X5_has : GoodIn wsX1_steps wsX5_has := goodIn_r _ [4] (by decide +kernel) (by decide +kernel)
set_option maxRecDepth 20000 in
theorem gX1_steps_X5_has_n49 : GoodIn wsX1_steps (wsX5_has) := ggX1_steps_X5_has
set_option maxRecDepth 20000 in
theorem ggX1_steps_X1_widen : GoodIn wsX1_steps wsX1_widen := goodIn_r _ [9, 10, 11, 2, 3, 4, 12, 13, 14, 15, 16, 17, 18, 19, 20, 21, 22, 23] (by decide +kernel) (by decide +kernel)
set_option maxRecDepth 20000 in
theorem gX1_steps_X1_widen : GoodIn wsX1_steps (wsV RX1 53 RX1 yX1_widen wsX1_widen) := goodIn_app (goodIn_of _ (by decide +kernel)) ggX1_steps_X1_widen
theorem dX1_steps_0 : decode cX1_steps 0 = .ok (.iconst 1, 1) := by decide +kernel
theorem dX1_steps_1 : decode cX1_steps 1 = .ok (.iload_n 1, 1) := by decide +kernel
theorem dX1_steps_2 : decode cX1_steps 2 = .ok (.ishl, 1) := by decide +kernel
theorem dX1_steps_3 : decode cX1_steps 3 = .ok (.istore 4, 2) := by decide +kernel
theorem dX1_steps_5 : decode cX1_steps 5 = .ok (.iconst 0, 1) := by decide +kernel
theorem dX1_steps_6 : decode cX1_steps 6 = .ok (.istore 5, 2) := by decide +kernel
theorem dX1_steps_8 : decode cX1_steps 8 = .ok (.iload 5, 2) := by decide +kernel
theorem dX1_steps_10 : decode cX1_steps 10 = .ok (.aload_n 0, 1) := by decide +kernel
theorem dX1_steps_11 : decode cX1_steps 11 = .ok (.getfield 39, 3) := by decide +kernel
theorem dX1_steps_14 : decode cX1_steps 14 = .ok (.if_icmp .ge 30, 3) := by decide +kernel
theorem dX1_steps_17 : decode cX1_steps 17 = .ok (.iload 4, 2) := by decide +kernel
theorem dX1_steps_19 : decode cX1_steps 19 = .ok (.iload_n 2, 1) := by decide +kernel
theorem dX1_steps_20 : decode cX1_steps 20 = .ok (.invokestatic 49, 3) := by decide +kernel
theorem dX1_steps_23 : decode cX1_steps 23 = .ok (.ifCond .eq 6, 3) := by decide +kernel
theorem dX1_steps_26 : decode cX1_steps 26 = .ok (.iload 5, 2) := by decide +kernel
theorem dX1_steps_28 : decode cX1_steps 28 = .ok (.ireturn, 1) := by decide +kernel
theorem dX1_steps_29 : decode cX1_steps 29 = .ok (.aload_n 0, 1) := by decide +kernel
theorem dX1_steps_30 : decode cX1_steps 30 = .ok (.iload 4, 2) := by decide +kernel
theorem dX1_steps_32 : decode cX1_steps 32 = .ok (.iload_n 3, 1) := by decide +kernel
theorem dX1_steps_33 : decode cX1_steps 33 = .ok (.invokevirtual 53, 3) := by decide +kernel
theorem dX1_steps_36 : decode cX1_steps 36 = .ok (.istore 4, 2) := by decide +kernel
theorem dX1_steps_38 : decode cX1_steps 38 = .ok (.iinc 5 1, 3) := by decide +kernel
theorem dX1_steps_41 : decode cX1_steps 41 = .ok (.goto (-33), 3) := by decide +kernel
theorem dX1_steps_44 : decode cX1_steps 44 = .ok (.iconst (-1), 1) := by decide +kernel
theorem dX1_steps_45 : decode cX1_steps 45 = .ok (.ireturn, 1) := by decide +kernel
set_option maxRecDepth 20000 in
theorem ggX1_partsBy_X5_has : GoodIn wsX1_partsBy wsX5_has := goodIn_r _ [4] (by decide +kernel) (by decide +kernel)
set_option maxRecDepth 20000 in
theorem gX1_partsBy_X5_has_n49 : GoodIn wsX1_partsBy (wsX5_has) := ggX1_partsBy_X5_has
set_option maxRecDepth 20000 in
theorem ggX1_partsBy_X1_reach : GoodIn wsX1_partsBy wsX1_reach := goodIn_r _ [9, 1, 10, 11, 12, 8, 13, 14, 15, 2, 3, 4, 16, 17, 18, 19, 20, 21, 22, 23, 24, 25, 26, 27] (by decide +kernel) (by decide +kernel)
set_option maxRecDepth 20000 in
theorem gX1_partsBy_X1_reach : GoodIn wsX1_partsBy (wsV RX1 57 RX1 yX1_reach wsX1_reach) := goodIn_app (goodIn_of _ (by decide +kernel)) ggX1_partsBy_X1_reach
theorem dX1_partsBy_0 : decode cX1_partsBy 0 = .ok (.iconst 0, 1) := by decide +kernel
theorem dX1_partsBy_1 : decode cX1_partsBy 1 = .ok (.istore_n 2, 1) := by decide +kernel
theorem dX1_partsBy_2 : decode cX1_partsBy 2 = .ok (.iconst 0, 1) := by decide +kernel
theorem dX1_partsBy_3 : decode cX1_partsBy 3 = .ok (.istore_n 3, 1) := by decide +kernel
theorem dX1_partsBy_4 : decode cX1_partsBy 4 = .ok (.iconst 0, 1) := by decide +kernel
theorem dX1_partsBy_5 : decode cX1_partsBy 5 = .ok (.istore 4, 2) := by decide +kernel
theorem dX1_partsBy_7 : decode cX1_partsBy 7 = .ok (.iload 4, 2) := by decide +kernel
theorem dX1_partsBy_9 : decode cX1_partsBy 9 = .ok (.aload_n 0, 1) := by decide +kernel
theorem dX1_partsBy_10 : decode cX1_partsBy 10 = .ok (.getfield 39, 3) := by decide +kernel
theorem dX1_partsBy_13 : decode cX1_partsBy 13 = .ok (.if_icmp .ge 31, 3) := by decide +kernel
theorem dX1_partsBy_16 : decode cX1_partsBy 16 = .ok (.iload_n 3, 1) := by decide +kernel
theorem dX1_partsBy_17 : decode cX1_partsBy 17 = .ok (.iload 4, 2) := by decide +kernel
theorem dX1_partsBy_19 : decode cX1_partsBy 19 = .ok (.invokestatic 49, 3) := by decide +kernel
theorem dX1_partsBy_22 : decode cX1_partsBy 22 = .ok (.ifCond .ne 16, 3) := by decide +kernel
theorem dX1_partsBy_25 : decode cX1_partsBy 25 = .ok (.iload_n 3, 1) := by decide +kernel
theorem dX1_partsBy_26 : decode cX1_partsBy 26 = .ok (.aload_n 0, 1) := by decide +kernel
theorem dX1_partsBy_27 : decode cX1_partsBy 27 = .ok (.iload 4, 2) := by decide +kernel
theorem dX1_partsBy_29 : decode cX1_partsBy 29 = .ok (.iload_n 1, 1) := by decide +kernel
theorem dX1_partsBy_30 : decode cX1_partsBy 30 = .ok (.invokevirtual 57, 3) := by decide +kernel
theorem dX1_partsBy_33 : decode cX1_partsBy 33 = .ok (.ior, 1) := by decide +kernel
theorem dX1_partsBy_34 : decode cX1_partsBy 34 = .ok (.istore_n 3, 1) := by decide +kernel
theorem dX1_partsBy_35 : decode cX1_partsBy 35 = .ok (.iinc 2 1, 3) := by decide +kernel
theorem dX1_partsBy_38 : decode cX1_partsBy 38 = .ok (.iinc 4 1, 3) := by decide +kernel
theorem dX1_partsBy_41 : decode cX1_partsBy 41 = .ok (.goto (-34), 3) := by decide +kernel
theorem dX1_partsBy_44 : decode cX1_partsBy 44 = .ok (.iload_n 2, 1) := by decide +kernel
theorem dX1_partsBy_45 : decode cX1_partsBy 45 = .ok (.ireturn, 1) := by decide +kernel
set_option maxRecDepth 20000 in
theorem ggX1_clashing_X5_has : GoodIn wsX1_clashing wsX5_has := goodIn_r _ [8] (by decide +kernel) (by decide +kernel)
set_option maxRecDepth 20000 in
theorem gX1_clashing_X5_has_n49 : GoodIn wsX1_clashing (wsX5_has) := ggX1_clashing_X5_has
set_option maxRecDepth 20000 in
theorem ggX1_clashing_X1_sideRead : GoodIn wsX1_clashing wsX1_sideRead := goodIn_r _ [13, 14, 15, 23, 24, 25, 26, 27, 28, 29, 30, 31, 32, 33, 34] (by decide +kernel) (by decide +kernel)
set_option maxRecDepth 20000 in
theorem gX1_clashing_X1_sideRead : GoodIn wsX1_clashing (wsV RX1 60 RX1 yX1_sideRead wsX1_sideRead) := goodIn_app (goodIn_of _ (by decide +kernel)) ggX1_clashing_X1_sideRead
set_option maxRecDepth 20000 in
theorem ggX1_clashing_J6_bitCount_0f7a4 : GoodIn wsX1_clashing wsJ6_bitCount_0f7a4 := goodIn_r _ [19, 20, 21, 22] (by decide +kernel) (by decide +kernel)
set_option maxRecDepth 20000 in
theorem gX1_clashing_J6_bitCount_0f7a4 : GoodIn wsX1_clashing (va_wsS RX1 64 yJ6_bitCount_0f7a4 wsJ6_bitCount_0f7a4) := goodIn_app (goodIn_of _ (by decide +kernel)) ggX1_clashing_J6_bitCount_0f7a4
theorem dX1_clashing_0 : decode cX1_clashing 0 = .ok (.iconst 0, 1) := by decide +kernel
theorem dX1_clashing_1 : decode cX1_clashing 1 = .ok (.istore_n 3, 1) := by decide +kernel
theorem dX1_clashing_2 : decode cX1_clashing 2 = .ok (.iload_n 3, 1) := by decide +kernel
theorem dX1_clashing_3 : decode cX1_clashing 3 = .ok (.aload_n 0, 1) := by decide +kernel
theorem dX1_clashing_4 : decode cX1_clashing 4 = .ok (.getfield 39, 3) := by decide +kernel
theorem dX1_clashing_7 : decode cX1_clashing 7 = .ok (.if_icmp .ge 16, 3) := by decide +kernel
theorem dX1_clashing_10 : decode cX1_clashing 10 = .ok (.aload_n 0, 1) := by decide +kernel
theorem dX1_clashing_11 : decode cX1_clashing 11 = .ok (.getfield 36, 3) := by decide +kernel
theorem dX1_clashing_14 : decode cX1_clashing 14 = .ok (.iload_n 3, 1) := by decide +kernel
theorem dX1_clashing_15 : decode cX1_clashing 15 = .ok (.iconst 0, 1) := by decide +kernel
theorem dX1_clashing_16 : decode cX1_clashing 16 = .ok (.iastore, 1) := by decide +kernel
theorem dX1_clashing_17 : decode cX1_clashing 17 = .ok (.iinc 3 1, 3) := by decide +kernel
theorem dX1_clashing_20 : decode cX1_clashing 20 = .ok (.goto (-18), 3) := by decide +kernel
theorem dX1_clashing_23 : decode cX1_clashing 23 = .ok (.iconst 0, 1) := by decide +kernel
theorem dX1_clashing_24 : decode cX1_clashing 24 = .ok (.istore_n 3, 1) := by decide +kernel
theorem dX1_clashing_25 : decode cX1_clashing 25 = .ok (.iload_n 3, 1) := by decide +kernel
theorem dX1_clashing_26 : decode cX1_clashing 26 = .ok (.aload_n 0, 1) := by decide +kernel
theorem dX1_clashing_27 : decode cX1_clashing 27 = .ok (.getfield 43, 3) := by decide +kernel
theorem dX1_clashing_30 : decode cX1_clashing 30 = .ok (.if_icmp .ge 71, 3) := by decide +kernel
theorem dX1_clashing_33 : decode cX1_clashing 33 = .ok (.iload_n 1, 1) := by decide +kernel
theorem dX1_clashing_34 : decode cX1_clashing 34 = .ok (.iload_n 3, 1) := by decide +kernel
theorem dX1_clashing_35 : decode cX1_clashing 35 = .ok (.invokestatic 49, 3) := by decide +kernel
theorem dX1_clashing_38 : decode cX1_clashing 38 = .ok (.ifCond .eq 57, 3) := by decide +kernel
theorem dX1_clashing_41 : decode cX1_clashing 41 = .ok (.aload_n 0, 1) := by decide +kernel
theorem dX1_clashing_42 : decode cX1_clashing 42 = .ok (.getfield 36, 3) := by decide +kernel
theorem dX1_clashing_45 : decode cX1_clashing 45 = .ok (.aload_n 0, 1) := by decide +kernel
theorem dX1_clashing_46 : decode cX1_clashing 46 = .ok (.getfield 9, 3) := by decide +kernel
theorem dX1_clashing_49 : decode cX1_clashing 49 = .ok (.iload_n 3, 1) := by decide +kernel
theorem dX1_clashing_50 : decode cX1_clashing 50 = .ok (.iaload, 1) := by decide +kernel
theorem dX1_clashing_51 : decode cX1_clashing 51 = .ok (.dup2, 1) := by decide +kernel
theorem dX1_clashing_52 : decode cX1_clashing 52 = .ok (.iaload, 1) := by decide +kernel
theorem dX1_clashing_53 : decode cX1_clashing 53 = .ok (.iconst 1, 1) := by decide +kernel
theorem dX1_clashing_54 : decode cX1_clashing 54 = .ok (.aload_n 0, 1) := by decide +kernel
theorem dX1_clashing_55 : decode cX1_clashing 55 = .ok (.iload_n 3, 1) := by decide +kernel
theorem dX1_clashing_56 : decode cX1_clashing 56 = .ok (.iconst 1, 1) := by decide +kernel
theorem dX1_clashing_57 : decode cX1_clashing 57 = .ok (.iload_n 2, 1) := by decide +kernel
theorem dX1_clashing_58 : decode cX1_clashing 58 = .ok (.iload_n 3, 1) := by decide +kernel
theorem dX1_clashing_59 : decode cX1_clashing 59 = .ok (.invokestatic 49, 3) := by decide +kernel
theorem dX1_clashing_62 : decode cX1_clashing 62 = .ok (.invokevirtual 60, 3) := by decide +kernel
theorem dX1_clashing_65 : decode cX1_clashing 65 = .ok (.ishl, 1) := by decide +kernel
theorem dX1_clashing_66 : decode cX1_clashing 66 = .ok (.ior, 1) := by decide +kernel
theorem dX1_clashing_67 : decode cX1_clashing 67 = .ok (.iastore, 1) := by decide +kernel
theorem dX1_clashing_68 : decode cX1_clashing 68 = .ok (.aload_n 0, 1) := by decide +kernel
theorem dX1_clashing_69 : decode cX1_clashing 69 = .ok (.getfield 36, 3) := by decide +kernel
theorem dX1_clashing_72 : decode cX1_clashing 72 = .ok (.aload_n 0, 1) := by decide +kernel
theorem dX1_clashing_73 : decode cX1_clashing 73 = .ok (.getfield 15, 3) := by decide +kernel
theorem dX1_clashing_76 : decode cX1_clashing 76 = .ok (.iload_n 3, 1) := by decide +kernel
theorem dX1_clashing_77 : decode cX1_clashing 77 = .ok (.iaload, 1) := by decide +kernel
theorem dX1_clashing_78 : decode cX1_clashing 78 = .ok (.dup2, 1) := by decide +kernel
theorem dX1_clashing_79 : decode cX1_clashing 79 = .ok (.iaload, 1) := by decide +kernel
theorem dX1_clashing_80 : decode cX1_clashing 80 = .ok (.iconst 1, 1) := by decide +kernel
theorem dX1_clashing_81 : decode cX1_clashing 81 = .ok (.aload_n 0, 1) := by decide +kernel
theorem dX1_clashing_82 : decode cX1_clashing 82 = .ok (.iload_n 3, 1) := by decide +kernel
theorem dX1_clashing_83 : decode cX1_clashing 83 = .ok (.iconst 0, 1) := by decide +kernel
theorem dX1_clashing_84 : decode cX1_clashing 84 = .ok (.iload_n 2, 1) := by decide +kernel
theorem dX1_clashing_85 : decode cX1_clashing 85 = .ok (.iload_n 3, 1) := by decide +kernel
theorem dX1_clashing_86 : decode cX1_clashing 86 = .ok (.invokestatic 49, 3) := by decide +kernel
theorem dX1_clashing_89 : decode cX1_clashing 89 = .ok (.invokevirtual 60, 3) := by decide +kernel
theorem dX1_clashing_92 : decode cX1_clashing 92 = .ok (.ishl, 1) := by decide +kernel
theorem dX1_clashing_93 : decode cX1_clashing 93 = .ok (.ior, 1) := by decide +kernel
theorem dX1_clashing_94 : decode cX1_clashing 94 = .ok (.iastore, 1) := by decide +kernel
theorem dX1_clashing_95 : decode cX1_clashing 95 = .ok (.iinc 3 1, 3) := by decide +kernel
theorem dX1_clashing_98 : decode cX1_clashing 98 = .ok (.goto (-73), 3) := by decide +kernel
theorem dX1_clashing_101 : decode cX1_clashing 101 = .ok (.iconst 0, 1) := by decide +kernel
theorem dX1_clashing_102 : decode cX1_clashing 102 = .ok (.istore_n 3, 1) := by decide +kernel
theorem dX1_clashing_103 : decode cX1_clashing 103 = .ok (.iconst 0, 1) := by decide +kernel
theorem dX1_clashing_104 : decode cX1_clashing 104 = .ok (.istore 4, 2) := by decide +kernel
theorem dX1_clashing_106 : decode cX1_clashing 106 = .ok (.iload 4, 2) := by decide +kernel
theorem dX1_clashing_108 : decode cX1_clashing 108 = .ok (.aload_n 0, 1) := by decide +kernel
theorem dX1_clashing_109 : decode cX1_clashing 109 = .ok (.getfield 39, 3) := by decide +kernel
theorem dX1_clashing_112 : decode cX1_clashing 112 = .ok (.if_icmp .ge 30, 3) := by decide +kernel
theorem dX1_clashing_115 : decode cX1_clashing 115 = .ok (.aload_n 0, 1) := by decide +kernel
theorem dX1_clashing_116 : decode cX1_clashing 116 = .ok (.getfield 36, 3) := by decide +kernel
theorem dX1_clashing_119 : decode cX1_clashing 119 = .ok (.iload 4, 2) := by decide +kernel
theorem dX1_clashing_121 : decode cX1_clashing 121 = .ok (.iaload, 1) := by decide +kernel
theorem dX1_clashing_122 : decode cX1_clashing 122 = .ok (.invokestatic 64, 3) := by decide +kernel
theorem dX1_clashing_125 : decode cX1_clashing 125 = .ok (.iconst 1, 1) := by decide +kernel
theorem dX1_clashing_126 : decode cX1_clashing 126 = .ok (.if_icmp .le 10, 3) := by decide +kernel
theorem dX1_clashing_129 : decode cX1_clashing 129 = .ok (.iload_n 3, 1) := by decide +kernel
theorem dX1_clashing_130 : decode cX1_clashing 130 = .ok (.iconst 1, 1) := by decide +kernel
theorem dX1_clashing_131 : decode cX1_clashing 131 = .ok (.iload 4, 2) := by decide +kernel
theorem dX1_clashing_133 : decode cX1_clashing 133 = .ok (.ishl, 1) := by decide +kernel
theorem dX1_clashing_134 : decode cX1_clashing 134 = .ok (.ior, 1) := by decide +kernel
theorem dX1_clashing_135 : decode cX1_clashing 135 = .ok (.istore_n 3, 1) := by decide +kernel
theorem dX1_clashing_136 : decode cX1_clashing 136 = .ok (.iinc 4 1, 3) := by decide +kernel
theorem dX1_clashing_139 : decode cX1_clashing 139 = .ok (.goto (-33), 3) := by decide +kernel
theorem dX1_clashing_142 : decode cX1_clashing 142 = .ok (.iload_n 3, 1) := by decide +kernel
theorem dX1_clashing_143 : decode cX1_clashing 143 = .ok (.ireturn, 1) := by decide +kernel
theorem dX2_init_0 : decode cX2_init 0 = .ok (.aload_n 0, 1) := by decide +kernel
theorem dX2_init_1 : decode cX2_init 1 = .ok (.invokespecial 3, 3) := by decide +kernel
theorem dX2_init_4 : decode cX2_init 4 = .ok (.aload_n 0, 1) := by decide +kernel
theorem dX2_init_5 : decode cX2_init 5 = .ok (.sipush 480, 3) := by decide +kernel
theorem dX2_init_8 : decode cX2_init 8 = .ok (.newarray .int, 2) := by decide +kernel
theorem dX2_init_10 : decode cX2_init 10 = .ok (.putfield 11, 3) := by decide +kernel
theorem dX2_init_13 : decode cX2_init 13 = .ok (.aload_n 0, 1) := by decide +kernel
theorem dX2_init_14 : decode cX2_init 14 = .ok (.iconst 0, 1) := by decide +kernel
theorem dX2_init_15 : decode cX2_init 15 = .ok (.putfield 17, 3) := by decide +kernel
theorem dX2_init_18 : decode cX2_init 18 = .ok (.aload_n 0, 1) := by decide +kernel
theorem dX2_init_19 : decode cX2_init 19 = .ok (.iconst 0, 1) := by decide +kernel
theorem dX2_init_20 : decode cX2_init 20 = .ok (.putfield 21, 3) := by decide +kernel
theorem dX2_init_23 : decode cX2_init 23 = .ok (.return_, 1) := by decide +kernel
theorem dX2_forget_0 : decode cX2_forget 0 = .ok (.aload_n 0, 1) := by decide +kernel
theorem dX2_forget_1 : decode cX2_forget 1 = .ok (.iconst 0, 1) := by decide +kernel
theorem dX2_forget_2 : decode cX2_forget 2 = .ok (.putfield 17, 3) := by decide +kernel
theorem dX2_forget_5 : decode cX2_forget 5 = .ok (.aload_n 0, 1) := by decide +kernel
theorem dX2_forget_6 : decode cX2_forget 6 = .ok (.iconst 0, 1) := by decide +kernel
theorem dX2_forget_7 : decode cX2_forget 7 = .ok (.putfield 21, 3) := by decide +kernel
theorem dX2_forget_10 : decode cX2_forget 10 = .ok (.return_, 1) := by decide +kernel
set_option maxRecDepth 20000 in
theorem ggX2_note_X0_store : GoodIn wsX2_note wsX0_store := goodIn_r _ [12, 13, 14, 15, 16, 17, 18, 19, 20, 21, 22, 23, 27, 28, 29, 30, 31, 32, 33] (by decide +kernel) (by decide +kernel)
set_option maxRecDepth 20000 in
theorem gX2_note_X0_store : GoodIn wsX2_note (wsV RX2 24 RX0 yX0_store wsX0_store) := goodIn_app (goodIn_of _ (by decide +kernel)) ggX2_note_X0_store
theorem dX2_note_0 : decode cX2_note 0 = .ok (.aload_n 1, 1) := by decide +kernel
theorem dX2_note_1 : decode cX2_note 1 = .ok (.aload_n 0, 1) := by decide +kernel
theorem dX2_note_2 : decode cX2_note 2 = .ok (.getfield 11, 3) := by decide +kernel
theorem dX2_note_5 : decode cX2_note 5 = .ok (.aload_n 0, 1) := by decide +kernel
theorem dX2_note_6 : decode cX2_note 6 = .ok (.getfield 17, 3) := by decide +kernel
theorem dX2_note_9 : decode cX2_note 9 = .ok (.invokevirtual 24, 3) := by decide +kernel
theorem dX2_note_12 : decode cX2_note 12 = .ok (.aload_n 0, 1) := by decide +kernel
theorem dX2_note_13 : decode cX2_note 13 = .ok (.aload_n 0, 1) := by decide +kernel
theorem dX2_note_14 : decode cX2_note 14 = .ok (.getfield 17, 3) := by decide +kernel
theorem dX2_note_17 : decode cX2_note 17 = .ok (.iconst 1, 1) := by decide +kernel
theorem dX2_note_18 : decode cX2_note 18 = .ok (.iadd, 1) := by decide +kernel
theorem dX2_note_19 : decode cX2_note 19 = .ok (.bipush 30, 2) := by decide +kernel
theorem dX2_note_21 : decode cX2_note 21 = .ok (.irem, 1) := by decide +kernel
theorem dX2_note_22 : decode cX2_note 22 = .ok (.putfield 17, 3) := by decide +kernel
theorem dX2_note_25 : decode cX2_note 25 = .ok (.aload_n 0, 1) := by decide +kernel
theorem dX2_note_26 : decode cX2_note 26 = .ok (.aload_n 0, 1) := by decide +kernel
theorem dX2_note_27 : decode cX2_note 27 = .ok (.getfield 21, 3) := by decide +kernel
theorem dX2_note_30 : decode cX2_note 30 = .ok (.iconst 1, 1) := by decide +kernel
theorem dX2_note_31 : decode cX2_note 31 = .ok (.iadd, 1) := by decide +kernel
theorem dX2_note_32 : decode cX2_note 32 = .ok (.bipush 30, 2) := by decide +kernel
theorem dX2_note_34 : decode cX2_note 34 = .ok (.invokestatic 28, 3) := by decide +kernel
theorem dX2_note_37 : decode cX2_note 37 = .ok (.putfield 21, 3) := by decide +kernel
theorem dX2_note_40 : decode cX2_note 40 = .ok (.return_, 1) := by decide +kernel
set_option maxRecDepth 20000 in
theorem ggX2_takeBack_X0_restore : GoodIn wsX2_takeBack wsX0_restore := goodIn_r _ [8, 9, 10, 11, 12, 13, 14, 15, 16, 17, 18, 19, 23, 24, 25, 26, 27, 28, 29] (by decide +kernel) (by decide +kernel)
set_option maxRecDepth 20000 in
theorem gX2_takeBack_X0_restore : GoodIn wsX2_takeBack (wsV RX2 34 RX0 yX0_restore wsX0_restore) := goodIn_app (goodIn_of _ (by decide +kernel)) ggX2_takeBack_X0_restore
theorem dX2_takeBack_0 : decode cX2_takeBack 0 = .ok (.aload_n 0, 1) := by decide +kernel
theorem dX2_takeBack_1 : decode cX2_takeBack 1 = .ok (.aload_n 0, 1) := by decide +kernel
theorem dX2_takeBack_2 : decode cX2_takeBack 2 = .ok (.getfield 17, 3) := by decide +kernel
theorem dX2_takeBack_5 : decode cX2_takeBack 5 = .ok (.bipush 30, 2) := by decide +kernel
theorem dX2_takeBack_7 : decode cX2_takeBack 7 = .ok (.iadd, 1) := by decide +kernel
theorem dX2_takeBack_8 : decode cX2_takeBack 8 = .ok (.iload_n 1, 1) := by decide +kernel
theorem dX2_takeBack_9 : decode cX2_takeBack 9 = .ok (.isub, 1) := by decide +kernel
theorem dX2_takeBack_10 : decode cX2_takeBack 10 = .ok (.bipush 30, 2) := by decide +kernel
theorem dX2_takeBack_12 : decode cX2_takeBack 12 = .ok (.irem, 1) := by decide +kernel
theorem dX2_takeBack_13 : decode cX2_takeBack 13 = .ok (.putfield 17, 3) := by decide +kernel
theorem dX2_takeBack_16 : decode cX2_takeBack 16 = .ok (.aload_n 0, 1) := by decide +kernel
theorem dX2_takeBack_17 : decode cX2_takeBack 17 = .ok (.dup, 1) := by decide +kernel
theorem dX2_takeBack_18 : decode cX2_takeBack 18 = .ok (.getfield 21, 3) := by decide +kernel
theorem dX2_takeBack_21 : decode cX2_takeBack 21 = .ok (.iload_n 1, 1) := by decide +kernel
theorem dX2_takeBack_22 : decode cX2_takeBack 22 = .ok (.isub, 1) := by decide +kernel
theorem dX2_takeBack_23 : decode cX2_takeBack 23 = .ok (.putfield 21, 3) := by decide +kernel
theorem dX2_takeBack_26 : decode cX2_takeBack 26 = .ok (.aload_n 2, 1) := by decide +kernel
theorem dX2_takeBack_27 : decode cX2_takeBack 27 = .ok (.aload_n 0, 1) := by decide +kernel
theorem dX2_takeBack_28 : decode cX2_takeBack 28 = .ok (.getfield 11, 3) := by decide +kernel
theorem dX2_takeBack_31 : decode cX2_takeBack 31 = .ok (.aload_n 0, 1) := by decide +kernel
theorem dX2_takeBack_32 : decode cX2_takeBack 32 = .ok (.getfield 17, 3) := by decide +kernel
theorem dX2_takeBack_35 : decode cX2_takeBack 35 = .ok (.invokevirtual 34, 3) := by decide +kernel
theorem dX2_takeBack_38 : decode cX2_takeBack 38 = .ok (.return_, 1) := by decide +kernel
theorem dX3_init_0 : decode cX3_init 0 = .ok (.aload_n 0, 1) := by decide +kernel
theorem dX3_init_1 : decode cX3_init 1 = .ok (.invokespecial 3, 3) := by decide +kernel
theorem dX3_init_4 : decode cX3_init 4 = .ok (.aload_n 0, 1) := by decide +kernel
theorem dX3_init_5 : decode cX3_init 5 = .ok (.bipush 6, 2) := by decide +kernel
theorem dX3_init_7 : decode cX3_init 7 = .ok (.newarray .int, 2) := by decide +kernel
theorem dX3_init_9 : decode cX3_init 9 = .ok (.putfield 9, 3) := by decide +kernel
theorem dX3_init_12 : decode cX3_init 12 = .ok (.aload_n 0, 1) := by decide +kernel
theorem dX3_init_13 : decode cX3_init 13 = .ok (.bipush 6, 2) := by decide +kernel
theorem dX3_init_15 : decode cX3_init 15 = .ok (.newarray .int, 2) := by decide +kernel
theorem dX3_init_17 : decode cX3_init 17 = .ok (.putfield 15, 3) := by decide +kernel
theorem dX3_init_20 : decode cX3_init 20 = .ok (.aload_n 0, 1) := by decide +kernel
theorem dX3_init_21 : decode cX3_init 21 = .ok (.bipush 20, 2) := by decide +kernel
theorem dX3_init_23 : decode cX3_init 23 = .ok (.newarray .int, 2) := by decide +kernel
theorem dX3_init_25 : decode cX3_init 25 = .ok (.putfield 18, 3) := by decide +kernel
theorem dX3_init_28 : decode cX3_init 28 = .ok (.aload_n 0, 1) := by decide +kernel
theorem dX3_init_29 : decode cX3_init 29 = .ok (.iconst 0, 1) := by decide +kernel
theorem dX3_init_30 : decode cX3_init 30 = .ok (.putfield 21, 3) := by decide +kernel
theorem dX3_init_33 : decode cX3_init 33 = .ok (.aload_n 0, 1) := by decide +kernel
theorem dX3_init_34 : decode cX3_init 34 = .ok (.iconst 0, 1) := by decide +kernel
theorem dX3_init_35 : decode cX3_init 35 = .ok (.putfield 25, 3) := by decide +kernel
theorem dX3_init_38 : decode cX3_init 38 = .ok (.aload_n 0, 1) := by decide +kernel
theorem dX3_init_39 : decode cX3_init 39 = .ok (.iconst 0, 1) := by decide +kernel
theorem dX3_init_40 : decode cX3_init 40 = .ok (.putfield 28, 3) := by decide +kernel
theorem dX3_init_43 : decode cX3_init 43 = .ok (.aload_n 0, 1) := by decide +kernel
theorem dX3_init_44 : decode cX3_init 44 = .ok (.iconst 0, 1) := by decide +kernel
theorem dX3_init_45 : decode cX3_init 45 = .ok (.putfield 31, 3) := by decide +kernel
theorem dX3_init_48 : decode cX3_init 48 = .ok (.return_, 1) := by decide +kernel
theorem dX3_forget_0 : decode cX3_forget 0 = .ok (.aload_n 0, 1) := by decide +kernel
theorem dX3_forget_1 : decode cX3_forget 1 = .ok (.iconst 0, 1) := by decide +kernel
theorem dX3_forget_2 : decode cX3_forget 2 = .ok (.putfield 21, 3) := by decide +kernel
theorem dX3_forget_5 : decode cX3_forget 5 = .ok (.aload_n 0, 1) := by decide +kernel
theorem dX3_forget_6 : decode cX3_forget 6 = .ok (.iconst 0, 1) := by decide +kernel
theorem dX3_forget_7 : decode cX3_forget 7 = .ok (.putfield 25, 3) := by decide +kernel
theorem dX3_forget_10 : decode cX3_forget 10 = .ok (.aload_n 0, 1) := by decide +kernel
theorem dX3_forget_11 : decode cX3_forget 11 = .ok (.iconst 0, 1) := by decide +kernel
theorem dX3_forget_12 : decode cX3_forget 12 = .ok (.putfield 28, 3) := by decide +kernel
theorem dX3_forget_15 : decode cX3_forget 15 = .ok (.aload_n 0, 1) := by decide +kernel
theorem dX3_forget_16 : decode cX3_forget 16 = .ok (.iconst 0, 1) := by decide +kernel
theorem dX3_forget_17 : decode cX3_forget 17 = .ok (.putfield 31, 3) := by decide +kernel
theorem dX3_forget_20 : decode cX3_forget 20 = .ok (.return_, 1) := by decide +kernel
theorem dX3_addHeard_0 : decode cX3_addHeard 0 = .ok (.aload_n 0, 1) := by decide +kernel
theorem dX3_addHeard_1 : decode cX3_addHeard 1 = .ok (.getfield 21, 3) := by decide +kernel
theorem dX3_addHeard_4 : decode cX3_addHeard 4 = .ok (.bipush 6, 2) := by decide +kernel
theorem dX3_addHeard_6 : decode cX3_addHeard 6 = .ok (.if_icmp .ge 56, 3) := by decide +kernel
theorem dX3_addHeard_9 : decode cX3_addHeard 9 = .ok (.aload_n 0, 1) := by decide +kernel
theorem dX3_addHeard_10 : decode cX3_addHeard 10 = .ok (.getfield 9, 3) := by decide +kernel
theorem dX3_addHeard_13 : decode cX3_addHeard 13 = .ok (.aload_n 0, 1) := by decide +kernel
theorem dX3_addHeard_14 : decode cX3_addHeard 14 = .ok (.getfield 21, 3) := by decide +kernel
theorem dX3_addHeard_17 : decode cX3_addHeard 17 = .ok (.iload_n 1, 1) := by decide +kernel
theorem dX3_addHeard_18 : decode cX3_addHeard 18 = .ok (.iastore, 1) := by decide +kernel
theorem dX3_addHeard_19 : decode cX3_addHeard 19 = .ok (.aload_n 0, 1) := by decide +kernel
theorem dX3_addHeard_20 : decode cX3_addHeard 20 = .ok (.getfield 15, 3) := by decide +kernel
theorem dX3_addHeard_23 : decode cX3_addHeard 23 = .ok (.aload_n 0, 1) := by decide +kernel
theorem dX3_addHeard_24 : decode cX3_addHeard 24 = .ok (.getfield 21, 3) := by decide +kernel
theorem dX3_addHeard_27 : decode cX3_addHeard 27 = .ok (.iload_n 2, 1) := by decide +kernel
theorem dX3_addHeard_28 : decode cX3_addHeard 28 = .ok (.iastore, 1) := by decide +kernel
theorem dX3_addHeard_29 : decode cX3_addHeard 29 = .ok (.aload_n 0, 1) := by decide +kernel
theorem dX3_addHeard_30 : decode cX3_addHeard 30 = .ok (.dup, 1) := by decide +kernel
theorem dX3_addHeard_31 : decode cX3_addHeard 31 = .ok (.getfield 28, 3) := by decide +kernel
theorem dX3_addHeard_34 : decode cX3_addHeard 34 = .ok (.iload_n 3, 1) := by decide +kernel
theorem dX3_addHeard_35 : decode cX3_addHeard 35 = .ok (.ifCond .eq 12, 3) := by decide +kernel
theorem dX3_addHeard_38 : decode cX3_addHeard 38 = .ok (.iconst 1, 1) := by decide +kernel
theorem dX3_addHeard_39 : decode cX3_addHeard 39 = .ok (.aload_n 0, 1) := by decide +kernel
theorem dX3_addHeard_40 : decode cX3_addHeard 40 = .ok (.getfield 21, 3) := by decide +kernel
theorem dX3_addHeard_43 : decode cX3_addHeard 43 = .ok (.ishl, 1) := by decide +kernel
theorem dX3_addHeard_44 : decode cX3_addHeard 44 = .ok (.goto 4, 3) := by decide +kernel
theorem dX3_addHeard_47 : decode cX3_addHeard 47 = .ok (.iconst 0, 1) := by decide +kernel
theorem dX3_addHeard_48 : decode cX3_addHeard 48 = .ok (.ior, 1) := by decide +kernel
theorem dX3_addHeard_49 : decode cX3_addHeard 49 = .ok (.putfield 28, 3) := by decide +kernel
theorem dX3_addHeard_52 : decode cX3_addHeard 52 = .ok (.aload_n 0, 1) := by decide +kernel
theorem dX3_addHeard_53 : decode cX3_addHeard 53 = .ok (.dup, 1) := by decide +kernel
theorem dX3_addHeard_54 : decode cX3_addHeard 54 = .ok (.getfield 21, 3) := by decide +kernel
theorem dX3_addHeard_57 : decode cX3_addHeard 57 = .ok (.iconst 1, 1) := by decide +kernel
theorem dX3_addHeard_58 : decode cX3_addHeard 58 = .ok (.iadd, 1) := by decide +kernel
theorem dX3_addHeard_59 : decode cX3_addHeard 59 = .ok (.putfield 21, 3) := by decide +kernel
theorem dX3_addHeard_62 : decode cX3_addHeard 62 = .ok (.aload_n 0, 1) := by decide +kernel
theorem dX3_addHeard_63 : decode cX3_addHeard 63 = .ok (.getfield 21, 3) := by decide +kernel
theorem dX3_addHeard_66 : decode cX3_addHeard 66 = .ok (.ireturn, 1) := by decide +kernel
theorem dX3_addEntry_0 : decode cX3_addEntry 0 = .ok (.aload_n 0, 1) := by decide +kernel
theorem dX3_addEntry_1 : decode cX3_addEntry 1 = .ok (.getfield 25, 3) := by decide +kernel
theorem dX3_addEntry_4 : decode cX3_addEntry 4 = .ok (.bipush 20, 2) := by decide +kernel
theorem dX3_addEntry_6 : decode cX3_addEntry 6 = .ok (.if_icmp .ge 38, 3) := by decide +kernel
theorem dX3_addEntry_9 : decode cX3_addEntry 9 = .ok (.aload_n 0, 1) := by decide +kernel
theorem dX3_addEntry_10 : decode cX3_addEntry 10 = .ok (.getfield 18, 3) := by decide +kernel
theorem dX3_addEntry_13 : decode cX3_addEntry 13 = .ok (.aload_n 0, 1) := by decide +kernel
theorem dX3_addEntry_14 : decode cX3_addEntry 14 = .ok (.getfield 25, 3) := by decide +kernel
theorem dX3_addEntry_17 : decode cX3_addEntry 17 = .ok (.iload_n 1, 1) := by decide +kernel
theorem dX3_addEntry_18 : decode cX3_addEntry 18 = .ok (.iastore, 1) := by decide +kernel
theorem dX3_addEntry_19 : decode cX3_addEntry 19 = .ok (.aload_n 0, 1) := by decide +kernel
theorem dX3_addEntry_20 : decode cX3_addEntry 20 = .ok (.dup, 1) := by decide +kernel
theorem dX3_addEntry_21 : decode cX3_addEntry 21 = .ok (.getfield 31, 3) := by decide +kernel
theorem dX3_addEntry_24 : decode cX3_addEntry 24 = .ok (.iload_n 2, 1) := by decide +kernel
theorem dX3_addEntry_25 : decode cX3_addEntry 25 = .ok (.aload_n 0, 1) := by decide +kernel
theorem dX3_addEntry_26 : decode cX3_addEntry 26 = .ok (.getfield 25, 3) := by decide +kernel
theorem dX3_addEntry_29 : decode cX3_addEntry 29 = .ok (.ishl, 1) := by decide +kernel
theorem dX3_addEntry_30 : decode cX3_addEntry 30 = .ok (.ior, 1) := by decide +kernel
theorem dX3_addEntry_31 : decode cX3_addEntry 31 = .ok (.putfield 31, 3) := by decide +kernel
theorem dX3_addEntry_34 : decode cX3_addEntry 34 = .ok (.aload_n 0, 1) := by decide +kernel
theorem dX3_addEntry_35 : decode cX3_addEntry 35 = .ok (.dup, 1) := by decide +kernel
theorem dX3_addEntry_36 : decode cX3_addEntry 36 = .ok (.getfield 25, 3) := by decide +kernel
theorem dX3_addEntry_39 : decode cX3_addEntry 39 = .ok (.iconst 1, 1) := by decide +kernel
theorem dX3_addEntry_40 : decode cX3_addEntry 40 = .ok (.iadd, 1) := by decide +kernel
theorem dX3_addEntry_41 : decode cX3_addEntry 41 = .ok (.putfield 25, 3) := by decide +kernel
theorem dX3_addEntry_44 : decode cX3_addEntry 44 = .ok (.aload_n 0, 1) := by decide +kernel
theorem dX3_addEntry_45 : decode cX3_addEntry 45 = .ok (.getfield 25, 3) := by decide +kernel
theorem dX3_addEntry_48 : decode cX3_addEntry 48 = .ok (.ireturn, 1) := by decide +kernel
set_option maxRecDepth 20000 in
theorem ggX3_fits_X1_hang : GoodIn wsX3_fits wsX1_hang := goodIn_r _ [9, 10, 11, 12, 8, 13, 14, 15, 16, 17, 18, 19, 20, 21, 22, 23, 31, 32, 33, 34, 35, 36, 37, 38, 39, 40, 41, 42] (by decide +kernel) (by decide +kernel)
set_option maxRecDepth 20000 in
theorem gX3_fits_X1_hang : GoodIn wsX3_fits (wsV RX3 34 RX1 yX1_hang wsX1_hang) := goodIn_app (goodIn_of _ (by decide +kernel)) ggX3_fits_X1_hang
set_option maxRecDepth 20000 in
theorem ggX3_fits_X5_has : GoodIn wsX3_fits wsX5_has := goodIn_r _ [23] (by decide +kernel) (by decide +kernel)
set_option maxRecDepth 20000 in
theorem gX3_fits_X5_has_n40 : GoodIn wsX3_fits (wsX5_has) := ggX3_fits_X5_has
theorem dX3_fits_0 : decode cX3_fits 0 = .ok (.iconst 0, 1) := by decide +kernel
theorem dX3_fits_1 : decode cX3_fits 1 = .ok (.istore_n 3, 1) := by decide +kernel
theorem dX3_fits_2 : decode cX3_fits 2 = .ok (.iload_n 3, 1) := by decide +kernel
theorem dX3_fits_3 : decode cX3_fits 3 = .ok (.aload_n 0, 1) := by decide +kernel
theorem dX3_fits_4 : decode cX3_fits 4 = .ok (.getfield 21, 3) := by decide +kernel
theorem dX3_fits_7 : decode cX3_fits 7 = .ok (.if_icmp .ge 39, 3) := by decide +kernel
theorem dX3_fits_10 : decode cX3_fits 10 = .ok (.aload_n 1, 1) := by decide +kernel
theorem dX3_fits_11 : decode cX3_fits 11 = .ok (.aload_n 0, 1) := by decide +kernel
theorem dX3_fits_12 : decode cX3_fits 12 = .ok (.getfield 9, 3) := by decide +kernel
theorem dX3_fits_15 : decode cX3_fits 15 = .ok (.iload_n 3, 1) := by decide +kernel
theorem dX3_fits_16 : decode cX3_fits 16 = .ok (.iaload, 1) := by decide +kernel
theorem dX3_fits_17 : decode cX3_fits 17 = .ok (.aload_n 0, 1) := by decide +kernel
theorem dX3_fits_18 : decode cX3_fits 18 = .ok (.getfield 15, 3) := by decide +kernel
theorem dX3_fits_21 : decode cX3_fits 21 = .ok (.iload_n 3, 1) := by decide +kernel
theorem dX3_fits_22 : decode cX3_fits 22 = .ok (.iaload, 1) := by decide +kernel
theorem dX3_fits_23 : decode cX3_fits 23 = .ok (.iload_n 2, 1) := by decide +kernel
theorem dX3_fits_24 : decode cX3_fits 24 = .ok (.invokevirtual 34, 3) := by decide +kernel
theorem dX3_fits_27 : decode cX3_fits 27 = .ok (.aload_n 0, 1) := by decide +kernel
theorem dX3_fits_28 : decode cX3_fits 28 = .ok (.getfield 28, 3) := by decide +kernel
theorem dX3_fits_31 : decode cX3_fits 31 = .ok (.iload_n 3, 1) := by decide +kernel
theorem dX3_fits_32 : decode cX3_fits 32 = .ok (.invokestatic 40, 3) := by decide +kernel
theorem dX3_fits_35 : decode cX3_fits 35 = .ok (.if_icmp .eq 5, 3) := by decide +kernel
theorem dX3_fits_38 : decode cX3_fits 38 = .ok (.iconst 0, 1) := by decide +kernel
theorem dX3_fits_39 : decode cX3_fits 39 = .ok (.ireturn, 1) := by decide +kernel
theorem dX3_fits_40 : decode cX3_fits 40 = .ok (.iinc 3 1, 3) := by decide +kernel
theorem dX3_fits_43 : decode cX3_fits 43 = .ok (.goto (-41), 3) := by decide +kernel
theorem dX3_fits_46 : decode cX3_fits 46 = .ok (.iconst 1, 1) := by decide +kernel
theorem dX3_fits_47 : decode cX3_fits 47 = .ok (.ireturn, 1) := by decide +kernel
set_option maxRecDepth 20000 in
theorem ggX3_firstWrong_X5_has : GoodIn wsX3_firstWrong wsX5_has := goodIn_r _ [6] (by decide +kernel) (by decide +kernel)
set_option maxRecDepth 20000 in
theorem gX3_firstWrong_X5_has_n40 : GoodIn wsX3_firstWrong (wsX5_has) := ggX3_firstWrong_X5_has
theorem dX3_firstWrong_0 : decode cX3_firstWrong 0 = .ok (.iconst 0, 1) := by decide +kernel
theorem dX3_firstWrong_1 : decode cX3_firstWrong 1 = .ok (.istore_n 2, 1) := by decide +kernel
theorem dX3_firstWrong_2 : decode cX3_firstWrong 2 = .ok (.iload_n 2, 1) := by decide +kernel
theorem dX3_firstWrong_3 : decode cX3_firstWrong 3 = .ok (.aload_n 0, 1) := by decide +kernel
theorem dX3_firstWrong_4 : decode cX3_firstWrong 4 = .ok (.getfield 25, 3) := by decide +kernel
theorem dX3_firstWrong_7 : decode cX3_firstWrong 7 = .ok (.if_icmp .ge 32, 3) := by decide +kernel
theorem dX3_firstWrong_10 : decode cX3_firstWrong 10 = .ok (.iload_n 1, 1) := by decide +kernel
theorem dX3_firstWrong_11 : decode cX3_firstWrong 11 = .ok (.aload_n 0, 1) := by decide +kernel
theorem dX3_firstWrong_12 : decode cX3_firstWrong 12 = .ok (.getfield 18, 3) := by decide +kernel
theorem dX3_firstWrong_15 : decode cX3_firstWrong 15 = .ok (.iload_n 2, 1) := by decide +kernel
theorem dX3_firstWrong_16 : decode cX3_firstWrong 16 = .ok (.iaload, 1) := by decide +kernel
theorem dX3_firstWrong_17 : decode cX3_firstWrong 17 = .ok (.invokestatic 40, 3) := by decide +kernel
theorem dX3_firstWrong_20 : decode cX3_firstWrong 20 = .ok (.aload_n 0, 1) := by decide +kernel
theorem dX3_firstWrong_21 : decode cX3_firstWrong 21 = .ok (.getfield 31, 3) := by decide +kernel
theorem dX3_firstWrong_24 : decode cX3_firstWrong 24 = .ok (.iload_n 2, 1) := by decide +kernel
theorem dX3_firstWrong_25 : decode cX3_firstWrong 25 = .ok (.invokestatic 40, 3) := by decide +kernel
theorem dX3_firstWrong_28 : decode cX3_firstWrong 28 = .ok (.if_icmp .eq 5, 3) := by decide +kernel
theorem dX3_firstWrong_31 : decode cX3_firstWrong 31 = .ok (.iload_n 2, 1) := by decide +kernel
theorem dX3_firstWrong_32 : decode cX3_firstWrong 32 = .ok (.ireturn, 1) := by decide +kernel
theorem dX3_firstWrong_33 : decode cX3_firstWrong 33 = .ok (.iinc 2 1, 3) := by decide +kernel
theorem dX3_firstWrong_36 : decode cX3_firstWrong 36 = .ok (.goto (-34), 3) := by decide +kernel
theorem dX3_firstWrong_39 : decode cX3_firstWrong 39 = .ok (.iconst (-1), 1) := by decide +kernel
theorem dX3_firstWrong_40 : decode cX3_firstWrong 40 = .ok (.ireturn, 1) := by decide +kernel
theorem dX4_init_0 : decode cX4_init 0 = .ok (.aload_n 0, 1) := by decide +kernel
theorem dX4_init_1 : decode cX4_init 1 = .ok (.invokespecial 3, 3) := by decide +kernel
theorem dX4_init_4 : decode cX4_init 4 = .ok (.aload_n 0, 1) := by decide +kernel
theorem dX4_init_5 : decode cX4_init 5 = .ok (.sipush 240, 3) := by decide +kernel
theorem dX4_init_8 : decode cX4_init 8 = .ok (.newarray .int, 2) := by decide +kernel
theorem dX4_init_10 : decode cX4_init 10 = .ok (.putfield 9, 3) := by decide +kernel
theorem dX4_init_13 : decode cX4_init 13 = .ok (.aload_n 0, 1) := by decide +kernel
theorem dX4_init_14 : decode cX4_init 14 = .ok (.iconst 0, 1) := by decide +kernel
theorem dX4_init_15 : decode cX4_init 15 = .ok (.putfield 15, 3) := by decide +kernel
theorem dX4_init_18 : decode cX4_init 18 = .ok (.aload_n 0, 1) := by decide +kernel
theorem dX4_init_19 : decode cX4_init 19 = .ok (.iconst 0, 1) := by decide +kernel
theorem dX4_init_20 : decode cX4_init 20 = .ok (.putfield 19, 3) := by decide +kernel
theorem dX4_init_23 : decode cX4_init 23 = .ok (.aload_n 0, 1) := by decide +kernel
theorem dX4_init_24 : decode cX4_init 24 = .ok (.iconst 0, 1) := by decide +kernel
theorem dX4_init_25 : decode cX4_init 25 = .ok (.putfield 22, 3) := by decide +kernel
theorem dX4_init_28 : decode cX4_init 28 = .ok (.aload_n 0, 1) := by decide +kernel
theorem dX4_init_29 : decode cX4_init 29 = .ok (.iconst (-1), 1) := by decide +kernel
theorem dX4_init_30 : decode cX4_init 30 = .ok (.putfield 25, 3) := by decide +kernel
theorem dX4_init_33 : decode cX4_init 33 = .ok (.return_, 1) := by decide +kernel
theorem dX4_add_0 : decode cX4_add 0 = .ok (.aload_n 0, 1) := by decide +kernel
theorem dX4_add_1 : decode cX4_add 1 = .ok (.getfield 15, 3) := by decide +kernel
theorem dX4_add_4 : decode cX4_add 4 = .ok (.sipush 240, 3) := by decide +kernel
theorem dX4_add_7 : decode cX4_add 7 = .ok (.if_icmp .ge 23, 3) := by decide +kernel
theorem dX4_add_10 : decode cX4_add 10 = .ok (.aload_n 0, 1) := by decide +kernel
theorem dX4_add_11 : decode cX4_add 11 = .ok (.getfield 9, 3) := by decide +kernel
theorem dX4_add_14 : decode cX4_add 14 = .ok (.aload_n 0, 1) := by decide +kernel
theorem dX4_add_15 : decode cX4_add 15 = .ok (.getfield 15, 3) := by decide +kernel
theorem dX4_add_18 : decode cX4_add 18 = .ok (.iload_n 1, 1) := by decide +kernel
theorem dX4_add_19 : decode cX4_add 19 = .ok (.iastore, 1) := by decide +kernel
theorem dX4_add_20 : decode cX4_add 20 = .ok (.aload_n 0, 1) := by decide +kernel
theorem dX4_add_21 : decode cX4_add 21 = .ok (.dup, 1) := by decide +kernel
theorem dX4_add_22 : decode cX4_add 22 = .ok (.getfield 15, 3) := by decide +kernel
theorem dX4_add_25 : decode cX4_add 25 = .ok (.iconst 1, 1) := by decide +kernel
theorem dX4_add_26 : decode cX4_add 26 = .ok (.iadd, 1) := by decide +kernel
theorem dX4_add_27 : decode cX4_add 27 = .ok (.putfield 15, 3) := by decide +kernel
theorem dX4_add_30 : decode cX4_add 30 = .ok (.aload_n 0, 1) := by decide +kernel
theorem dX4_add_31 : decode cX4_add 31 = .ok (.getfield 15, 3) := by decide +kernel
theorem dX4_add_34 : decode cX4_add 34 = .ok (.ireturn, 1) := by decide +kernel
set_option maxRecDepth 20000 in
theorem ggX4_tell_X1_clear : GoodIn wsX4_tell wsX1_clear := goodIn_r _ [9, 10, 11, 12, 74, 75, 76, 77, 78, 79, 80, 81, 82, 83, 84, 85] (by decide +kernel) (by decide +kernel)
set_option maxRecDepth 20000 in
theorem gX4_tell_X1_clear : GoodIn wsX4_tell (wsV RX4 28 RX1 yX1_clear wsX1_clear) := goodIn_app (goodIn_of _ (by decide +kernel)) ggX4_tell_X1_clear
set_option maxRecDepth 20000 in
theorem ggX4_tell_X4_skipBlanks : GoodIn wsX4_tell wsX4_skipBlanks := goodIn_r _ [17, 1, 4, 18, 69, 70, 71, 72, 73] (by decide +kernel) (by decide +kernel)
set_option maxRecDepth 20000 in
theorem gX4_tell_X4_skipBlanks : GoodIn wsX4_tell (wsV RX4 33 RX4 yX4_skipBlanks wsX4_skipBlanks) := goodIn_app (goodIn_of _ (by decide +kernel)) ggX4_tell_X4_skipBlanks
set_option maxRecDepth 20000 in
theorem ggX4_tell_X4_readClause : GoodIn wsX4_tell wsX4_readClause := goodIn_r _ [22, 1, 18, 23, 24, 25, 26, 27, 8, 28, 10, 29, 30, 31, 16, 32, 2, 33, 34, 35, 36, 37, 4, 13, 14, 15, 17, 38, 39, 40, 41, 3, 42, 43, 44, 45, 46, 47, 48, 49, 50, 51, 52, 53, 54, 55, 56, 57, 58, 59, 60, 61, 62, 63, 64, 65, 66, 67, 68, 69, 70, 71, 72, 73, 74, 75, 76, 77, 78, 79, 80, 81, 82, 83, 84, 85] (by decide +kernel) (by decide +kernel)
