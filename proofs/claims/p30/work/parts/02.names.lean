theorem dX0_init_0 : decode cX0_init 0 = .ok (.aload_n 0, 1) := by decide +kernel
theorem dX0_init_1 : decode cX0_init 1 = .ok (.invokespecial 3, 3) := by decide +kernel
theorem dX0_init_4 : decode cX0_init 4 = .ok (.aload_n 0, 1) := by decide +kernel
theorem dX0_init_5 : decode cX0_init 5 = .ok (.bipush 60, 2) := by decide +kernel
theorem dX0_init_7 : decode cX0_init 7 = .ok (.newarray .int, 2) := by decide +kernel
theorem dX0_init_9 : decode cX0_init 9 = .ok (.putfield 9, 3) := by decide +kernel
theorem dX0_init_12 : decode cX0_init 12 = .ok (.return_, 1) := by decide +kernel
set_option maxRecDepth 20000 in
theorem ggX1_init_X3_init : GoodIn wsX1_init wsX3_init := goodIn_r _ [10, 11, 2, 3, 12, 13, 14, 15, 16, 17, 18, 19, 20, 21, 22, 26, 27, 28, 29, 30, 31, 32, 33, 34, 35, 36, 37, 38, 39, 40] (by decide +kernel) (by decide +kernel)
set_option maxRecDepth 20000 in
theorem gX1_init_X3_init : GoodIn wsX1_init (wsX3_init) := ggX1_init_X3_init
theorem dX1_init_0 : decode cX1_init 0 = .ok (.aload_n 0, 1) := by decide +kernel
theorem dX1_init_1 : decode cX1_init 1 = .ok (.invokespecial 3, 3) := by decide +kernel
theorem dX1_init_4 : decode cX1_init 4 = .ok (.aload_n 0, 1) := by decide +kernel
theorem dX1_init_5 : decode cX1_init 5 = .ok (.bipush 6, 2) := by decide +kernel
theorem dX1_init_7 : decode cX1_init 7 = .ok (.anewarray 9, 3) := by decide +kernel
theorem dX1_init_10 : decode cX1_init 10 = .ok (.putfield 11, 3) := by decide +kernel
theorem dX1_init_13 : decode cX1_init 13 = .ok (.iconst 0, 1) := by decide +kernel
theorem dX1_init_14 : decode cX1_init 14 = .ok (.istore_n 1, 1) := by decide +kernel
theorem dX1_init_15 : decode cX1_init 15 = .ok (.iload_n 1, 1) := by decide +kernel
theorem dX1_init_16 : decode cX1_init 16 = .ok (.bipush 6, 2) := by decide +kernel
theorem dX1_init_18 : decode cX1_init 18 = .ok (.if_icmp .ge 22, 3) := by decide +kernel
theorem dX1_init_21 : decode cX1_init 21 = .ok (.aload_n 0, 1) := by decide +kernel
theorem dX1_init_22 : decode cX1_init 22 = .ok (.getfield 11, 3) := by decide +kernel
theorem dX1_init_25 : decode cX1_init 25 = .ok (.iload_n 1, 1) := by decide +kernel
theorem dX1_init_26 : decode cX1_init 26 = .ok (.new 9, 3) := by decide +kernel
theorem dX1_init_29 : decode cX1_init 29 = .ok (.dup, 1) := by decide +kernel
theorem dX1_init_30 : decode cX1_init 30 = .ok (.invokespecial 17, 3) := by decide +kernel
theorem dX1_init_33 : decode cX1_init 33 = .ok (.aastore, 1) := by decide +kernel
theorem dX1_init_34 : decode cX1_init 34 = .ok (.iinc 1 1, 3) := by decide +kernel
theorem dX1_init_37 : decode cX1_init 37 = .ok (.goto (-22), 3) := by decide +kernel
theorem dX1_init_40 : decode cX1_init 40 = .ok (.return_, 1) := by decide +kernel
set_option maxRecDepth 20000 in
theorem ggX1_save_X1_latestAfter : GoodIn wsX1_save wsX1_latestAfter := goodIn_r _ [7, 2, 8, 33, 34, 35] (by decide +kernel) (by decide +kernel)
set_option maxRecDepth 20000 in
theorem gX1_save_X1_latestAfter : GoodIn wsX1_save (wsV RX1 25 RX1 yX1_latestAfter wsX1_latestAfter) := goodIn_app (goodIn_of _ (by decide +kernel)) ggX1_save_X1_latestAfter
set_option maxRecDepth 20000 in
theorem ggX1_save_X3_copyFrom : GoodIn wsX1_save wsX3_copyFrom := goodIn_r _ [13, 14, 15, 16, 17, 18, 19, 20, 21, 22, 23, 24, 25, 26, 27, 28, 29, 30, 31, 32, 36, 37, 38, 39, 40, 41, 42, 43, 44, 45, 46, 47, 48, 49, 50] (by decide +kernel) (by decide +kernel)
set_option maxRecDepth 20000 in
theorem gX1_save_X3_copyFrom : GoodIn wsX1_save (wsV RX1 29 RX3 yX3_copyFrom wsX3_copyFrom) := goodIn_app (goodIn_of _ (by decide +kernel)) ggX1_save_X3_copyFrom
theorem dX1_save_0 : decode cX1_save 0 = .ok (.aload_n 0, 1) := by decide +kernel
theorem dX1_save_1 : decode cX1_save 1 = .ok (.getfield 18, 3) := by decide +kernel
theorem dX1_save_4 : decode cX1_save 4 = .ok (.bipush 6, 2) := by decide +kernel
theorem dX1_save_6 : decode cX1_save 6 = .ok (.if_icmp .ne 26, 3) := by decide +kernel
theorem dX1_save_9 : decode cX1_save 9 = .ok (.aload_n 0, 1) := by decide +kernel
theorem dX1_save_10 : decode cX1_save 10 = .ok (.aload_n 0, 1) := by decide +kernel
theorem dX1_save_11 : decode cX1_save 11 = .ok (.getfield 22, 3) := by decide +kernel
theorem dX1_save_14 : decode cX1_save 14 = .ok (.iconst 1, 1) := by decide +kernel
theorem dX1_save_15 : decode cX1_save 15 = .ok (.iadd, 1) := by decide +kernel
theorem dX1_save_16 : decode cX1_save 16 = .ok (.bipush 6, 2) := by decide +kernel
theorem dX1_save_18 : decode cX1_save 18 = .ok (.irem, 1) := by decide +kernel
theorem dX1_save_19 : decode cX1_save 19 = .ok (.putfield 22, 3) := by decide +kernel
theorem dX1_save_22 : decode cX1_save 22 = .ok (.aload_n 0, 1) := by decide +kernel
theorem dX1_save_23 : decode cX1_save 23 = .ok (.dup, 1) := by decide +kernel
theorem dX1_save_24 : decode cX1_save 24 = .ok (.getfield 18, 3) := by decide +kernel
theorem dX1_save_27 : decode cX1_save 27 = .ok (.iconst 1, 1) := by decide +kernel
theorem dX1_save_28 : decode cX1_save 28 = .ok (.isub, 1) := by decide +kernel
theorem dX1_save_29 : decode cX1_save 29 = .ok (.putfield 18, 3) := by decide +kernel
theorem dX1_save_32 : decode cX1_save 32 = .ok (.aload_n 0, 1) := by decide +kernel
theorem dX1_save_33 : decode cX1_save 33 = .ok (.aload_n 0, 1) := by decide +kernel
theorem dX1_save_34 : decode cX1_save 34 = .ok (.getfield 18, 3) := by decide +kernel
theorem dX1_save_37 : decode cX1_save 37 = .ok (.invokevirtual 25, 3) := by decide +kernel
theorem dX1_save_40 : decode cX1_save 40 = .ok (.astore_n 2, 1) := by decide +kernel
theorem dX1_save_41 : decode cX1_save 41 = .ok (.aload_n 2, 1) := by decide +kernel
theorem dX1_save_42 : decode cX1_save 42 = .ok (.ifnull 18, 3) := by decide +kernel
theorem dX1_save_45 : decode cX1_save 45 = .ok (.aload_n 2, 1) := by decide +kernel
theorem dX1_save_46 : decode cX1_save 46 = .ok (.aload_n 1, 1) := by decide +kernel
theorem dX1_save_47 : decode cX1_save 47 = .ok (.invokevirtual 29, 3) := by decide +kernel
theorem dX1_save_50 : decode cX1_save 50 = .ok (.aload_n 0, 1) := by decide +kernel
theorem dX1_save_51 : decode cX1_save 51 = .ok (.dup, 1) := by decide +kernel
theorem dX1_save_52 : decode cX1_save 52 = .ok (.getfield 18, 3) := by decide +kernel
theorem dX1_save_55 : decode cX1_save 55 = .ok (.iconst 1, 1) := by decide +kernel
theorem dX1_save_56 : decode cX1_save 56 = .ok (.iadd, 1) := by decide +kernel
theorem dX1_save_57 : decode cX1_save 57 = .ok (.putfield 18, 3) := by decide +kernel
theorem dX1_save_60 : decode cX1_save 60 = .ok (.return_, 1) := by decide +kernel
theorem dX1_latestAfter_0 : decode cX1_latestAfter 0 = .ok (.aload_n 0, 1) := by decide +kernel
theorem dX1_latestAfter_1 : decode cX1_latestAfter 1 = .ok (.getfield 22, 3) := by decide +kernel
theorem dX1_latestAfter_4 : decode cX1_latestAfter 4 = .ok (.iload_n 1, 1) := by decide +kernel
theorem dX1_latestAfter_5 : decode cX1_latestAfter 5 = .ok (.iadd, 1) := by decide +kernel
theorem dX1_latestAfter_6 : decode cX1_latestAfter 6 = .ok (.bipush 6, 2) := by decide +kernel
theorem dX1_latestAfter_8 : decode cX1_latestAfter 8 = .ok (.irem, 1) := by decide +kernel
theorem dX1_latestAfter_9 : decode cX1_latestAfter 9 = .ok (.istore_n 2, 1) := by decide +kernel
theorem dX1_latestAfter_10 : decode cX1_latestAfter 10 = .ok (.iload_n 2, 1) := by decide +kernel
theorem dX1_latestAfter_11 : decode cX1_latestAfter 11 = .ok (.ifCond .lt 21, 3) := by decide +kernel
theorem dX1_latestAfter_14 : decode cX1_latestAfter 14 = .ok (.iload_n 2, 1) := by decide +kernel
theorem dX1_latestAfter_15 : decode cX1_latestAfter 15 = .ok (.aload_n 0, 1) := by decide +kernel
theorem dX1_latestAfter_16 : decode cX1_latestAfter 16 = .ok (.getfield 11, 3) := by decide +kernel
theorem dX1_latestAfter_19 : decode cX1_latestAfter 19 = .ok (.arraylength, 1) := by decide +kernel
theorem dX1_latestAfter_20 : decode cX1_latestAfter 20 = .ok (.if_icmp .ge 12, 3) := by decide +kernel
theorem dX1_latestAfter_23 : decode cX1_latestAfter 23 = .ok (.aload_n 0, 1) := by decide +kernel
theorem dX1_latestAfter_24 : decode cX1_latestAfter 24 = .ok (.getfield 11, 3) := by decide +kernel
theorem dX1_latestAfter_27 : decode cX1_latestAfter 27 = .ok (.iload_n 2, 1) := by decide +kernel
theorem dX1_latestAfter_28 : decode cX1_latestAfter 28 = .ok (.aaload, 1) := by decide +kernel
theorem dX1_latestAfter_29 : decode cX1_latestAfter 29 = .ok (.goto 4, 3) := by decide +kernel
theorem dX1_latestAfter_32 : decode cX1_latestAfter 32 = .ok (.aconst_null, 1) := by decide +kernel
theorem dX1_latestAfter_33 : decode cX1_latestAfter 33 = .ok (.areturn, 1) := by decide +kernel
theorem dX2_init_0 : decode cX2_init 0 = .ok (.aload_n 0, 1) := by decide +kernel
theorem dX2_init_1 : decode cX2_init 1 = .ok (.invokespecial 3, 3) := by decide +kernel
theorem dX2_init_4 : decode cX2_init 4 = .ok (.aload_n 0, 1) := by decide +kernel
theorem dX2_init_5 : decode cX2_init 5 = .ok (.bipush 100, 2) := by decide +kernel
theorem dX2_init_7 : decode cX2_init 7 = .ok (.newarray .int, 2) := by decide +kernel
theorem dX2_init_9 : decode cX2_init 9 = .ok (.putfield 9, 3) := by decide +kernel
theorem dX2_init_12 : decode cX2_init 12 = .ok (.aload_n 0, 1) := by decide +kernel
theorem dX2_init_13 : decode cX2_init 13 = .ok (.bipush 100, 2) := by decide +kernel
theorem dX2_init_15 : decode cX2_init 15 = .ok (.newarray .int, 2) := by decide +kernel
theorem dX2_init_17 : decode cX2_init 17 = .ok (.putfield 15, 3) := by decide +kernel
theorem dX2_init_20 : decode cX2_init 20 = .ok (.aload_n 0, 1) := by decide +kernel
theorem dX2_init_21 : decode cX2_init 21 = .ok (.bipush 100, 2) := by decide +kernel
theorem dX2_init_23 : decode cX2_init 23 = .ok (.newarray .int, 2) := by decide +kernel
theorem dX2_init_25 : decode cX2_init 25 = .ok (.putfield 18, 3) := by decide +kernel
theorem dX2_init_28 : decode cX2_init 28 = .ok (.return_, 1) := by decide +kernel
set_option maxRecDepth 20000 in
theorem ggX2_eatersAt_X3_isOpenBread : GoodIn wsX2_eatersAt wsX3_isOpenBread := goodIn_r _ [9, 10, 11, 12, 13, 8, 14, 15, 77, 78, 79, 80, 81, 82, 83, 84, 85, 86, 87, 88, 89, 90, 91] (by decide +kernel) (by decide +kernel)
set_option maxRecDepth 20000 in
theorem gX2_eatersAt_X3_isOpenBread : GoodIn wsX2_eatersAt (wsV RX2 21 RX3 yX3_isOpenBread wsX3_isOpenBread) := goodIn_app (goodIn_of _ (by decide +kernel)) ggX2_eatersAt_X3_isOpenBread
set_option maxRecDepth 20000 in
theorem ggX2_eatersAt_X2_lookAt : GoodIn wsX2_eatersAt wsX2_lookAt := goodIn_r _ [20, 21, 22, 23, 19, 24, 25, 1, 26, 27, 28, 29, 30, 8, 31, 32, 33, 34, 35, 36, 37, 38, 4, 39, 40, 41, 42, 43, 44, 45, 2, 3, 46, 47, 48, 49, 50, 51, 52, 53, 54, 55, 56, 57, 58, 59, 60, 61, 62, 63, 64, 65, 66, 67, 68, 69, 70, 71, 77, 78, 79, 80, 81, 82, 83, 84, 85, 86, 87, 88, 89, 90, 91, 72, 73, 74, 75, 76] (by decide +kernel) (by decide +kernel)
set_option maxRecDepth 20000 in
theorem gX2_eatersAt_X2_lookAt : GoodIn wsX2_eatersAt (wsV RX2 27 RX2 yX2_lookAt wsX2_lookAt) := goodIn_app (goodIn_of _ (by decide +kernel)) ggX2_eatersAt_X2_lookAt
theorem dX2_eatersAt_0 : decode cX2_eatersAt 0 = .ok (.aload_n 1, 1) := by decide +kernel
theorem dX2_eatersAt_1 : decode cX2_eatersAt 1 = .ok (.iload_n 2, 1) := by decide +kernel
theorem dX2_eatersAt_2 : decode cX2_eatersAt 2 = .ok (.invokevirtual 21, 3) := by decide +kernel
theorem dX2_eatersAt_5 : decode cX2_eatersAt 5 = .ok (.ifCond .ne 5, 3) := by decide +kernel
theorem dX2_eatersAt_8 : decode cX2_eatersAt 8 = .ok (.iconst (-1), 1) := by decide +kernel
theorem dX2_eatersAt_9 : decode cX2_eatersAt 9 = .ok (.ireturn, 1) := by decide +kernel
theorem dX2_eatersAt_10 : decode cX2_eatersAt 10 = .ok (.aload_n 0, 1) := by decide +kernel
theorem dX2_eatersAt_11 : decode cX2_eatersAt 11 = .ok (.aload_n 1, 1) := by decide +kernel
theorem dX2_eatersAt_12 : decode cX2_eatersAt 12 = .ok (.iload_n 2, 1) := by decide +kernel
theorem dX2_eatersAt_13 : decode cX2_eatersAt 13 = .ok (.invokevirtual 27, 3) := by decide +kernel
theorem dX2_eatersAt_16 : decode cX2_eatersAt 16 = .ok (.iload_n 3, 1) := by decide +kernel
theorem dX2_eatersAt_17 : decode cX2_eatersAt 17 = .ok (.aload_n 0, 1) := by decide +kernel
theorem dX2_eatersAt_18 : decode cX2_eatersAt 18 = .ok (.getfield 31, 3) := by decide +kernel
theorem dX2_eatersAt_21 : decode cX2_eatersAt 21 = .ok (.if_icmp .le 5, 3) := by decide +kernel
theorem dX2_eatersAt_24 : decode cX2_eatersAt 24 = .ok (.iconst (-1), 1) := by decide +kernel
theorem dX2_eatersAt_25 : decode cX2_eatersAt 25 = .ok (.ireturn, 1) := by decide +kernel
theorem dX2_eatersAt_26 : decode cX2_eatersAt 26 = .ok (.aload_n 0, 1) := by decide +kernel
theorem dX2_eatersAt_27 : decode cX2_eatersAt 27 = .ok (.getfield 35, 3) := by decide +kernel
theorem dX2_eatersAt_30 : decode cX2_eatersAt 30 = .ok (.istore 4, 2) := by decide +kernel
theorem dX2_eatersAt_32 : decode cX2_eatersAt 32 = .ok (.iconst 0, 1) := by decide +kernel
theorem dX2_eatersAt_33 : decode cX2_eatersAt 33 = .ok (.istore 5, 2) := by decide +kernel
theorem dX2_eatersAt_35 : decode cX2_eatersAt 35 = .ok (.iload 5, 2) := by decide +kernel
theorem dX2_eatersAt_37 : decode cX2_eatersAt 37 = .ok (.iload_n 3, 1) := by decide +kernel
theorem dX2_eatersAt_38 : decode cX2_eatersAt 38 = .ok (.if_icmp .ge 33, 3) := by decide +kernel
theorem dX2_eatersAt_41 : decode cX2_eatersAt 41 = .ok (.iload 5, 2) := by decide +kernel
theorem dX2_eatersAt_43 : decode cX2_eatersAt 43 = .ok (.bipush 100, 2) := by decide +kernel
theorem dX2_eatersAt_45 : decode cX2_eatersAt 45 = .ok (.if_icmp .ge 26, 3) := by decide +kernel
theorem dX2_eatersAt_48 : decode cX2_eatersAt 48 = .ok (.iload 4, 2) := by decide +kernel
theorem dX2_eatersAt_50 : decode cX2_eatersAt 50 = .ok (.aload_n 0, 1) := by decide +kernel
theorem dX2_eatersAt_51 : decode cX2_eatersAt 51 = .ok (.getfield 15, 3) := by decide +kernel
theorem dX2_eatersAt_54 : decode cX2_eatersAt 54 = .ok (.aload_n 0, 1) := by decide +kernel
theorem dX2_eatersAt_55 : decode cX2_eatersAt 55 = .ok (.getfield 9, 3) := by decide +kernel
theorem dX2_eatersAt_58 : decode cX2_eatersAt 58 = .ok (.iload 5, 2) := by decide +kernel
theorem dX2_eatersAt_60 : decode cX2_eatersAt 60 = .ok (.iaload, 1) := by decide +kernel
theorem dX2_eatersAt_61 : decode cX2_eatersAt 61 = .ok (.iaload, 1) := by decide +kernel
theorem dX2_eatersAt_62 : decode cX2_eatersAt 62 = .ok (.iadd, 1) := by decide +kernel
theorem dX2_eatersAt_63 : decode cX2_eatersAt 63 = .ok (.istore 4, 2) := by decide +kernel
theorem dX2_eatersAt_65 : decode cX2_eatersAt 65 = .ok (.iinc 5 1, 3) := by decide +kernel
theorem dX2_eatersAt_68 : decode cX2_eatersAt 68 = .ok (.goto (-33), 3) := by decide +kernel
theorem dX2_eatersAt_71 : decode cX2_eatersAt 71 = .ok (.iload 4, 2) := by decide +kernel
theorem dX2_eatersAt_73 : decode cX2_eatersAt 73 = .ok (.ireturn, 1) := by decide +kernel
set_option maxRecDepth 20000 in
theorem ggX2_lookAt_X2_lookAtBuckets : GoodIn wsX2_lookAt wsX2_lookAtBuckets := goodIn_r _ [5, 6, 7, 8, 9, 10, 11, 12, 13, 14, 15, 16, 17, 18, 19, 20, 4, 21, 22, 23, 24, 25, 58, 59, 60, 61, 62, 63, 64, 65, 66, 67, 68, 69, 70, 71, 72, 73, 74, 75, 76, 77] (by decide +kernel) (by decide +kernel)
set_option maxRecDepth 20000 in
theorem gX2_lookAt_X2_lookAtBuckets : GoodIn wsX2_lookAt (wsV RX2 41 RX2 yX2_lookAtBuckets wsX2_lookAtBuckets) := goodIn_app (goodIn_of _ (by decide +kernel)) ggX2_lookAt_X2_lookAtBuckets
set_option maxRecDepth 20000 in
theorem ggX2_lookAt_X2_lookAtPersons : GoodIn wsX2_lookAt wsX2_lookAtPersons := goodIn_r _ [29, 30, 31, 32, 33, 34, 35, 13, 36, 15, 37, 38, 23, 24, 25, 39, 40, 41, 42, 43, 44, 45, 46, 47, 48, 49, 50, 51, 52, 53, 54, 55, 56, 57, 73, 74, 75, 76, 77, 58, 59, 60, 61, 62, 63, 64, 65, 66, 67, 68, 69, 70, 71, 72] (by decide +kernel) (by decide +kernel)
set_option maxRecDepth 20000 in
theorem gX2_lookAt_X2_lookAtPersons : GoodIn wsX2_lookAt (wsV RX2 44 RX2 yX2_lookAtPersons wsX2_lookAtPersons) := goodIn_app (goodIn_of _ (by decide +kernel)) ggX2_lookAt_X2_lookAtPersons
theorem dX2_lookAt_0 : decode cX2_lookAt 0 = .ok (.aload_n 0, 1) := by decide +kernel
theorem dX2_lookAt_1 : decode cX2_lookAt 1 = .ok (.aload_n 1, 1) := by decide +kernel
theorem dX2_lookAt_2 : decode cX2_lookAt 2 = .ok (.iload_n 2, 1) := by decide +kernel
theorem dX2_lookAt_3 : decode cX2_lookAt 3 = .ok (.invokevirtual 41, 3) := by decide +kernel
theorem dX2_lookAt_6 : decode cX2_lookAt 6 = .ok (.aload_n 0, 1) := by decide +kernel
theorem dX2_lookAt_7 : decode cX2_lookAt 7 = .ok (.aload_n 1, 1) := by decide +kernel
theorem dX2_lookAt_8 : decode cX2_lookAt 8 = .ok (.iload_n 2, 1) := by decide +kernel
theorem dX2_lookAt_9 : decode cX2_lookAt 9 = .ok (.invokevirtual 44, 3) := by decide +kernel
theorem dX2_lookAt_12 : decode cX2_lookAt 12 = .ok (.return_, 1) := by decide +kernel
set_option maxRecDepth 20000 in
theorem ggX2_lookAtBuckets_X3_owns : GoodIn wsX2_lookAtBuckets wsX3_owns := goodIn_r _ [9, 10, 11, 12, 22, 23, 24, 25, 26, 27, 28, 29, 30, 31, 32, 33, 34, 35, 36] (by decide +kernel) (by decide +kernel)
set_option maxRecDepth 20000 in
theorem gX2_lookAtBuckets_X3_owns : GoodIn wsX2_lookAtBuckets (wsV RX2 50 RX3 yX3_owns wsX3_owns) := goodIn_app (goodIn_of _ (by decide +kernel)) ggX2_lookAtBuckets_X3_owns
set_option maxRecDepth 20000 in
theorem ggX2_lookAtBuckets_X2_addToRow : GoodIn wsX2_lookAtBuckets wsX2_addToRow := goodIn_r _ [17, 2, 18, 37, 38, 39, 40, 41] (by decide +kernel) (by decide +kernel)
set_option maxRecDepth 20000 in
theorem gX2_lookAtBuckets_X2_addToRow : GoodIn wsX2_lookAtBuckets (wsV RX2 54 RX2 yX2_addToRow wsX2_addToRow) := goodIn_app (goodIn_of _ (by decide +kernel)) ggX2_lookAtBuckets_X2_addToRow
set_option maxRecDepth 20000 in
theorem ggX2_lookAtBuckets_X4_isGroup : GoodIn wsX2_lookAtBuckets wsX4_isGroup := goodIn_r _ [21] (by decide +kernel) (by decide +kernel)
set_option maxRecDepth 20000 in
theorem gX2_lookAtBuckets_X4_isGroup_n58 : GoodIn wsX2_lookAtBuckets (wsX4_isGroup) := ggX2_lookAtBuckets_X4_isGroup
theorem dX2_lookAtBuckets_0 : decode cX2_lookAtBuckets 0 = .ok (.aload_n 1, 1) := by decide +kernel
theorem dX2_lookAtBuckets_1 : decode cX2_lookAtBuckets 1 = .ok (.getfield 47, 3) := by decide +kernel
theorem dX2_lookAtBuckets_4 : decode cX2_lookAtBuckets 4 = .ok (.iload_n 2, 1) := by decide +kernel
theorem dX2_lookAtBuckets_5 : decode cX2_lookAtBuckets 5 = .ok (.iaload, 1) := by decide +kernel
theorem dX2_lookAtBuckets_6 : decode cX2_lookAtBuckets 6 = .ok (.istore_n 3, 1) := by decide +kernel
theorem dX2_lookAtBuckets_7 : decode cX2_lookAtBuckets 7 = .ok (.aload_n 0, 1) := by decide +kernel
theorem dX2_lookAtBuckets_8 : decode cX2_lookAtBuckets 8 = .ok (.iconst 0, 1) := by decide +kernel
theorem dX2_lookAtBuckets_9 : decode cX2_lookAtBuckets 9 = .ok (.putfield 31, 3) := by decide +kernel
theorem dX2_lookAtBuckets_12 : decode cX2_lookAtBuckets 12 = .ok (.iconst 0, 1) := by decide +kernel
theorem dX2_lookAtBuckets_13 : decode cX2_lookAtBuckets 13 = .ok (.istore 4, 2) := by decide +kernel
theorem dX2_lookAtBuckets_15 : decode cX2_lookAtBuckets 15 = .ok (.iload 4, 2) := by decide +kernel
theorem dX2_lookAtBuckets_17 : decode cX2_lookAtBuckets 17 = .ok (.bipush 100, 2) := by decide +kernel
theorem dX2_lookAtBuckets_19 : decode cX2_lookAtBuckets 19 = .ok (.if_icmp .ge 25, 3) := by decide +kernel
theorem dX2_lookAtBuckets_22 : decode cX2_lookAtBuckets 22 = .ok (.aload_n 1, 1) := by decide +kernel
theorem dX2_lookAtBuckets_23 : decode cX2_lookAtBuckets 23 = .ok (.iload_n 2, 1) := by decide +kernel
theorem dX2_lookAtBuckets_24 : decode cX2_lookAtBuckets 24 = .ok (.iload 4, 2) := by decide +kernel
theorem dX2_lookAtBuckets_26 : decode cX2_lookAtBuckets 26 = .ok (.invokevirtual 50, 3) := by decide +kernel
theorem dX2_lookAtBuckets_29 : decode cX2_lookAtBuckets 29 = .ok (.ifCond .eq 9, 3) := by decide +kernel
theorem dX2_lookAtBuckets_32 : decode cX2_lookAtBuckets 32 = .ok (.aload_n 0, 1) := by decide +kernel
theorem dX2_lookAtBuckets_33 : decode cX2_lookAtBuckets 33 = .ok (.iload 4, 2) := by decide +kernel
theorem dX2_lookAtBuckets_35 : decode cX2_lookAtBuckets 35 = .ok (.invokevirtual 54, 3) := by decide +kernel
theorem dX2_lookAtBuckets_38 : decode cX2_lookAtBuckets 38 = .ok (.iinc 4 1, 3) := by decide +kernel
theorem dX2_lookAtBuckets_41 : decode cX2_lookAtBuckets 41 = .ok (.goto (-26), 3) := by decide +kernel
theorem dX2_lookAtBuckets_44 : decode cX2_lookAtBuckets 44 = .ok (.iconst 0, 1) := by decide +kernel
theorem dX2_lookAtBuckets_45 : decode cX2_lookAtBuckets 45 = .ok (.istore 4, 2) := by decide +kernel
theorem dX2_lookAtBuckets_47 : decode cX2_lookAtBuckets 47 = .ok (.iload 4, 2) := by decide +kernel
theorem dX2_lookAtBuckets_49 : decode cX2_lookAtBuckets 49 = .ok (.bipush 100, 2) := by decide +kernel
theorem dX2_lookAtBuckets_51 : decode cX2_lookAtBuckets 51 = .ok (.if_icmp .ge 69, 3) := by decide +kernel
theorem dX2_lookAtBuckets_54 : decode cX2_lookAtBuckets 54 = .ok (.iload_n 3, 1) := by decide +kernel
theorem dX2_lookAtBuckets_55 : decode cX2_lookAtBuckets 55 = .ok (.invokestatic 58, 3) := by decide +kernel
theorem dX2_lookAtBuckets_58 : decode cX2_lookAtBuckets 58 = .ok (.ifCond .eq 27, 3) := by decide +kernel
theorem dX2_lookAtBuckets_61 : decode cX2_lookAtBuckets 61 = .ok (.aload_n 1, 1) := by decide +kernel
theorem dX2_lookAtBuckets_62 : decode cX2_lookAtBuckets 62 = .ok (.getfield 61, 3) := by decide +kernel
theorem dX2_lookAtBuckets_65 : decode cX2_lookAtBuckets 65 = .ok (.iload_n 3, 1) := by decide +kernel
theorem dX2_lookAtBuckets_66 : decode cX2_lookAtBuckets 66 = .ok (.bipush 100, 2) := by decide +kernel
theorem dX2_lookAtBuckets_68 : decode cX2_lookAtBuckets 68 = .ok (.imul, 1) := by decide +kernel
theorem dX2_lookAtBuckets_69 : decode cX2_lookAtBuckets 69 = .ok (.iload 4, 2) := by decide +kernel
theorem dX2_lookAtBuckets_71 : decode cX2_lookAtBuckets 71 = .ok (.iadd, 1) := by decide +kernel
theorem dX2_lookAtBuckets_72 : decode cX2_lookAtBuckets 72 = .ok (.iaload, 1) := by decide +kernel
theorem dX2_lookAtBuckets_73 : decode cX2_lookAtBuckets 73 = .ok (.iconst (-1), 1) := by decide +kernel
theorem dX2_lookAtBuckets_74 : decode cX2_lookAtBuckets 74 = .ok (.if_icmp .ne 7, 3) := by decide +kernel
theorem dX2_lookAtBuckets_77 : decode cX2_lookAtBuckets 77 = .ok (.iconst 1, 1) := by decide +kernel
theorem dX2_lookAtBuckets_78 : decode cX2_lookAtBuckets 78 = .ok (.goto 23, 3) := by decide +kernel
theorem dX2_lookAtBuckets_81 : decode cX2_lookAtBuckets 81 = .ok (.iconst 0, 1) := by decide +kernel
theorem dX2_lookAtBuckets_82 : decode cX2_lookAtBuckets 82 = .ok (.goto 19, 3) := by decide +kernel
theorem dX2_lookAtBuckets_85 : decode cX2_lookAtBuckets 85 = .ok (.iload 4, 2) := by decide +kernel
theorem dX2_lookAtBuckets_87 : decode cX2_lookAtBuckets 87 = .ok (.aload_n 1, 1) := by decide +kernel
theorem dX2_lookAtBuckets_88 : decode cX2_lookAtBuckets 88 = .ok (.getfield 38, 3) := by decide +kernel
theorem dX2_lookAtBuckets_91 : decode cX2_lookAtBuckets 91 = .ok (.iload_n 2, 1) := by decide +kernel
theorem dX2_lookAtBuckets_92 : decode cX2_lookAtBuckets 92 = .ok (.iaload, 1) := by decide +kernel
theorem dX2_lookAtBuckets_93 : decode cX2_lookAtBuckets 93 = .ok (.if_icmp .lt 7, 3) := by decide +kernel
theorem dX2_lookAtBuckets_96 : decode cX2_lookAtBuckets 96 = .ok (.iconst 1, 1) := by decide +kernel
theorem dX2_lookAtBuckets_97 : decode cX2_lookAtBuckets 97 = .ok (.goto 4, 3) := by decide +kernel
theorem dX2_lookAtBuckets_100 : decode cX2_lookAtBuckets 100 = .ok (.iconst 0, 1) := by decide +kernel
theorem dX2_lookAtBuckets_101 : decode cX2_lookAtBuckets 101 = .ok (.istore 5, 2) := by decide +kernel
theorem dX2_lookAtBuckets_103 : decode cX2_lookAtBuckets 103 = .ok (.iload 5, 2) := by decide +kernel
theorem dX2_lookAtBuckets_105 : decode cX2_lookAtBuckets 105 = .ok (.ifCond .eq 9, 3) := by decide +kernel
theorem dX2_lookAtBuckets_108 : decode cX2_lookAtBuckets 108 = .ok (.aload_n 0, 1) := by decide +kernel
theorem dX2_lookAtBuckets_109 : decode cX2_lookAtBuckets 109 = .ok (.iload 4, 2) := by decide +kernel
theorem dX2_lookAtBuckets_111 : decode cX2_lookAtBuckets 111 = .ok (.invokevirtual 54, 3) := by decide +kernel
theorem dX2_lookAtBuckets_114 : decode cX2_lookAtBuckets 114 = .ok (.iinc 4 1, 3) := by decide +kernel
theorem dX2_lookAtBuckets_117 : decode cX2_lookAtBuckets 117 = .ok (.goto (-70), 3) := by decide +kernel
theorem dX2_lookAtBuckets_120 : decode cX2_lookAtBuckets 120 = .ok (.return_, 1) := by decide +kernel
theorem dX2_addToRow_0 : decode cX2_addToRow 0 = .ok (.aload_n 0, 1) := by decide +kernel
theorem dX2_addToRow_1 : decode cX2_addToRow 1 = .ok (.getfield 31, 3) := by decide +kernel
theorem dX2_addToRow_4 : decode cX2_addToRow 4 = .ok (.bipush 100, 2) := by decide +kernel
theorem dX2_addToRow_6 : decode cX2_addToRow 6 = .ok (.if_icmp .ge 23, 3) := by decide +kernel
theorem dX2_addToRow_9 : decode cX2_addToRow 9 = .ok (.aload_n 0, 1) := by decide +kernel
theorem dX2_addToRow_10 : decode cX2_addToRow 10 = .ok (.getfield 9, 3) := by decide +kernel
theorem dX2_addToRow_13 : decode cX2_addToRow 13 = .ok (.aload_n 0, 1) := by decide +kernel
theorem dX2_addToRow_14 : decode cX2_addToRow 14 = .ok (.getfield 31, 3) := by decide +kernel
theorem dX2_addToRow_17 : decode cX2_addToRow 17 = .ok (.iload_n 1, 1) := by decide +kernel
theorem dX2_addToRow_18 : decode cX2_addToRow 18 = .ok (.iastore, 1) := by decide +kernel
theorem dX2_addToRow_19 : decode cX2_addToRow 19 = .ok (.aload_n 0, 1) := by decide +kernel
theorem dX2_addToRow_20 : decode cX2_addToRow 20 = .ok (.dup, 1) := by decide +kernel
theorem dX2_addToRow_21 : decode cX2_addToRow 21 = .ok (.getfield 31, 3) := by decide +kernel
theorem dX2_addToRow_24 : decode cX2_addToRow 24 = .ok (.iconst 1, 1) := by decide +kernel
theorem dX2_addToRow_25 : decode cX2_addToRow 25 = .ok (.iadd, 1) := by decide +kernel
theorem dX2_addToRow_26 : decode cX2_addToRow 26 = .ok (.putfield 31, 3) := by decide +kernel
theorem dX2_addToRow_29 : decode cX2_addToRow 29 = .ok (.return_, 1) := by decide +kernel
set_option maxRecDepth 20000 in
theorem ggX2_lookAtPersons_X3_saltOf : GoodIn wsX2_lookAtPersons wsX3_saltOf := goodIn_r _ [8, 9, 10, 11, 12, 13, 14, 39, 40, 41, 42, 43, 44, 45, 46, 47, 48, 49, 50, 51, 52, 53] (by decide +kernel) (by decide +kernel)
set_option maxRecDepth 20000 in
theorem gX2_lookAtPersons_X3_saltOf : GoodIn wsX2_lookAtPersons (wsV RX2 64 RX3 yX3_saltOf wsX3_saltOf) := goodIn_app (goodIn_of _ (by decide +kernel)) ggX2_lookAtPersons_X3_saltOf
set_option maxRecDepth 20000 in
theorem ggX2_lookAtPersons_X3_isSure : GoodIn wsX2_lookAtPersons wsX3_isSure := goodIn_r _ [18, 19, 20, 21, 22, 39, 40, 41, 42, 43, 44, 45, 46, 47, 48, 49, 50, 51, 52, 53] (by decide +kernel) (by decide +kernel)
set_option maxRecDepth 20000 in
theorem gX2_lookAtPersons_X3_isSure : GoodIn wsX2_lookAtPersons (wsV RX2 68 RX3 yX3_isSure wsX3_isSure) := goodIn_app (goodIn_of _ (by decide +kernel)) ggX2_lookAtPersons_X3_isSure
set_option maxRecDepth 20000 in
theorem ggX2_lookAtPersons_X3_isHeldOut : GoodIn wsX2_lookAtPersons wsX3_isHeldOut := goodIn_r _ [26, 19, 39, 40, 41, 42, 43, 44, 45, 46, 47, 48, 49, 50, 51, 52, 53] (by decide +kernel) (by decide +kernel)
set_option maxRecDepth 20000 in
theorem gX2_lookAtPersons_X3_isHeldOut : GoodIn wsX2_lookAtPersons (wsV RX2 71 RX3 yX3_isHeldOut wsX3_isHeldOut) := goodIn_app (goodIn_of _ (by decide +kernel)) ggX2_lookAtPersons_X3_isHeldOut
set_option maxRecDepth 20000 in
theorem ggX2_lookAtPersons_X4_bucketBy : GoodIn wsX2_lookAtPersons wsX4_bucketBy := goodIn_r _ [28, 29, 30, 31, 32, 33] (by decide +kernel) (by decide +kernel)
set_option maxRecDepth 20000 in
theorem gX2_lookAtPersons_X4_bucketBy_n74 : GoodIn wsX2_lookAtPersons (wsX4_bucketBy) := ggX2_lookAtPersons_X4_bucketBy
theorem dX2_lookAtPersons_0 : decode cX2_lookAtPersons 0 = .ok (.aload_n 1, 1) := by decide +kernel
theorem dX2_lookAtPersons_1 : decode cX2_lookAtPersons 1 = .ok (.iload_n 2, 1) := by decide +kernel
theorem dX2_lookAtPersons_2 : decode cX2_lookAtPersons 2 = .ok (.invokevirtual 64, 3) := by decide +kernel
theorem dX2_lookAtPersons_5 : decode cX2_lookAtPersons 5 = .ok (.istore_n 3, 1) := by decide +kernel
theorem dX2_lookAtPersons_6 : decode cX2_lookAtPersons 6 = .ok (.aload_n 0, 1) := by decide +kernel
theorem dX2_lookAtPersons_7 : decode cX2_lookAtPersons 7 = .ok (.iconst 0, 1) := by decide +kernel
theorem dX2_lookAtPersons_8 : decode cX2_lookAtPersons 8 = .ok (.putfield 35, 3) := by decide +kernel
theorem dX2_lookAtPersons_11 : decode cX2_lookAtPersons 11 = .ok (.iconst 0, 1) := by decide +kernel
theorem dX2_lookAtPersons_12 : decode cX2_lookAtPersons 12 = .ok (.istore 4, 2) := by decide +kernel
theorem dX2_lookAtPersons_14 : decode cX2_lookAtPersons 14 = .ok (.iload 4, 2) := by decide +kernel
theorem dX2_lookAtPersons_16 : decode cX2_lookAtPersons 16 = .ok (.bipush 100, 2) := by decide +kernel
theorem dX2_lookAtPersons_18 : decode cX2_lookAtPersons 18 = .ok (.if_icmp .ge 17, 3) := by decide +kernel
theorem dX2_lookAtPersons_21 : decode cX2_lookAtPersons 21 = .ok (.aload_n 0, 1) := by decide +kernel
theorem dX2_lookAtPersons_22 : decode cX2_lookAtPersons 22 = .ok (.getfield 15, 3) := by decide +kernel
theorem dX2_lookAtPersons_25 : decode cX2_lookAtPersons 25 = .ok (.iload 4, 2) := by decide +kernel
theorem dX2_lookAtPersons_27 : decode cX2_lookAtPersons 27 = .ok (.iconst 0, 1) := by decide +kernel
theorem dX2_lookAtPersons_28 : decode cX2_lookAtPersons 28 = .ok (.iastore, 1) := by decide +kernel
theorem dX2_lookAtPersons_29 : decode cX2_lookAtPersons 29 = .ok (.iinc 4 1, 3) := by decide +kernel
theorem dX2_lookAtPersons_32 : decode cX2_lookAtPersons 32 = .ok (.goto (-18), 3) := by decide +kernel
theorem dX2_lookAtPersons_35 : decode cX2_lookAtPersons 35 = .ok (.sipush 149, 3) := by decide +kernel
theorem dX2_lookAtPersons_38 : decode cX2_lookAtPersons 38 = .ok (.istore 4, 2) := by decide +kernel
theorem dX2_lookAtPersons_40 : decode cX2_lookAtPersons 40 = .ok (.iload 4, 2) := by decide +kernel
theorem dX2_lookAtPersons_42 : decode cX2_lookAtPersons 42 = .ok (.ifCond .lt 70, 3) := by decide +kernel
theorem dX2_lookAtPersons_45 : decode cX2_lookAtPersons 45 = .ok (.aload_n 1, 1) := by decide +kernel
theorem dX2_lookAtPersons_46 : decode cX2_lookAtPersons 46 = .ok (.iload 4, 2) := by decide +kernel
theorem dX2_lookAtPersons_48 : decode cX2_lookAtPersons 48 = .ok (.iload_n 2, 1) := by decide +kernel
theorem dX2_lookAtPersons_49 : decode cX2_lookAtPersons 49 = .ok (.invokevirtual 68, 3) := by decide +kernel
theorem dX2_lookAtPersons_52 : decode cX2_lookAtPersons 52 = .ok (.ifCond .eq 16, 3) := by decide +kernel
theorem dX2_lookAtPersons_55 : decode cX2_lookAtPersons 55 = .ok (.aload_n 0, 1) := by decide +kernel
theorem dX2_lookAtPersons_56 : decode cX2_lookAtPersons 56 = .ok (.dup, 1) := by decide +kernel
theorem dX2_lookAtPersons_57 : decode cX2_lookAtPersons 57 = .ok (.getfield 35, 3) := by decide +kernel
theorem dX2_lookAtPersons_60 : decode cX2_lookAtPersons 60 = .ok (.iconst 1, 1) := by decide +kernel
theorem dX2_lookAtPersons_61 : decode cX2_lookAtPersons 61 = .ok (.iadd, 1) := by decide +kernel
theorem dX2_lookAtPersons_62 : decode cX2_lookAtPersons 62 = .ok (.putfield 35, 3) := by decide +kernel
theorem dX2_lookAtPersons_65 : decode cX2_lookAtPersons 65 = .ok (.goto 41, 3) := by decide +kernel
theorem dX2_lookAtPersons_68 : decode cX2_lookAtPersons 68 = .ok (.aload_n 1, 1) := by decide +kernel
theorem dX2_lookAtPersons_69 : decode cX2_lookAtPersons 69 = .ok (.iload 4, 2) := by decide +kernel
theorem dX2_lookAtPersons_71 : decode cX2_lookAtPersons 71 = .ok (.iload_n 2, 1) := by decide +kernel
theorem dX2_lookAtPersons_72 : decode cX2_lookAtPersons 72 = .ok (.invokevirtual 71, 3) := by decide +kernel
theorem dX2_lookAtPersons_75 : decode cX2_lookAtPersons 75 = .ok (.ifCond .ne 31, 3) := by decide +kernel
theorem dX2_lookAtPersons_78 : decode cX2_lookAtPersons 78 = .ok (.iload 4, 2) := by decide +kernel
theorem dX2_lookAtPersons_80 : decode cX2_lookAtPersons 80 = .ok (.iload_n 3, 1) := by decide +kernel
theorem dX2_lookAtPersons_81 : decode cX2_lookAtPersons 81 = .ok (.invokestatic 74, 3) := by decide +kernel
theorem dX2_lookAtPersons_84 : decode cX2_lookAtPersons 84 = .ok (.istore 5, 2) := by decide +kernel
theorem dX2_lookAtPersons_86 : decode cX2_lookAtPersons 86 = .ok (.aload_n 0, 1) := by decide +kernel
theorem dX2_lookAtPersons_87 : decode cX2_lookAtPersons 87 = .ok (.getfield 15, 3) := by decide +kernel
theorem dX2_lookAtPersons_90 : decode cX2_lookAtPersons 90 = .ok (.iload 5, 2) := by decide +kernel
theorem dX2_lookAtPersons_92 : decode cX2_lookAtPersons 92 = .ok (.dup2, 1) := by decide +kernel
theorem dX2_lookAtPersons_93 : decode cX2_lookAtPersons 93 = .ok (.iaload, 1) := by decide +kernel
theorem dX2_lookAtPersons_94 : decode cX2_lookAtPersons 94 = .ok (.iconst 1, 1) := by decide +kernel
theorem dX2_lookAtPersons_95 : decode cX2_lookAtPersons 95 = .ok (.iadd, 1) := by decide +kernel
theorem dX2_lookAtPersons_96 : decode cX2_lookAtPersons 96 = .ok (.iastore, 1) := by decide +kernel
theorem dX2_lookAtPersons_97 : decode cX2_lookAtPersons 97 = .ok (.aload_n 0, 1) := by decide +kernel
theorem dX2_lookAtPersons_98 : decode cX2_lookAtPersons 98 = .ok (.getfield 18, 3) := by decide +kernel
theorem dX2_lookAtPersons_101 : decode cX2_lookAtPersons 101 = .ok (.iload 5, 2) := by decide +kernel
theorem dX2_lookAtPersons_103 : decode cX2_lookAtPersons 103 = .ok (.iload 4, 2) := by decide +kernel
theorem dX2_lookAtPersons_105 : decode cX2_lookAtPersons 105 = .ok (.iastore, 1) := by decide +kernel
theorem dX2_lookAtPersons_106 : decode cX2_lookAtPersons 106 = .ok (.iinc 4 (-1), 3) := by decide +kernel
theorem dX2_lookAtPersons_109 : decode cX2_lookAtPersons 109 = .ok (.goto (-69), 3) := by decide +kernel
theorem dX2_lookAtPersons_112 : decode cX2_lookAtPersons 112 = .ok (.return_, 1) := by decide +kernel
theorem dX3_init_0 : decode cX3_init 0 = .ok (.aload_n 0, 1) := by decide +kernel
theorem dX3_init_1 : decode cX3_init 1 = .ok (.invokespecial 3, 3) := by decide +kernel
theorem dX3_init_4 : decode cX3_init 4 = .ok (.aload_n 0, 1) := by decide +kernel
theorem dX3_init_5 : decode cX3_init 5 = .ok (.bipush 8, 2) := by decide +kernel
theorem dX3_init_7 : decode cX3_init 7 = .ok (.newarray .int, 2) := by decide +kernel
theorem dX3_init_9 : decode cX3_init 9 = .ok (.putfield 9, 3) := by decide +kernel
theorem dX3_init_12 : decode cX3_init 12 = .ok (.aload_n 0, 1) := by decide +kernel
theorem dX3_init_13 : decode cX3_init 13 = .ok (.bipush 8, 2) := by decide +kernel
theorem dX3_init_15 : decode cX3_init 15 = .ok (.newarray .int, 2) := by decide +kernel
theorem dX3_init_17 : decode cX3_init 17 = .ok (.putfield 15, 3) := by decide +kernel
theorem dX3_init_20 : decode cX3_init 20 = .ok (.aload_n 0, 1) := by decide +kernel
theorem dX3_init_21 : decode cX3_init 21 = .ok (.bipush 8, 2) := by decide +kernel
theorem dX3_init_23 : decode cX3_init 23 = .ok (.newarray .int, 2) := by decide +kernel
theorem dX3_init_25 : decode cX3_init 25 = .ok (.putfield 18, 3) := by decide +kernel
theorem dX3_init_28 : decode cX3_init 28 = .ok (.aload_n 0, 1) := by decide +kernel
theorem dX3_init_29 : decode cX3_init 29 = .ok (.bipush 8, 2) := by decide +kernel
theorem dX3_init_31 : decode cX3_init 31 = .ok (.newarray .int, 2) := by decide +kernel
theorem dX3_init_33 : decode cX3_init 33 = .ok (.putfield 21, 3) := by decide +kernel
theorem dX3_init_36 : decode cX3_init 36 = .ok (.aload_n 0, 1) := by decide +kernel
theorem dX3_init_37 : decode cX3_init 37 = .ok (.iconst 3, 1) := by decide +kernel
theorem dX3_init_38 : decode cX3_init 38 = .ok (.newarray .int, 2) := by decide +kernel
theorem dX3_init_40 : decode cX3_init 40 = .ok (.putfield 24, 3) := by decide +kernel
theorem dX3_init_43 : decode cX3_init 43 = .ok (.aload_n 0, 1) := by decide +kernel
theorem dX3_init_44 : decode cX3_init 44 = .ok (.sipush 300, 3) := by decide +kernel
theorem dX3_init_47 : decode cX3_init 47 = .ok (.newarray .int, 2) := by decide +kernel
theorem dX3_init_49 : decode cX3_init 49 = .ok (.putfield 27, 3) := by decide +kernel
theorem dX3_init_52 : decode cX3_init 52 = .ok (.aload_n 0, 1) := by decide +kernel
theorem dX3_init_53 : decode cX3_init 53 = .ok (.sipush 150, 3) := by decide +kernel
theorem dX3_init_56 : decode cX3_init 56 = .ok (.newarray .int, 2) := by decide +kernel
theorem dX3_init_58 : decode cX3_init 58 = .ok (.putfield 30, 3) := by decide +kernel
theorem dX3_init_61 : decode cX3_init 61 = .ok (.aload_n 0, 1) := by decide +kernel
theorem dX3_init_62 : decode cX3_init 62 = .ok (.sipush 150, 3) := by decide +kernel
theorem dX3_init_65 : decode cX3_init 65 = .ok (.newarray .int, 2) := by decide +kernel
theorem dX3_init_67 : decode cX3_init 67 = .ok (.putfield 33, 3) := by decide +kernel
theorem dX3_init_70 : decode cX3_init 70 = .ok (.aload_n 0, 1) := by decide +kernel
theorem dX3_init_71 : decode cX3_init 71 = .ok (.sipush 150, 3) := by decide +kernel
theorem dX3_init_74 : decode cX3_init 74 = .ok (.newarray .int, 2) := by decide +kernel
theorem dX3_init_76 : decode cX3_init 76 = .ok (.putfield 36, 3) := by decide +kernel
theorem dX3_init_79 : decode cX3_init 79 = .ok (.aload_n 0, 1) := by decide +kernel
theorem dX3_init_80 : decode cX3_init 80 = .ok (.sipush 150, 3) := by decide +kernel
theorem dX3_init_83 : decode cX3_init 83 = .ok (.newarray .int, 2) := by decide +kernel
theorem dX3_init_85 : decode cX3_init 85 = .ok (.putfield 39, 3) := by decide +kernel
theorem dX3_init_88 : decode cX3_init 88 = .ok (.iconst 0, 1) := by decide +kernel
theorem dX3_init_89 : decode cX3_init 89 = .ok (.istore_n 1, 1) := by decide +kernel
theorem dX3_init_90 : decode cX3_init 90 = .ok (.iload_n 1, 1) := by decide +kernel
theorem dX3_init_91 : decode cX3_init 91 = .ok (.iconst 3, 1) := by decide +kernel
theorem dX3_init_92 : decode cX3_init 92 = .ok (.if_icmp .ge 21, 3) := by decide +kernel
theorem dX3_init_95 : decode cX3_init 95 = .ok (.aload_n 0, 1) := by decide +kernel
theorem dX3_init_96 : decode cX3_init 96 = .ok (.getfield 24, 3) := by decide +kernel
theorem dX3_init_99 : decode cX3_init 99 = .ok (.iload_n 1, 1) := by decide +kernel
theorem dX3_init_100 : decode cX3_init 100 = .ok (.bipush 11, 2) := by decide +kernel
theorem dX3_init_102 : decode cX3_init 102 = .ok (.iload_n 1, 1) := by decide +kernel
theorem dX3_init_103 : decode cX3_init 103 = .ok (.iconst 1, 1) := by decide +kernel
theorem dX3_init_104 : decode cX3_init 104 = .ok (.iadd, 1) := by decide +kernel
theorem dX3_init_105 : decode cX3_init 105 = .ok (.imul, 1) := by decide +kernel
theorem dX3_init_106 : decode cX3_init 106 = .ok (.iastore, 1) := by decide +kernel
theorem dX3_init_107 : decode cX3_init 107 = .ok (.iinc 1 1, 3) := by decide +kernel
theorem dX3_init_110 : decode cX3_init 110 = .ok (.goto (-20), 3) := by decide +kernel
theorem dX3_init_113 : decode cX3_init 113 = .ok (.iconst 0, 1) := by decide +kernel
theorem dX3_init_114 : decode cX3_init 114 = .ok (.istore_n 1, 1) := by decide +kernel
theorem dX3_init_115 : decode cX3_init 115 = .ok (.iload_n 1, 1) := by decide +kernel
theorem dX3_init_116 : decode cX3_init 116 = .ok (.sipush 300, 3) := by decide +kernel
theorem dX3_init_119 : decode cX3_init 119 = .ok (.if_icmp .ge 16, 3) := by decide +kernel
theorem dX3_init_122 : decode cX3_init 122 = .ok (.aload_n 0, 1) := by decide +kernel
theorem dX3_init_123 : decode cX3_init 123 = .ok (.getfield 27, 3) := by decide +kernel
theorem dX3_init_126 : decode cX3_init 126 = .ok (.iload_n 1, 1) := by decide +kernel
theorem dX3_init_127 : decode cX3_init 127 = .ok (.iconst (-1), 1) := by decide +kernel
theorem dX3_init_128 : decode cX3_init 128 = .ok (.iastore, 1) := by decide +kernel
theorem dX3_init_129 : decode cX3_init 129 = .ok (.iinc 1 1, 3) := by decide +kernel
theorem dX3_init_132 : decode cX3_init 132 = .ok (.goto (-17), 3) := by decide +kernel
theorem dX3_init_135 : decode cX3_init 135 = .ok (.return_, 1) := by decide +kernel
theorem dX3_copyFrom_0 : decode cX3_copyFrom 0 = .ok (.aload_n 0, 1) := by decide +kernel
theorem dX3_copyFrom_1 : decode cX3_copyFrom 1 = .ok (.aload_n 1, 1) := by decide +kernel
theorem dX3_copyFrom_2 : decode cX3_copyFrom 2 = .ok (.getfield 42, 3) := by decide +kernel
theorem dX3_copyFrom_5 : decode cX3_copyFrom 5 = .ok (.putfield 42, 3) := by decide +kernel
theorem dX3_copyFrom_8 : decode cX3_copyFrom 8 = .ok (.aload_n 0, 1) := by decide +kernel
theorem dX3_copyFrom_9 : decode cX3_copyFrom 9 = .ok (.aload_n 1, 1) := by decide +kernel
theorem dX3_copyFrom_10 : decode cX3_copyFrom 10 = .ok (.getfield 46, 3) := by decide +kernel
theorem dX3_copyFrom_13 : decode cX3_copyFrom 13 = .ok (.putfield 46, 3) := by decide +kernel
theorem dX3_copyFrom_16 : decode cX3_copyFrom 16 = .ok (.aload_n 0, 1) := by decide +kernel
theorem dX3_copyFrom_17 : decode cX3_copyFrom 17 = .ok (.aload_n 1, 1) := by decide +kernel
theorem dX3_copyFrom_18 : decode cX3_copyFrom 18 = .ok (.getfield 49, 3) := by decide +kernel
theorem dX3_copyFrom_21 : decode cX3_copyFrom 21 = .ok (.putfield 49, 3) := by decide +kernel
theorem dX3_copyFrom_24 : decode cX3_copyFrom 24 = .ok (.aload_n 0, 1) := by decide +kernel
theorem dX3_copyFrom_25 : decode cX3_copyFrom 25 = .ok (.aload_n 1, 1) := by decide +kernel
theorem dX3_copyFrom_26 : decode cX3_copyFrom 26 = .ok (.getfield 52, 3) := by decide +kernel
theorem dX3_copyFrom_29 : decode cX3_copyFrom 29 = .ok (.putfield 52, 3) := by decide +kernel
theorem dX3_copyFrom_32 : decode cX3_copyFrom 32 = .ok (.aload_n 0, 1) := by decide +kernel
theorem dX3_copyFrom_33 : decode cX3_copyFrom 33 = .ok (.aload_n 1, 1) := by decide +kernel
theorem dX3_copyFrom_34 : decode cX3_copyFrom 34 = .ok (.getfield 55, 3) := by decide +kernel
theorem dX3_copyFrom_37 : decode cX3_copyFrom 37 = .ok (.putfield 55, 3) := by decide +kernel
theorem dX3_copyFrom_40 : decode cX3_copyFrom 40 = .ok (.aload_n 1, 1) := by decide +kernel
theorem dX3_copyFrom_41 : decode cX3_copyFrom 41 = .ok (.getfield 9, 3) := by decide +kernel
theorem dX3_copyFrom_44 : decode cX3_copyFrom 44 = .ok (.iconst 0, 1) := by decide +kernel
theorem dX3_copyFrom_45 : decode cX3_copyFrom 45 = .ok (.aload_n 0, 1) := by decide +kernel
theorem dX3_copyFrom_46 : decode cX3_copyFrom 46 = .ok (.getfield 9, 3) := by decide +kernel
theorem dX3_copyFrom_49 : decode cX3_copyFrom 49 = .ok (.iconst 0, 1) := by decide +kernel
theorem dX3_copyFrom_50 : decode cX3_copyFrom 50 = .ok (.bipush 8, 2) := by decide +kernel
theorem dX3_copyFrom_52 : decode cX3_copyFrom 52 = .ok (.invokestatic 58, 3) := by decide +kernel
theorem dX3_copyFrom_55 : decode cX3_copyFrom 55 = .ok (.aload_n 1, 1) := by decide +kernel
theorem dX3_copyFrom_56 : decode cX3_copyFrom 56 = .ok (.getfield 15, 3) := by decide +kernel
theorem dX3_copyFrom_59 : decode cX3_copyFrom 59 = .ok (.iconst 0, 1) := by decide +kernel
theorem dX3_copyFrom_60 : decode cX3_copyFrom 60 = .ok (.aload_n 0, 1) := by decide +kernel
theorem dX3_copyFrom_61 : decode cX3_copyFrom 61 = .ok (.getfield 15, 3) := by decide +kernel
theorem dX3_copyFrom_64 : decode cX3_copyFrom 64 = .ok (.iconst 0, 1) := by decide +kernel
theorem dX3_copyFrom_65 : decode cX3_copyFrom 65 = .ok (.bipush 8, 2) := by decide +kernel
theorem dX3_copyFrom_67 : decode cX3_copyFrom 67 = .ok (.invokestatic 58, 3) := by decide +kernel
theorem dX3_copyFrom_70 : decode cX3_copyFrom 70 = .ok (.aload_n 1, 1) := by decide +kernel
theorem dX3_copyFrom_71 : decode cX3_copyFrom 71 = .ok (.getfield 18, 3) := by decide +kernel
theorem dX3_copyFrom_74 : decode cX3_copyFrom 74 = .ok (.iconst 0, 1) := by decide +kernel
theorem dX3_copyFrom_75 : decode cX3_copyFrom 75 = .ok (.aload_n 0, 1) := by decide +kernel
theorem dX3_copyFrom_76 : decode cX3_copyFrom 76 = .ok (.getfield 18, 3) := by decide +kernel
theorem dX3_copyFrom_79 : decode cX3_copyFrom 79 = .ok (.iconst 0, 1) := by decide +kernel
theorem dX3_copyFrom_80 : decode cX3_copyFrom 80 = .ok (.bipush 8, 2) := by decide +kernel
theorem dX3_copyFrom_82 : decode cX3_copyFrom 82 = .ok (.invokestatic 58, 3) := by decide +kernel
theorem dX3_copyFrom_85 : decode cX3_copyFrom 85 = .ok (.aload_n 1, 1) := by decide +kernel
theorem dX3_copyFrom_86 : decode cX3_copyFrom 86 = .ok (.getfield 21, 3) := by decide +kernel
theorem dX3_copyFrom_89 : decode cX3_copyFrom 89 = .ok (.iconst 0, 1) := by decide +kernel
theorem dX3_copyFrom_90 : decode cX3_copyFrom 90 = .ok (.aload_n 0, 1) := by decide +kernel
theorem dX3_copyFrom_91 : decode cX3_copyFrom 91 = .ok (.getfield 21, 3) := by decide +kernel
theorem dX3_copyFrom_94 : decode cX3_copyFrom 94 = .ok (.iconst 0, 1) := by decide +kernel
theorem dX3_copyFrom_95 : decode cX3_copyFrom 95 = .ok (.bipush 8, 2) := by decide +kernel
theorem dX3_copyFrom_97 : decode cX3_copyFrom 97 = .ok (.invokestatic 58, 3) := by decide +kernel
theorem dX3_copyFrom_100 : decode cX3_copyFrom 100 = .ok (.aload_n 1, 1) := by decide +kernel
theorem dX3_copyFrom_101 : decode cX3_copyFrom 101 = .ok (.getfield 24, 3) := by decide +kernel
theorem dX3_copyFrom_104 : decode cX3_copyFrom 104 = .ok (.iconst 0, 1) := by decide +kernel
theorem dX3_copyFrom_105 : decode cX3_copyFrom 105 = .ok (.aload_n 0, 1) := by decide +kernel
theorem dX3_copyFrom_106 : decode cX3_copyFrom 106 = .ok (.getfield 24, 3) := by decide +kernel
theorem dX3_copyFrom_109 : decode cX3_copyFrom 109 = .ok (.iconst 0, 1) := by decide +kernel
theorem dX3_copyFrom_110 : decode cX3_copyFrom 110 = .ok (.iconst 3, 1) := by decide +kernel
theorem dX3_copyFrom_111 : decode cX3_copyFrom 111 = .ok (.invokestatic 58, 3) := by decide +kernel
theorem dX3_copyFrom_114 : decode cX3_copyFrom 114 = .ok (.aload_n 1, 1) := by decide +kernel
theorem dX3_copyFrom_115 : decode cX3_copyFrom 115 = .ok (.getfield 27, 3) := by decide +kernel
theorem dX3_copyFrom_118 : decode cX3_copyFrom 118 = .ok (.iconst 0, 1) := by decide +kernel
theorem dX3_copyFrom_119 : decode cX3_copyFrom 119 = .ok (.aload_n 0, 1) := by decide +kernel
theorem dX3_copyFrom_120 : decode cX3_copyFrom 120 = .ok (.getfield 27, 3) := by decide +kernel
theorem dX3_copyFrom_123 : decode cX3_copyFrom 123 = .ok (.iconst 0, 1) := by decide +kernel
theorem dX3_copyFrom_124 : decode cX3_copyFrom 124 = .ok (.sipush 300, 3) := by decide +kernel
theorem dX3_copyFrom_127 : decode cX3_copyFrom 127 = .ok (.invokestatic 58, 3) := by decide +kernel
theorem dX3_copyFrom_130 : decode cX3_copyFrom 130 = .ok (.aload_n 1, 1) := by decide +kernel
theorem dX3_copyFrom_131 : decode cX3_copyFrom 131 = .ok (.getfield 30, 3) := by decide +kernel
theorem dX3_copyFrom_134 : decode cX3_copyFrom 134 = .ok (.iconst 0, 1) := by decide +kernel
theorem dX3_copyFrom_135 : decode cX3_copyFrom 135 = .ok (.aload_n 0, 1) := by decide +kernel
theorem dX3_copyFrom_136 : decode cX3_copyFrom 136 = .ok (.getfield 30, 3) := by decide +kernel
theorem dX3_copyFrom_139 : decode cX3_copyFrom 139 = .ok (.iconst 0, 1) := by decide +kernel
theorem dX3_copyFrom_140 : decode cX3_copyFrom 140 = .ok (.sipush 150, 3) := by decide +kernel
theorem dX3_copyFrom_143 : decode cX3_copyFrom 143 = .ok (.invokestatic 58, 3) := by decide +kernel
theorem dX3_copyFrom_146 : decode cX3_copyFrom 146 = .ok (.aload_n 1, 1) := by decide +kernel
theorem dX3_copyFrom_147 : decode cX3_copyFrom 147 = .ok (.getfield 33, 3) := by decide +kernel
theorem dX3_copyFrom_150 : decode cX3_copyFrom 150 = .ok (.iconst 0, 1) := by decide +kernel
theorem dX3_copyFrom_151 : decode cX3_copyFrom 151 = .ok (.aload_n 0, 1) := by decide +kernel
theorem dX3_copyFrom_152 : decode cX3_copyFrom 152 = .ok (.getfield 33, 3) := by decide +kernel
theorem dX3_copyFrom_155 : decode cX3_copyFrom 155 = .ok (.iconst 0, 1) := by decide +kernel
theorem dX3_copyFrom_156 : decode cX3_copyFrom 156 = .ok (.sipush 150, 3) := by decide +kernel
theorem dX3_copyFrom_159 : decode cX3_copyFrom 159 = .ok (.invokestatic 58, 3) := by decide +kernel
theorem dX3_copyFrom_162 : decode cX3_copyFrom 162 = .ok (.aload_n 1, 1) := by decide +kernel
theorem dX3_copyFrom_163 : decode cX3_copyFrom 163 = .ok (.getfield 36, 3) := by decide +kernel
theorem dX3_copyFrom_166 : decode cX3_copyFrom 166 = .ok (.iconst 0, 1) := by decide +kernel
theorem dX3_copyFrom_167 : decode cX3_copyFrom 167 = .ok (.aload_n 0, 1) := by decide +kernel
theorem dX3_copyFrom_168 : decode cX3_copyFrom 168 = .ok (.getfield 36, 3) := by decide +kernel
theorem dX3_copyFrom_171 : decode cX3_copyFrom 171 = .ok (.iconst 0, 1) := by decide +kernel
theorem dX3_copyFrom_172 : decode cX3_copyFrom 172 = .ok (.sipush 150, 3) := by decide +kernel
theorem dX3_copyFrom_175 : decode cX3_copyFrom 175 = .ok (.invokestatic 58, 3) := by decide +kernel
theorem dX3_copyFrom_178 : decode cX3_copyFrom 178 = .ok (.aload_n 1, 1) := by decide +kernel
theorem dX3_copyFrom_179 : decode cX3_copyFrom 179 = .ok (.getfield 39, 3) := by decide +kernel
theorem dX3_copyFrom_182 : decode cX3_copyFrom 182 = .ok (.iconst 0, 1) := by decide +kernel
theorem dX3_copyFrom_183 : decode cX3_copyFrom 183 = .ok (.aload_n 0, 1) := by decide +kernel
theorem dX3_copyFrom_184 : decode cX3_copyFrom 184 = .ok (.getfield 39, 3) := by decide +kernel
theorem dX3_copyFrom_187 : decode cX3_copyFrom 187 = .ok (.iconst 0, 1) := by decide +kernel
theorem dX3_copyFrom_188 : decode cX3_copyFrom 188 = .ok (.sipush 150, 3) := by decide +kernel
theorem dX3_copyFrom_191 : decode cX3_copyFrom 191 = .ok (.invokestatic 58, 3) := by decide +kernel
theorem dX3_copyFrom_194 : decode cX3_copyFrom 194 = .ok (.return_, 1) := by decide +kernel
theorem dX3_hasBread_0 : decode cX3_hasBread 0 = .ok (.iload_n 1, 1) := by decide +kernel
theorem dX3_hasBread_1 : decode cX3_hasBread 1 = .ok (.ifCond .lt 21, 3) := by decide +kernel
theorem dX3_hasBread_4 : decode cX3_hasBread 4 = .ok (.iload_n 1, 1) := by decide +kernel
theorem dX3_hasBread_5 : decode cX3_hasBread 5 = .ok (.aload_n 0, 1) := by decide +kernel
theorem dX3_hasBread_6 : decode cX3_hasBread 6 = .ok (.getfield 42, 3) := by decide +kernel
theorem dX3_hasBread_9 : decode cX3_hasBread 9 = .ok (.if_icmp .ge 13, 3) := by decide +kernel
theorem dX3_hasBread_12 : decode cX3_hasBread 12 = .ok (.iload_n 1, 1) := by decide +kernel
theorem dX3_hasBread_13 : decode cX3_hasBread 13 = .ok (.bipush 8, 2) := by decide +kernel
theorem dX3_hasBread_15 : decode cX3_hasBread 15 = .ok (.if_icmp .ge 7, 3) := by decide +kernel
theorem dX3_hasBread_18 : decode cX3_hasBread 18 = .ok (.iconst 1, 1) := by decide +kernel
theorem dX3_hasBread_19 : decode cX3_hasBread 19 = .ok (.goto 4, 3) := by decide +kernel
theorem dX3_hasBread_22 : decode cX3_hasBread 22 = .ok (.iconst 0, 1) := by decide +kernel
theorem dX3_hasBread_23 : decode cX3_hasBread 23 = .ok (.ireturn, 1) := by decide +kernel
set_option maxRecDepth 20000 in
theorem ggX3_isOpenBread_X3_hasBread : GoodIn wsX3_isOpenBread wsX3_hasBread := goodIn_r _ [6, 7, 8, 9, 10, 11, 12, 13, 14, 15, 16, 17, 18, 19, 20, 21, 22] (by decide +kernel) (by decide +kernel)
set_option maxRecDepth 20000 in
theorem gX3_isOpenBread_X3_hasBread : GoodIn wsX3_isOpenBread (wsV RX3 64 RX3 yX3_hasBread wsX3_hasBread) := goodIn_app (goodIn_of _ (by decide +kernel)) ggX3_isOpenBread_X3_hasBread
theorem dX3_isOpenBread_0 : decode cX3_isOpenBread 0 = .ok (.aload_n 0, 1) := by decide +kernel
theorem dX3_isOpenBread_1 : decode cX3_isOpenBread 1 = .ok (.iload_n 1, 1) := by decide +kernel
theorem dX3_isOpenBread_2 : decode cX3_isOpenBread 2 = .ok (.invokevirtual 64, 3) := by decide +kernel
theorem dX3_isOpenBread_5 : decode cX3_isOpenBread 5 = .ok (.ifCond .eq 18, 3) := by decide +kernel
theorem dX3_isOpenBread_8 : decode cX3_isOpenBread 8 = .ok (.aload_n 0, 1) := by decide +kernel
theorem dX3_isOpenBread_9 : decode cX3_isOpenBread 9 = .ok (.getfield 52, 3) := by decide +kernel
theorem dX3_isOpenBread_12 : decode cX3_isOpenBread 12 = .ok (.iload_n 1, 1) := by decide +kernel
theorem dX3_isOpenBread_13 : decode cX3_isOpenBread 13 = .ok (.ishr, 1) := by decide +kernel
theorem dX3_isOpenBread_14 : decode cX3_isOpenBread 14 = .ok (.iconst 1, 1) := by decide +kernel
theorem dX3_isOpenBread_15 : decode cX3_isOpenBread 15 = .ok (.iand, 1) := by decide +kernel
theorem dX3_isOpenBread_16 : decode cX3_isOpenBread 16 = .ok (.ifCond .eq 7, 3) := by decide +kernel
theorem dX3_isOpenBread_19 : decode cX3_isOpenBread 19 = .ok (.iconst 1, 1) := by decide +kernel
theorem dX3_isOpenBread_20 : decode cX3_isOpenBread 20 = .ok (.goto 4, 3) := by decide +kernel
theorem dX3_isOpenBread_23 : decode cX3_isOpenBread 23 = .ok (.iconst 0, 1) := by decide +kernel
theorem dX3_isOpenBread_24 : decode cX3_isOpenBread 24 = .ok (.ireturn, 1) := by decide +kernel
set_option maxRecDepth 20000 in
theorem ggX3_isInGroup_X4_isGroup : GoodIn wsX3_isInGroup wsX4_isGroup := goodIn_r _ [4] (by decide +kernel) (by decide +kernel)
set_option maxRecDepth 20000 in
theorem gX3_isInGroup_X4_isGroup_n68 : GoodIn wsX3_isInGroup (wsX4_isGroup) := ggX3_isInGroup_X4_isGroup
theorem dX3_isInGroup_0 : decode cX3_isInGroup 0 = .ok (.aload_n 0, 1) := by decide +kernel
theorem dX3_isInGroup_1 : decode cX3_isInGroup 1 = .ok (.getfield 9, 3) := by decide +kernel
theorem dX3_isInGroup_4 : decode cX3_isInGroup 4 = .ok (.iload_n 1, 1) := by decide +kernel
theorem dX3_isInGroup_5 : decode cX3_isInGroup 5 = .ok (.iaload, 1) := by decide +kernel
theorem dX3_isInGroup_6 : decode cX3_isInGroup 6 = .ok (.invokestatic 68, 3) := by decide +kernel
theorem dX3_isInGroup_9 : decode cX3_isInGroup 9 = .ok (.ireturn, 1) := by decide +kernel
set_option maxRecDepth 20000 in
theorem ggX3_saltOf_X4_isGroup : GoodIn wsX3_saltOf wsX4_isGroup := goodIn_r _ [6] (by decide +kernel) (by decide +kernel)
set_option maxRecDepth 20000 in
theorem gX3_saltOf_X4_isGroup_n68 : GoodIn wsX3_saltOf (wsX4_isGroup) := ggX3_saltOf_X4_isGroup
theorem dX3_saltOf_0 : decode cX3_saltOf 0 = .ok (.aload_n 0, 1) := by decide +kernel
theorem dX3_saltOf_1 : decode cX3_saltOf 1 = .ok (.getfield 9, 3) := by decide +kernel
theorem dX3_saltOf_4 : decode cX3_saltOf 4 = .ok (.iload_n 1, 1) := by decide +kernel
theorem dX3_saltOf_5 : decode cX3_saltOf 5 = .ok (.iaload, 1) := by decide +kernel
theorem dX3_saltOf_6 : decode cX3_saltOf 6 = .ok (.istore_n 2, 1) := by decide +kernel
theorem dX3_saltOf_7 : decode cX3_saltOf 7 = .ok (.iload_n 2, 1) := by decide +kernel
theorem dX3_saltOf_8 : decode cX3_saltOf 8 = .ok (.invokestatic 68, 3) := by decide +kernel
theorem dX3_saltOf_11 : decode cX3_saltOf 11 = .ok (.ifCond .eq 12, 3) := by decide +kernel
theorem dX3_saltOf_14 : decode cX3_saltOf 14 = .ok (.aload_n 0, 1) := by decide +kernel
theorem dX3_saltOf_15 : decode cX3_saltOf 15 = .ok (.getfield 24, 3) := by decide +kernel
theorem dX3_saltOf_18 : decode cX3_saltOf 18 = .ok (.iload_n 2, 1) := by decide +kernel
theorem dX3_saltOf_19 : decode cX3_saltOf 19 = .ok (.iaload, 1) := by decide +kernel
theorem dX3_saltOf_20 : decode cX3_saltOf 20 = .ok (.goto 9, 3) := by decide +kernel
theorem dX3_saltOf_23 : decode cX3_saltOf 23 = .ok (.aload_n 0, 1) := by decide +kernel
theorem dX3_saltOf_24 : decode cX3_saltOf 24 = .ok (.getfield 15, 3) := by decide +kernel
theorem dX3_saltOf_27 : decode cX3_saltOf 27 = .ok (.iload_n 1, 1) := by decide +kernel
theorem dX3_saltOf_28 : decode cX3_saltOf 28 = .ok (.iaload, 1) := by decide +kernel
theorem dX3_saltOf_29 : decode cX3_saltOf 29 = .ok (.ireturn, 1) := by decide +kernel
theorem dX3_owns_0 : decode cX3_owns 0 = .ok (.aload_n 0, 1) := by decide +kernel
theorem dX3_owns_1 : decode cX3_owns 1 = .ok (.getfield 9, 3) := by decide +kernel
theorem dX3_owns_4 : decode cX3_owns 4 = .ok (.iload_n 1, 1) := by decide +kernel
theorem dX3_owns_5 : decode cX3_owns 5 = .ok (.iaload, 1) := by decide +kernel
theorem dX3_owns_6 : decode cX3_owns 6 = .ok (.istore_n 3, 1) := by decide +kernel
theorem dX3_owns_7 : decode cX3_owns 7 = .ok (.iload_n 3, 1) := by decide +kernel
theorem dX3_owns_8 : decode cX3_owns 8 = .ok (.ifCond .lt 29, 3) := by decide +kernel
theorem dX3_owns_11 : decode cX3_owns 11 = .ok (.iload_n 3, 1) := by decide +kernel
theorem dX3_owns_12 : decode cX3_owns 12 = .ok (.iconst 3, 1) := by decide +kernel
theorem dX3_owns_13 : decode cX3_owns 13 = .ok (.if_icmp .ge 24, 3) := by decide +kernel
theorem dX3_owns_16 : decode cX3_owns 16 = .ok (.aload_n 0, 1) := by decide +kernel
theorem dX3_owns_17 : decode cX3_owns 17 = .ok (.getfield 27, 3) := by decide +kernel
theorem dX3_owns_20 : decode cX3_owns 20 = .ok (.iload_n 3, 1) := by decide +kernel
theorem dX3_owns_21 : decode cX3_owns 21 = .ok (.bipush 100, 2) := by decide +kernel
theorem dX3_owns_23 : decode cX3_owns 23 = .ok (.imul, 1) := by decide +kernel
theorem dX3_owns_24 : decode cX3_owns 24 = .ok (.iload_n 2, 1) := by decide +kernel
theorem dX3_owns_25 : decode cX3_owns 25 = .ok (.iadd, 1) := by decide +kernel
theorem dX3_owns_26 : decode cX3_owns 26 = .ok (.iaload, 1) := by decide +kernel
theorem dX3_owns_27 : decode cX3_owns 27 = .ok (.iload_n 1, 1) := by decide +kernel
theorem dX3_owns_28 : decode cX3_owns 28 = .ok (.if_icmp .ne 7, 3) := by decide +kernel
theorem dX3_owns_31 : decode cX3_owns 31 = .ok (.iconst 1, 1) := by decide +kernel
theorem dX3_owns_32 : decode cX3_owns 32 = .ok (.goto 4, 3) := by decide +kernel
theorem dX3_owns_35 : decode cX3_owns 35 = .ok (.iconst 0, 1) := by decide +kernel
theorem dX3_owns_36 : decode cX3_owns 36 = .ok (.ireturn, 1) := by decide +kernel
theorem dX3_owns_37 : decode cX3_owns 37 = .ok (.iload_n 2, 1) := by decide +kernel
theorem dX3_owns_38 : decode cX3_owns 38 = .ok (.aload_n 0, 1) := by decide +kernel
theorem dX3_owns_39 : decode cX3_owns 39 = .ok (.getfield 18, 3) := by decide +kernel
theorem dX3_owns_42 : decode cX3_owns 42 = .ok (.iload_n 1, 1) := by decide +kernel
theorem dX3_owns_43 : decode cX3_owns 43 = .ok (.iaload, 1) := by decide +kernel
theorem dX3_owns_44 : decode cX3_owns 44 = .ok (.if_icmp .ge 7, 3) := by decide +kernel
theorem dX3_owns_47 : decode cX3_owns 47 = .ok (.iconst 1, 1) := by decide +kernel
theorem dX3_owns_48 : decode cX3_owns 48 = .ok (.goto 4, 3) := by decide +kernel
theorem dX3_owns_51 : decode cX3_owns 51 = .ok (.iconst 0, 1) := by decide +kernel
theorem dX3_owns_52 : decode cX3_owns 52 = .ok (.ireturn, 1) := by decide +kernel
theorem dX3_freeBuckets_0 : decode cX3_freeBuckets 0 = .ok (.iconst 0, 1) := by decide +kernel
theorem dX3_freeBuckets_1 : decode cX3_freeBuckets 1 = .ok (.istore_n 2, 1) := by decide +kernel
theorem dX3_freeBuckets_2 : decode cX3_freeBuckets 2 = .ok (.iconst 0, 1) := by decide +kernel
theorem dX3_freeBuckets_3 : decode cX3_freeBuckets 3 = .ok (.istore_n 3, 1) := by decide +kernel
theorem dX3_freeBuckets_4 : decode cX3_freeBuckets 4 = .ok (.iload_n 3, 1) := by decide +kernel
theorem dX3_freeBuckets_5 : decode cX3_freeBuckets 5 = .ok (.bipush 100, 2) := by decide +kernel
theorem dX3_freeBuckets_7 : decode cX3_freeBuckets 7 = .ok (.if_icmp .ge 27, 3) := by decide +kernel
theorem dX3_freeBuckets_10 : decode cX3_freeBuckets 10 = .ok (.aload_n 0, 1) := by decide +kernel
theorem dX3_freeBuckets_11 : decode cX3_freeBuckets 11 = .ok (.getfield 27, 3) := by decide +kernel
theorem dX3_freeBuckets_14 : decode cX3_freeBuckets 14 = .ok (.iload_n 1, 1) := by decide +kernel
theorem dX3_freeBuckets_15 : decode cX3_freeBuckets 15 = .ok (.bipush 100, 2) := by decide +kernel
theorem dX3_freeBuckets_17 : decode cX3_freeBuckets 17 = .ok (.imul, 1) := by decide +kernel
theorem dX3_freeBuckets_18 : decode cX3_freeBuckets 18 = .ok (.iload_n 3, 1) := by decide +kernel
theorem dX3_freeBuckets_19 : decode cX3_freeBuckets 19 = .ok (.iadd, 1) := by decide +kernel
theorem dX3_freeBuckets_20 : decode cX3_freeBuckets 20 = .ok (.iaload, 1) := by decide +kernel
theorem dX3_freeBuckets_21 : decode cX3_freeBuckets 21 = .ok (.iconst (-1), 1) := by decide +kernel
theorem dX3_freeBuckets_22 : decode cX3_freeBuckets 22 = .ok (.if_icmp .ne 6, 3) := by decide +kernel
theorem dX3_freeBuckets_25 : decode cX3_freeBuckets 25 = .ok (.iinc 2 1, 3) := by decide +kernel
theorem dX3_freeBuckets_28 : decode cX3_freeBuckets 28 = .ok (.iinc 3 1, 3) := by decide +kernel
theorem dX3_freeBuckets_31 : decode cX3_freeBuckets 31 = .ok (.goto (-27), 3) := by decide +kernel
theorem dX3_freeBuckets_34 : decode cX3_freeBuckets 34 = .ok (.iload_n 2, 1) := by decide +kernel
theorem dX3_freeBuckets_35 : decode cX3_freeBuckets 35 = .ok (.ireturn, 1) := by decide +kernel
theorem dX3_addBread_0 : decode cX3_addBread 0 = .ok (.aload_n 0, 1) := by decide +kernel
theorem dX3_addBread_1 : decode cX3_addBread 1 = .ok (.getfield 42, 3) := by decide +kernel
theorem dX3_addBread_4 : decode cX3_addBread 4 = .ok (.istore 4, 2) := by decide +kernel
theorem dX3_addBread_6 : decode cX3_addBread 6 = .ok (.iload 4, 2) := by decide +kernel
theorem dX3_addBread_8 : decode cX3_addBread 8 = .ok (.bipush 8, 2) := by decide +kernel
theorem dX3_addBread_10 : decode cX3_addBread 10 = .ok (.if_icmp .lt 5, 3) := by decide +kernel
theorem dX3_addBread_13 : decode cX3_addBread 13 = .ok (.iconst (-1), 1) := by decide +kernel
theorem dX3_addBread_14 : decode cX3_addBread 14 = .ok (.ireturn, 1) := by decide +kernel
theorem dX3_addBread_15 : decode cX3_addBread 15 = .ok (.iconst 1, 1) := by decide +kernel
theorem dX3_addBread_16 : decode cX3_addBread 16 = .ok (.iload 4, 2) := by decide +kernel
theorem dX3_addBread_18 : decode cX3_addBread 18 = .ok (.ishl, 1) := by decide +kernel
theorem dX3_addBread_19 : decode cX3_addBread 19 = .ok (.istore 5, 2) := by decide +kernel
theorem dX3_addBread_21 : decode cX3_addBread 21 = .ok (.aload_n 0, 1) := by decide +kernel
theorem dX3_addBread_22 : decode cX3_addBread 22 = .ok (.dup, 1) := by decide +kernel
theorem dX3_addBread_23 : decode cX3_addBread 23 = .ok (.getfield 52, 3) := by decide +kernel
theorem dX3_addBread_26 : decode cX3_addBread 26 = .ok (.iload 5, 2) := by decide +kernel
theorem dX3_addBread_28 : decode cX3_addBread 28 = .ok (.ior, 1) := by decide +kernel
theorem dX3_addBread_29 : decode cX3_addBread 29 = .ok (.putfield 52, 3) := by decide +kernel
theorem dX3_addBread_32 : decode cX3_addBread 32 = .ok (.aload_n 0, 1) := by decide +kernel
theorem dX3_addBread_33 : decode cX3_addBread 33 = .ok (.iload_n 3, 1) := by decide +kernel
theorem dX3_addBread_34 : decode cX3_addBread 34 = .ok (.ifCond .eq 13, 3) := by decide +kernel
theorem dX3_addBread_37 : decode cX3_addBread 37 = .ok (.aload_n 0, 1) := by decide +kernel
theorem dX3_addBread_38 : decode cX3_addBread 38 = .ok (.getfield 55, 3) := by decide +kernel
theorem dX3_addBread_41 : decode cX3_addBread 41 = .ok (.iload 5, 2) := by decide +kernel
theorem dX3_addBread_43 : decode cX3_addBread 43 = .ok (.ior, 1) := by decide +kernel
theorem dX3_addBread_44 : decode cX3_addBread 44 = .ok (.goto 12, 3) := by decide +kernel
theorem dX3_addBread_47 : decode cX3_addBread 47 = .ok (.aload_n 0, 1) := by decide +kernel
theorem dX3_addBread_48 : decode cX3_addBread 48 = .ok (.getfield 55, 3) := by decide +kernel
theorem dX3_addBread_51 : decode cX3_addBread 51 = .ok (.iload 5, 2) := by decide +kernel
theorem dX3_addBread_53 : decode cX3_addBread 53 = .ok (.iconst (-1), 1) := by decide +kernel
theorem dX3_addBread_54 : decode cX3_addBread 54 = .ok (.ixor, 1) := by decide +kernel
theorem dX3_addBread_55 : decode cX3_addBread 55 = .ok (.iand, 1) := by decide +kernel
theorem dX3_addBread_56 : decode cX3_addBread 56 = .ok (.putfield 55, 3) := by decide +kernel
theorem dX3_addBread_59 : decode cX3_addBread 59 = .ok (.aload_n 0, 1) := by decide +kernel
theorem dX3_addBread_60 : decode cX3_addBread 60 = .ok (.getfield 9, 3) := by decide +kernel
theorem dX3_addBread_63 : decode cX3_addBread 63 = .ok (.iload 4, 2) := by decide +kernel
theorem dX3_addBread_65 : decode cX3_addBread 65 = .ok (.iload_n 1, 1) := by decide +kernel
theorem dX3_addBread_66 : decode cX3_addBread 66 = .ok (.iastore, 1) := by decide +kernel
theorem dX3_addBread_67 : decode cX3_addBread 67 = .ok (.aload_n 0, 1) := by decide +kernel
theorem dX3_addBread_68 : decode cX3_addBread 68 = .ok (.getfield 15, 3) := by decide +kernel
theorem dX3_addBread_71 : decode cX3_addBread 71 = .ok (.iload 4, 2) := by decide +kernel
theorem dX3_addBread_73 : decode cX3_addBread 73 = .ok (.iload_n 2, 1) := by decide +kernel
theorem dX3_addBread_74 : decode cX3_addBread 74 = .ok (.iastore, 1) := by decide +kernel
theorem dX3_addBread_75 : decode cX3_addBread 75 = .ok (.aload_n 0, 1) := by decide +kernel
theorem dX3_addBread_76 : decode cX3_addBread 76 = .ok (.getfield 18, 3) := by decide +kernel
theorem dX3_addBread_79 : decode cX3_addBread 79 = .ok (.iload 4, 2) := by decide +kernel
theorem dX3_addBread_81 : decode cX3_addBread 81 = .ok (.iconst 0, 1) := by decide +kernel
theorem dX3_addBread_82 : decode cX3_addBread 82 = .ok (.iastore, 1) := by decide +kernel
theorem dX3_addBread_83 : decode cX3_addBread 83 = .ok (.aload_n 0, 1) := by decide +kernel
theorem dX3_addBread_84 : decode cX3_addBread 84 = .ok (.getfield 21, 3) := by decide +kernel
theorem dX3_addBread_87 : decode cX3_addBread 87 = .ok (.iload 4, 2) := by decide +kernel
theorem dX3_addBread_89 : decode cX3_addBread 89 = .ok (.iconst 0, 1) := by decide +kernel
theorem dX3_addBread_90 : decode cX3_addBread 90 = .ok (.iastore, 1) := by decide +kernel
theorem dX3_addBread_91 : decode cX3_addBread 91 = .ok (.aload_n 0, 1) := by decide +kernel
theorem dX3_addBread_92 : decode cX3_addBread 92 = .ok (.iload 4, 2) := by decide +kernel
theorem dX3_addBread_94 : decode cX3_addBread 94 = .ok (.iconst 1, 1) := by decide +kernel
theorem dX3_addBread_95 : decode cX3_addBread 95 = .ok (.iadd, 1) := by decide +kernel
theorem dX3_addBread_96 : decode cX3_addBread 96 = .ok (.putfield 42, 3) := by decide +kernel
theorem dX3_addBread_99 : decode cX3_addBread 99 = .ok (.iload 4, 2) := by decide +kernel
theorem dX3_addBread_101 : decode cX3_addBread 101 = .ok (.ireturn, 1) := by decide +kernel
set_option maxRecDepth 20000 in
theorem ggX3_closeBread_X3_lowerTo : GoodIn wsX3_closeBread wsX3_lowerTo := goodIn_r _ [6, 7, 8, 9, 10, 11, 12, 13, 14, 5, 15, 16, 17, 18, 19, 20, 21, 22, 23, 24, 25, 26, 27, 28, 29, 30, 31] (by decide +kernel) (by decide +kernel)
set_option maxRecDepth 20000 in
theorem gX3_closeBread_X3_lowerTo : GoodIn wsX3_closeBread (wsV RX3 71 RX3 yX3_lowerTo wsX3_lowerTo) := goodIn_app (goodIn_of _ (by decide +kernel)) ggX3_closeBread_X3_lowerTo
theorem dX3_closeBread_0 : decode cX3_closeBread 0 = .ok (.aload_n 0, 1) := by decide +kernel
theorem dX3_closeBread_1 : decode cX3_closeBread 1 = .ok (.iload_n 1, 1) := by decide +kernel
theorem dX3_closeBread_2 : decode cX3_closeBread 2 = .ok (.iconst 0, 1) := by decide +kernel
theorem dX3_closeBread_3 : decode cX3_closeBread 3 = .ok (.invokevirtual 71, 3) := by decide +kernel
theorem dX3_closeBread_6 : decode cX3_closeBread 6 = .ok (.aload_n 0, 1) := by decide +kernel
theorem dX3_closeBread_7 : decode cX3_closeBread 7 = .ok (.dup, 1) := by decide +kernel
theorem dX3_closeBread_8 : decode cX3_closeBread 8 = .ok (.getfield 52, 3) := by decide +kernel
theorem dX3_closeBread_11 : decode cX3_closeBread 11 = .ok (.iconst 1, 1) := by decide +kernel
theorem dX3_closeBread_12 : decode cX3_closeBread 12 = .ok (.iload_n 1, 1) := by decide +kernel
theorem dX3_closeBread_13 : decode cX3_closeBread 13 = .ok (.ishl, 1) := by decide +kernel
theorem dX3_closeBread_14 : decode cX3_closeBread 14 = .ok (.iconst (-1), 1) := by decide +kernel
theorem dX3_closeBread_15 : decode cX3_closeBread 15 = .ok (.ixor, 1) := by decide +kernel
theorem dX3_closeBread_16 : decode cX3_closeBread 16 = .ok (.iand, 1) := by decide +kernel
theorem dX3_closeBread_17 : decode cX3_closeBread 17 = .ok (.putfield 52, 3) := by decide +kernel
theorem dX3_closeBread_20 : decode cX3_closeBread 20 = .ok (.return_, 1) := by decide +kernel
set_option maxRecDepth 20000 in
theorem ggX3_canRaise_X3_isOpenBread : GoodIn wsX3_canRaise wsX3_isOpenBread := goodIn_r _ [7, 8, 9, 10, 11, 6, 12, 13, 22, 23, 24, 25, 26, 27, 28, 29, 30, 31, 32, 33, 34, 35, 36] (by decide +kernel) (by decide +kernel)
set_option maxRecDepth 20000 in
theorem gX3_canRaise_X3_isOpenBread : GoodIn wsX3_canRaise (wsV RX3 75 RX3 yX3_isOpenBread wsX3_isOpenBread) := goodIn_app (goodIn_of _ (by decide +kernel)) ggX3_canRaise_X3_isOpenBread
set_option maxRecDepth 20000 in
theorem ggX3_canRaise_X4_isGroup : GoodIn wsX3_canRaise wsX4_isGroup := goodIn_r _ [16] (by decide +kernel) (by decide +kernel)
set_option maxRecDepth 20000 in
theorem gX3_canRaise_X4_isGroup_n68 : GoodIn wsX3_canRaise (wsX4_isGroup) := ggX3_canRaise_X4_isGroup
set_option maxRecDepth 20000 in
theorem ggX3_canRaise_X3_freeBuckets : GoodIn wsX3_canRaise wsX3_freeBuckets := goodIn_r _ [20, 21, 22, 23, 24, 25, 26, 27, 28, 29, 30, 31, 32, 33, 34, 35, 36] (by decide +kernel) (by decide +kernel)
set_option maxRecDepth 20000 in
theorem gX3_canRaise_X3_freeBuckets : GoodIn wsX3_canRaise (wsV RX3 78 RX3 yX3_freeBuckets wsX3_freeBuckets) := goodIn_app (goodIn_of _ (by decide +kernel)) ggX3_canRaise_X3_freeBuckets
theorem dX3_canRaise_0 : decode cX3_canRaise 0 = .ok (.aload_n 0, 1) := by decide +kernel
theorem dX3_canRaise_1 : decode cX3_canRaise 1 = .ok (.iload_n 1, 1) := by decide +kernel
theorem dX3_canRaise_2 : decode cX3_canRaise 2 = .ok (.invokevirtual 75, 3) := by decide +kernel
theorem dX3_canRaise_5 : decode cX3_canRaise 5 = .ok (.ifCond .eq 13, 3) := by decide +kernel
theorem dX3_canRaise_8 : decode cX3_canRaise 8 = .ok (.iload_n 2, 1) := by decide +kernel
theorem dX3_canRaise_9 : decode cX3_canRaise 9 = .ok (.aload_n 0, 1) := by decide +kernel
theorem dX3_canRaise_10 : decode cX3_canRaise 10 = .ok (.getfield 18, 3) := by decide +kernel
theorem dX3_canRaise_13 : decode cX3_canRaise 13 = .ok (.iload_n 1, 1) := by decide +kernel
theorem dX3_canRaise_14 : decode cX3_canRaise 14 = .ok (.iaload, 1) := by decide +kernel
theorem dX3_canRaise_15 : decode cX3_canRaise 15 = .ok (.if_icmp .ge 5, 3) := by decide +kernel
theorem dX3_canRaise_18 : decode cX3_canRaise 18 = .ok (.iconst 0, 1) := by decide +kernel
theorem dX3_canRaise_19 : decode cX3_canRaise 19 = .ok (.ireturn, 1) := by decide +kernel
theorem dX3_canRaise_20 : decode cX3_canRaise 20 = .ok (.aload_n 0, 1) := by decide +kernel
theorem dX3_canRaise_21 : decode cX3_canRaise 21 = .ok (.getfield 9, 3) := by decide +kernel
theorem dX3_canRaise_24 : decode cX3_canRaise 24 = .ok (.iload_n 1, 1) := by decide +kernel
theorem dX3_canRaise_25 : decode cX3_canRaise 25 = .ok (.iaload, 1) := by decide +kernel
theorem dX3_canRaise_26 : decode cX3_canRaise 26 = .ok (.istore_n 3, 1) := by decide +kernel
theorem dX3_canRaise_27 : decode cX3_canRaise 27 = .ok (.iload_n 3, 1) := by decide +kernel
theorem dX3_canRaise_28 : decode cX3_canRaise 28 = .ok (.invokestatic 68, 3) := by decide +kernel
theorem dX3_canRaise_31 : decode cX3_canRaise 31 = .ok (.ifCond .eq 19, 3) := by decide +kernel
theorem dX3_canRaise_34 : decode cX3_canRaise 34 = .ok (.iload_n 2, 1) := by decide +kernel
theorem dX3_canRaise_35 : decode cX3_canRaise 35 = .ok (.aload_n 0, 1) := by decide +kernel
theorem dX3_canRaise_36 : decode cX3_canRaise 36 = .ok (.getfield 18, 3) := by decide +kernel
theorem dX3_canRaise_39 : decode cX3_canRaise 39 = .ok (.iload_n 1, 1) := by decide +kernel
theorem dX3_canRaise_40 : decode cX3_canRaise 40 = .ok (.iaload, 1) := by decide +kernel
theorem dX3_canRaise_41 : decode cX3_canRaise 41 = .ok (.isub, 1) := by decide +kernel
theorem dX3_canRaise_42 : decode cX3_canRaise 42 = .ok (.aload_n 0, 1) := by decide +kernel
theorem dX3_canRaise_43 : decode cX3_canRaise 43 = .ok (.iload_n 3, 1) := by decide +kernel
theorem dX3_canRaise_44 : decode cX3_canRaise 44 = .ok (.invokevirtual 78, 3) := by decide +kernel
theorem dX3_canRaise_47 : decode cX3_canRaise 47 = .ok (.if_icmp .gt 7, 3) := by decide +kernel
theorem dX3_canRaise_50 : decode cX3_canRaise 50 = .ok (.iconst 1, 1) := by decide +kernel
theorem dX3_canRaise_51 : decode cX3_canRaise 51 = .ok (.goto 4, 3) := by decide +kernel
theorem dX3_canRaise_54 : decode cX3_canRaise 54 = .ok (.iconst 0, 1) := by decide +kernel
theorem dX3_canRaise_55 : decode cX3_canRaise 55 = .ok (.ireturn, 1) := by decide +kernel
set_option maxRecDepth 20000 in
theorem ggX3_canLower_X3_isOpenBread : GoodIn wsX3_canLower wsX3_isOpenBread := goodIn_r _ [6, 7, 8, 9, 10, 5, 11, 12, 13, 14, 15, 16, 17, 18, 19, 20, 21, 22, 23, 24, 25, 26, 27] (by decide +kernel) (by decide +kernel)
set_option maxRecDepth 20000 in
theorem gX3_canLower_X3_isOpenBread : GoodIn wsX3_canLower (wsV RX3 75 RX3 yX3_isOpenBread wsX3_isOpenBread) := goodIn_app (goodIn_of _ (by decide +kernel)) ggX3_canLower_X3_isOpenBread
theorem dX3_canLower_0 : decode cX3_canLower 0 = .ok (.aload_n 0, 1) := by decide +kernel
theorem dX3_canLower_1 : decode cX3_canLower 1 = .ok (.iload_n 1, 1) := by decide +kernel
theorem dX3_canLower_2 : decode cX3_canLower 2 = .ok (.invokevirtual 75, 3) := by decide +kernel
theorem dX3_canLower_5 : decode cX3_canLower 5 = .ok (.ifCond .eq 17, 3) := by decide +kernel
theorem dX3_canLower_8 : decode cX3_canLower 8 = .ok (.iload_n 2, 1) := by decide +kernel
theorem dX3_canLower_9 : decode cX3_canLower 9 = .ok (.aload_n 0, 1) := by decide +kernel
theorem dX3_canLower_10 : decode cX3_canLower 10 = .ok (.getfield 18, 3) := by decide +kernel
theorem dX3_canLower_13 : decode cX3_canLower 13 = .ok (.iload_n 1, 1) := by decide +kernel
theorem dX3_canLower_14 : decode cX3_canLower 14 = .ok (.iaload, 1) := by decide +kernel
theorem dX3_canLower_15 : decode cX3_canLower 15 = .ok (.if_icmp .gt 7, 3) := by decide +kernel
theorem dX3_canLower_18 : decode cX3_canLower 18 = .ok (.iconst 1, 1) := by decide +kernel
theorem dX3_canLower_19 : decode cX3_canLower 19 = .ok (.goto 4, 3) := by decide +kernel
theorem dX3_canLower_22 : decode cX3_canLower 22 = .ok (.iconst 0, 1) := by decide +kernel
theorem dX3_canLower_23 : decode cX3_canLower 23 = .ok (.ireturn, 1) := by decide +kernel
set_option maxRecDepth 20000 in
theorem ggX3_raiseTo_X4_isGroup : GoodIn wsX3_raiseTo wsX4_isGroup := goodIn_r _ [5] (by decide +kernel) (by decide +kernel)
set_option maxRecDepth 20000 in
theorem gX3_raiseTo_X4_isGroup_n68 : GoodIn wsX3_raiseTo (wsX4_isGroup) := ggX3_raiseTo_X4_isGroup
set_option maxRecDepth 20000 in
theorem ggX3_raiseTo_X3_takeLowest : GoodIn wsX3_raiseTo wsX3_takeLowest := goodIn_r _ [10, 11, 12, 13, 14, 15, 16, 17, 18, 19, 20, 21, 22, 23, 24, 25, 26] (by decide +kernel) (by decide +kernel)
set_option maxRecDepth 20000 in
theorem gX3_raiseTo_X3_takeLowest : GoodIn wsX3_raiseTo (wsV RX3 82 RX3 yX3_takeLowest wsX3_takeLowest) := goodIn_app (goodIn_of _ (by decide +kernel)) ggX3_raiseTo_X3_takeLowest
theorem dX3_raiseTo_0 : decode cX3_raiseTo 0 = .ok (.aload_n 0, 1) := by decide +kernel
theorem dX3_raiseTo_1 : decode cX3_raiseTo 1 = .ok (.getfield 9, 3) := by decide +kernel
theorem dX3_raiseTo_4 : decode cX3_raiseTo 4 = .ok (.iload_n 1, 1) := by decide +kernel
theorem dX3_raiseTo_5 : decode cX3_raiseTo 5 = .ok (.iaload, 1) := by decide +kernel
theorem dX3_raiseTo_6 : decode cX3_raiseTo 6 = .ok (.istore_n 3, 1) := by decide +kernel
theorem dX3_raiseTo_7 : decode cX3_raiseTo 7 = .ok (.iload_n 3, 1) := by decide +kernel
theorem dX3_raiseTo_8 : decode cX3_raiseTo 8 = .ok (.invokestatic 68, 3) := by decide +kernel
theorem dX3_raiseTo_11 : decode cX3_raiseTo 11 = .ok (.ifCond .eq 20, 3) := by decide +kernel
theorem dX3_raiseTo_14 : decode cX3_raiseTo 14 = .ok (.aload_n 0, 1) := by decide +kernel
theorem dX3_raiseTo_15 : decode cX3_raiseTo 15 = .ok (.iload_n 1, 1) := by decide +kernel
theorem dX3_raiseTo_16 : decode cX3_raiseTo 16 = .ok (.iload_n 3, 1) := by decide +kernel
theorem dX3_raiseTo_17 : decode cX3_raiseTo 17 = .ok (.bipush 100, 2) := by decide +kernel
theorem dX3_raiseTo_19 : decode cX3_raiseTo 19 = .ok (.imul, 1) := by decide +kernel
theorem dX3_raiseTo_20 : decode cX3_raiseTo 20 = .ok (.iload_n 2, 1) := by decide +kernel
theorem dX3_raiseTo_21 : decode cX3_raiseTo 21 = .ok (.aload_n 0, 1) := by decide +kernel
theorem dX3_raiseTo_22 : decode cX3_raiseTo 22 = .ok (.getfield 18, 3) := by decide +kernel
theorem dX3_raiseTo_25 : decode cX3_raiseTo 25 = .ok (.iload_n 1, 1) := by decide +kernel
theorem dX3_raiseTo_26 : decode cX3_raiseTo 26 = .ok (.iaload, 1) := by decide +kernel
theorem dX3_raiseTo_27 : decode cX3_raiseTo 27 = .ok (.isub, 1) := by decide +kernel
theorem dX3_raiseTo_28 : decode cX3_raiseTo 28 = .ok (.invokevirtual 82, 3) := by decide +kernel
theorem dX3_raiseTo_31 : decode cX3_raiseTo 31 = .ok (.aload_n 0, 1) := by decide +kernel
theorem dX3_raiseTo_32 : decode cX3_raiseTo 32 = .ok (.getfield 18, 3) := by decide +kernel
theorem dX3_raiseTo_35 : decode cX3_raiseTo 35 = .ok (.iload_n 1, 1) := by decide +kernel
theorem dX3_raiseTo_36 : decode cX3_raiseTo 36 = .ok (.iload_n 2, 1) := by decide +kernel
theorem dX3_raiseTo_37 : decode cX3_raiseTo 37 = .ok (.iastore, 1) := by decide +kernel
theorem dX3_raiseTo_38 : decode cX3_raiseTo 38 = .ok (.return_, 1) := by decide +kernel
theorem dX3_takeLowest_0 : decode cX3_takeLowest 0 = .ok (.iload_n 3, 1) := by decide +kernel
theorem dX3_takeLowest_1 : decode cX3_takeLowest 1 = .ok (.istore 4, 2) := by decide +kernel
theorem dX3_takeLowest_3 : decode cX3_takeLowest 3 = .ok (.iload_n 2, 1) := by decide +kernel
theorem dX3_takeLowest_4 : decode cX3_takeLowest 4 = .ok (.istore 5, 2) := by decide +kernel
theorem dX3_takeLowest_6 : decode cX3_takeLowest 6 = .ok (.iload 5, 2) := by decide +kernel
theorem dX3_takeLowest_8 : decode cX3_takeLowest 8 = .ok (.iload_n 2, 1) := by decide +kernel
theorem dX3_takeLowest_9 : decode cX3_takeLowest 9 = .ok (.bipush 100, 2) := by decide +kernel
theorem dX3_takeLowest_11 : decode cX3_takeLowest 11 = .ok (.iadd, 1) := by decide +kernel
theorem dX3_takeLowest_12 : decode cX3_takeLowest 12 = .ok (.if_icmp .ge 36, 3) := by decide +kernel
theorem dX3_takeLowest_15 : decode cX3_takeLowest 15 = .ok (.iload 4, 2) := by decide +kernel
theorem dX3_takeLowest_17 : decode cX3_takeLowest 17 = .ok (.ifCond .le 31, 3) := by decide +kernel
theorem dX3_takeLowest_20 : decode cX3_takeLowest 20 = .ok (.aload_n 0, 1) := by decide +kernel
theorem dX3_takeLowest_21 : decode cX3_takeLowest 21 = .ok (.getfield 27, 3) := by decide +kernel
theorem dX3_takeLowest_24 : decode cX3_takeLowest 24 = .ok (.iload 5, 2) := by decide +kernel
theorem dX3_takeLowest_26 : decode cX3_takeLowest 26 = .ok (.iaload, 1) := by decide +kernel
theorem dX3_takeLowest_27 : decode cX3_takeLowest 27 = .ok (.iconst (-1), 1) := by decide +kernel
theorem dX3_takeLowest_28 : decode cX3_takeLowest 28 = .ok (.if_icmp .ne 14, 3) := by decide +kernel
theorem dX3_takeLowest_31 : decode cX3_takeLowest 31 = .ok (.aload_n 0, 1) := by decide +kernel
theorem dX3_takeLowest_32 : decode cX3_takeLowest 32 = .ok (.getfield 27, 3) := by decide +kernel
theorem dX3_takeLowest_35 : decode cX3_takeLowest 35 = .ok (.iload 5, 2) := by decide +kernel
theorem dX3_takeLowest_37 : decode cX3_takeLowest 37 = .ok (.iload_n 1, 1) := by decide +kernel
theorem dX3_takeLowest_38 : decode cX3_takeLowest 38 = .ok (.iastore, 1) := by decide +kernel
theorem dX3_takeLowest_39 : decode cX3_takeLowest 39 = .ok (.iinc 4 (-1), 3) := by decide +kernel
theorem dX3_takeLowest_42 : decode cX3_takeLowest 42 = .ok (.iinc 5 1, 3) := by decide +kernel
theorem dX3_takeLowest_45 : decode cX3_takeLowest 45 = .ok (.goto (-39), 3) := by decide +kernel
theorem dX3_takeLowest_48 : decode cX3_takeLowest 48 = .ok (.return_, 1) := by decide +kernel
set_option maxRecDepth 20000 in
theorem ggX3_lowerTo_X4_isGroup : GoodIn wsX3_lowerTo wsX4_isGroup := goodIn_r _ [5] (by decide +kernel) (by decide +kernel)
set_option maxRecDepth 20000 in
theorem gX3_lowerTo_X4_isGroup_n68 : GoodIn wsX3_lowerTo (wsX4_isGroup) := ggX3_lowerTo_X4_isGroup
set_option maxRecDepth 20000 in
theorem ggX3_lowerTo_X3_loseHighest : GoodIn wsX3_lowerTo wsX3_loseHighest := goodIn_r _ [10, 11, 12, 13, 14, 15, 16, 17, 18, 19, 20, 21, 22, 23, 24, 25, 26] (by decide +kernel) (by decide +kernel)
set_option maxRecDepth 20000 in
theorem gX3_lowerTo_X3_loseHighest : GoodIn wsX3_lowerTo (wsV RX3 86 RX3 yX3_loseHighest wsX3_loseHighest) := goodIn_app (goodIn_of _ (by decide +kernel)) ggX3_lowerTo_X3_loseHighest
theorem dX3_lowerTo_0 : decode cX3_lowerTo 0 = .ok (.aload_n 0, 1) := by decide +kernel
theorem dX3_lowerTo_1 : decode cX3_lowerTo 1 = .ok (.getfield 9, 3) := by decide +kernel
theorem dX3_lowerTo_4 : decode cX3_lowerTo 4 = .ok (.iload_n 1, 1) := by decide +kernel
theorem dX3_lowerTo_5 : decode cX3_lowerTo 5 = .ok (.iaload, 1) := by decide +kernel
theorem dX3_lowerTo_6 : decode cX3_lowerTo 6 = .ok (.istore_n 3, 1) := by decide +kernel
theorem dX3_lowerTo_7 : decode cX3_lowerTo 7 = .ok (.iload_n 3, 1) := by decide +kernel
theorem dX3_lowerTo_8 : decode cX3_lowerTo 8 = .ok (.invokestatic 68, 3) := by decide +kernel
theorem dX3_lowerTo_11 : decode cX3_lowerTo 11 = .ok (.ifCond .eq 20, 3) := by decide +kernel
theorem dX3_lowerTo_14 : decode cX3_lowerTo 14 = .ok (.aload_n 0, 1) := by decide +kernel
theorem dX3_lowerTo_15 : decode cX3_lowerTo 15 = .ok (.iload_n 1, 1) := by decide +kernel
theorem dX3_lowerTo_16 : decode cX3_lowerTo 16 = .ok (.iload_n 3, 1) := by decide +kernel
theorem dX3_lowerTo_17 : decode cX3_lowerTo 17 = .ok (.bipush 100, 2) := by decide +kernel
theorem dX3_lowerTo_19 : decode cX3_lowerTo 19 = .ok (.imul, 1) := by decide +kernel
theorem dX3_lowerTo_20 : decode cX3_lowerTo 20 = .ok (.aload_n 0, 1) := by decide +kernel
theorem dX3_lowerTo_21 : decode cX3_lowerTo 21 = .ok (.getfield 18, 3) := by decide +kernel
theorem dX3_lowerTo_24 : decode cX3_lowerTo 24 = .ok (.iload_n 1, 1) := by decide +kernel
theorem dX3_lowerTo_25 : decode cX3_lowerTo 25 = .ok (.iaload, 1) := by decide +kernel
theorem dX3_lowerTo_26 : decode cX3_lowerTo 26 = .ok (.iload_n 2, 1) := by decide +kernel
theorem dX3_lowerTo_27 : decode cX3_lowerTo 27 = .ok (.isub, 1) := by decide +kernel
theorem dX3_lowerTo_28 : decode cX3_lowerTo 28 = .ok (.invokevirtual 86, 3) := by decide +kernel
theorem dX3_lowerTo_31 : decode cX3_lowerTo 31 = .ok (.aload_n 0, 1) := by decide +kernel
theorem dX3_lowerTo_32 : decode cX3_lowerTo 32 = .ok (.getfield 18, 3) := by decide +kernel
theorem dX3_lowerTo_35 : decode cX3_lowerTo 35 = .ok (.iload_n 1, 1) := by decide +kernel
theorem dX3_lowerTo_36 : decode cX3_lowerTo 36 = .ok (.iload_n 2, 1) := by decide +kernel
theorem dX3_lowerTo_37 : decode cX3_lowerTo 37 = .ok (.iastore, 1) := by decide +kernel
theorem dX3_lowerTo_38 : decode cX3_lowerTo 38 = .ok (.return_, 1) := by decide +kernel
theorem dX3_loseHighest_0 : decode cX3_loseHighest 0 = .ok (.iload_n 3, 1) := by decide +kernel
theorem dX3_loseHighest_1 : decode cX3_loseHighest 1 = .ok (.istore 4, 2) := by decide +kernel
theorem dX3_loseHighest_3 : decode cX3_loseHighest 3 = .ok (.iload_n 2, 1) := by decide +kernel
theorem dX3_loseHighest_4 : decode cX3_loseHighest 4 = .ok (.bipush 100, 2) := by decide +kernel
theorem dX3_loseHighest_6 : decode cX3_loseHighest 6 = .ok (.iadd, 1) := by decide +kernel
theorem dX3_loseHighest_7 : decode cX3_loseHighest 7 = .ok (.iconst 1, 1) := by decide +kernel
theorem dX3_loseHighest_8 : decode cX3_loseHighest 8 = .ok (.isub, 1) := by decide +kernel
theorem dX3_loseHighest_9 : decode cX3_loseHighest 9 = .ok (.istore 5, 2) := by decide +kernel
theorem dX3_loseHighest_11 : decode cX3_loseHighest 11 = .ok (.iload 5, 2) := by decide +kernel
theorem dX3_loseHighest_13 : decode cX3_loseHighest 13 = .ok (.iload_n 2, 1) := by decide +kernel
theorem dX3_loseHighest_14 : decode cX3_loseHighest 14 = .ok (.if_icmp .lt 36, 3) := by decide +kernel
theorem dX3_loseHighest_17 : decode cX3_loseHighest 17 = .ok (.iload 4, 2) := by decide +kernel
theorem dX3_loseHighest_19 : decode cX3_loseHighest 19 = .ok (.ifCond .le 31, 3) := by decide +kernel
theorem dX3_loseHighest_22 : decode cX3_loseHighest 22 = .ok (.aload_n 0, 1) := by decide +kernel
theorem dX3_loseHighest_23 : decode cX3_loseHighest 23 = .ok (.getfield 27, 3) := by decide +kernel
theorem dX3_loseHighest_26 : decode cX3_loseHighest 26 = .ok (.iload 5, 2) := by decide +kernel
theorem dX3_loseHighest_28 : decode cX3_loseHighest 28 = .ok (.iaload, 1) := by decide +kernel
theorem dX3_loseHighest_29 : decode cX3_loseHighest 29 = .ok (.iload_n 1, 1) := by decide +kernel
theorem dX3_loseHighest_30 : decode cX3_loseHighest 30 = .ok (.if_icmp .ne 14, 3) := by decide +kernel
theorem dX3_loseHighest_33 : decode cX3_loseHighest 33 = .ok (.aload_n 0, 1) := by decide +kernel
theorem dX3_loseHighest_34 : decode cX3_loseHighest 34 = .ok (.getfield 27, 3) := by decide +kernel
theorem dX3_loseHighest_37 : decode cX3_loseHighest 37 = .ok (.iload 5, 2) := by decide +kernel
theorem dX3_loseHighest_39 : decode cX3_loseHighest 39 = .ok (.iconst (-1), 1) := by decide +kernel
theorem dX3_loseHighest_40 : decode cX3_loseHighest 40 = .ok (.iastore, 1) := by decide +kernel
theorem dX3_loseHighest_41 : decode cX3_loseHighest 41 = .ok (.iinc 4 (-1), 3) := by decide +kernel
theorem dX3_loseHighest_44 : decode cX3_loseHighest 44 = .ok (.iinc 5 (-1), 3) := by decide +kernel
theorem dX3_loseHighest_47 : decode cX3_loseHighest 47 = .ok (.goto (-36), 3) := by decide +kernel
theorem dX3_loseHighest_50 : decode cX3_loseHighest 50 = .ok (.return_, 1) := by decide +kernel
set_option maxRecDepth 20000 in
theorem ggX3_setHold_X3_dropHold : GoodIn wsX3_setHold wsX3_dropHold := goodIn_r _ [7, 1, 2, 8, 9, 10, 11, 12, 13, 14, 15, 16, 17, 18, 19, 20, 21, 22] (by decide +kernel) (by decide +kernel)
set_option maxRecDepth 20000 in
theorem gX3_setHold_X3_dropHold : GoodIn wsX3_setHold (wsV RX3 89 RX3 yX3_dropHold wsX3_dropHold) := goodIn_app (goodIn_of _ (by decide +kernel)) ggX3_setHold_X3_dropHold
theorem dX3_setHold_0 : decode cX3_setHold 0 = .ok (.aload_n 0, 1) := by decide +kernel
theorem dX3_setHold_1 : decode cX3_setHold 1 = .ok (.iload_n 1, 1) := by decide +kernel
theorem dX3_setHold_2 : decode cX3_setHold 2 = .ok (.iload_n 2, 1) := by decide +kernel
theorem dX3_setHold_3 : decode cX3_setHold 3 = .ok (.invokevirtual 89, 3) := by decide +kernel
theorem dX3_setHold_6 : decode cX3_setHold 6 = .ok (.iload_n 3, 1) := by decide +kernel
theorem dX3_setHold_7 : decode cX3_setHold 7 = .ok (.ifCond .eq 18, 3) := by decide +kernel
theorem dX3_setHold_10 : decode cX3_setHold 10 = .ok (.aload_n 0, 1) := by decide +kernel
theorem dX3_setHold_11 : decode cX3_setHold 11 = .ok (.getfield 30, 3) := by decide +kernel
theorem dX3_setHold_14 : decode cX3_setHold 14 = .ok (.iload_n 1, 1) := by decide +kernel
theorem dX3_setHold_15 : decode cX3_setHold 15 = .ok (.dup2, 1) := by decide +kernel
theorem dX3_setHold_16 : decode cX3_setHold 16 = .ok (.iaload, 1) := by decide +kernel
theorem dX3_setHold_17 : decode cX3_setHold 17 = .ok (.iconst 1, 1) := by decide +kernel
theorem dX3_setHold_18 : decode cX3_setHold 18 = .ok (.iload_n 2, 1) := by decide +kernel
theorem dX3_setHold_19 : decode cX3_setHold 19 = .ok (.ishl, 1) := by decide +kernel
theorem dX3_setHold_20 : decode cX3_setHold 20 = .ok (.ior, 1) := by decide +kernel
theorem dX3_setHold_21 : decode cX3_setHold 21 = .ok (.iastore, 1) := by decide +kernel
theorem dX3_setHold_22 : decode cX3_setHold 22 = .ok (.goto 15, 3) := by decide +kernel
theorem dX3_setHold_25 : decode cX3_setHold 25 = .ok (.aload_n 0, 1) := by decide +kernel
theorem dX3_setHold_26 : decode cX3_setHold 26 = .ok (.getfield 33, 3) := by decide +kernel
theorem dX3_setHold_29 : decode cX3_setHold 29 = .ok (.iload_n 1, 1) := by decide +kernel
theorem dX3_setHold_30 : decode cX3_setHold 30 = .ok (.dup2, 1) := by decide +kernel
theorem dX3_setHold_31 : decode cX3_setHold 31 = .ok (.iaload, 1) := by decide +kernel
theorem dX3_setHold_32 : decode cX3_setHold 32 = .ok (.iconst 1, 1) := by decide +kernel
theorem dX3_setHold_33 : decode cX3_setHold 33 = .ok (.iload_n 2, 1) := by decide +kernel
theorem dX3_setHold_34 : decode cX3_setHold 34 = .ok (.ishl, 1) := by decide +kernel
theorem dX3_setHold_35 : decode cX3_setHold 35 = .ok (.ior, 1) := by decide +kernel
theorem dX3_setHold_36 : decode cX3_setHold 36 = .ok (.iastore, 1) := by decide +kernel
theorem dX3_setHold_37 : decode cX3_setHold 37 = .ok (.return_, 1) := by decide +kernel
theorem dX3_dropHold_0 : decode cX3_dropHold 0 = .ok (.aload_n 0, 1) := by decide +kernel
theorem dX3_dropHold_1 : decode cX3_dropHold 1 = .ok (.getfield 30, 3) := by decide +kernel
theorem dX3_dropHold_4 : decode cX3_dropHold 4 = .ok (.iload_n 1, 1) := by decide +kernel
theorem dX3_dropHold_5 : decode cX3_dropHold 5 = .ok (.dup2, 1) := by decide +kernel
theorem dX3_dropHold_6 : decode cX3_dropHold 6 = .ok (.iaload, 1) := by decide +kernel
theorem dX3_dropHold_7 : decode cX3_dropHold 7 = .ok (.iconst 1, 1) := by decide +kernel
theorem dX3_dropHold_8 : decode cX3_dropHold 8 = .ok (.iload_n 2, 1) := by decide +kernel
theorem dX3_dropHold_9 : decode cX3_dropHold 9 = .ok (.ishl, 1) := by decide +kernel
theorem dX3_dropHold_10 : decode cX3_dropHold 10 = .ok (.iconst (-1), 1) := by decide +kernel
theorem dX3_dropHold_11 : decode cX3_dropHold 11 = .ok (.ixor, 1) := by decide +kernel
theorem dX3_dropHold_12 : decode cX3_dropHold 12 = .ok (.iand, 1) := by decide +kernel
theorem dX3_dropHold_13 : decode cX3_dropHold 13 = .ok (.iastore, 1) := by decide +kernel
theorem dX3_dropHold_14 : decode cX3_dropHold 14 = .ok (.aload_n 0, 1) := by decide +kernel
theorem dX3_dropHold_15 : decode cX3_dropHold 15 = .ok (.getfield 33, 3) := by decide +kernel
theorem dX3_dropHold_18 : decode cX3_dropHold 18 = .ok (.iload_n 1, 1) := by decide +kernel
theorem dX3_dropHold_19 : decode cX3_dropHold 19 = .ok (.dup2, 1) := by decide +kernel
theorem dX3_dropHold_20 : decode cX3_dropHold 20 = .ok (.iaload, 1) := by decide +kernel
theorem dX3_dropHold_21 : decode cX3_dropHold 21 = .ok (.iconst 1, 1) := by decide +kernel
theorem dX3_dropHold_22 : decode cX3_dropHold 22 = .ok (.iload_n 2, 1) := by decide +kernel
theorem dX3_dropHold_23 : decode cX3_dropHold 23 = .ok (.ishl, 1) := by decide +kernel
theorem dX3_dropHold_24 : decode cX3_dropHold 24 = .ok (.iconst (-1), 1) := by decide +kernel
theorem dX3_dropHold_25 : decode cX3_dropHold 25 = .ok (.ixor, 1) := by decide +kernel
theorem dX3_dropHold_26 : decode cX3_dropHold 26 = .ok (.iand, 1) := by decide +kernel
theorem dX3_dropHold_27 : decode cX3_dropHold 27 = .ok (.iastore, 1) := by decide +kernel
theorem dX3_dropHold_28 : decode cX3_dropHold 28 = .ok (.return_, 1) := by decide +kernel
set_option maxRecDepth 20000 in
theorem ggX3_letPass_X3_breadsEatenBy : GoodIn wsX3_letPass wsX3_breadsEatenBy := goodIn_r _ [10, 11, 12, 13, 9, 14, 15, 16, 17, 18, 19, 20, 21, 22, 23, 24, 25, 26, 27, 28, 2, 29, 30, 31, 32, 33, 34, 35, 36, 37, 38, 39, 40, 41, 49, 50, 51, 52, 53, 54, 55, 56, 57, 58, 59, 60, 61, 62, 63] (by decide +kernel) (by decide +kernel)
set_option maxRecDepth 20000 in
theorem gX3_letPass_X3_breadsEatenBy : GoodIn wsX3_letPass (wsV RX3 92 RX3 yX3_breadsEatenBy wsX3_breadsEatenBy) := goodIn_app (goodIn_of _ (by decide +kernel)) ggX3_letPass_X3_breadsEatenBy
set_option maxRecDepth 20000 in
theorem ggX3_letPass_J6_bitCount_0f7a4 : GoodIn wsX3_letPass wsJ6_bitCount_0f7a4 := goodIn_r _ [45, 46, 47, 48] (by decide +kernel) (by decide +kernel)
set_option maxRecDepth 20000 in
theorem gX3_letPass_J6_bitCount_0f7a4 : GoodIn wsX3_letPass (va_wsS RX3 95 yJ6_bitCount_0f7a4 wsJ6_bitCount_0f7a4) := goodIn_app (goodIn_of _ (by decide +kernel)) ggX3_letPass_J6_bitCount_0f7a4
theorem dX3_letPass_0 : decode cX3_letPass 0 = .ok (.iconst 0, 1) := by decide +kernel
theorem dX3_letPass_1 : decode cX3_letPass 1 = .ok (.istore_n 2, 1) := by decide +kernel
theorem dX3_letPass_2 : decode cX3_letPass 2 = .ok (.iload_n 2, 1) := by decide +kernel
theorem dX3_letPass_3 : decode cX3_letPass 3 = .ok (.sipush 150, 3) := by decide +kernel
theorem dX3_letPass_6 : decode cX3_letPass 6 = .ok (.if_icmp .ge 91, 3) := by decide +kernel
theorem dX3_letPass_9 : decode cX3_letPass 9 = .ok (.aload_n 0, 1) := by decide +kernel
theorem dX3_letPass_10 : decode cX3_letPass 10 = .ok (.iload_n 2, 1) := by decide +kernel
theorem dX3_letPass_11 : decode cX3_letPass 11 = .ok (.invokevirtual 92, 3) := by decide +kernel
theorem dX3_letPass_14 : decode cX3_letPass 14 = .ok (.istore_n 3, 1) := by decide +kernel
theorem dX3_letPass_15 : decode cX3_letPass 15 = .ok (.iconst 0, 1) := by decide +kernel
theorem dX3_letPass_16 : decode cX3_letPass 16 = .ok (.istore 4, 2) := by decide +kernel
theorem dX3_letPass_18 : decode cX3_letPass 18 = .ok (.iload 4, 2) := by decide +kernel
theorem dX3_letPass_20 : decode cX3_letPass 20 = .ok (.bipush 8, 2) := by decide +kernel
theorem dX3_letPass_22 : decode cX3_letPass 22 = .ok (.if_icmp .ge 29, 3) := by decide +kernel
theorem dX3_letPass_25 : decode cX3_letPass 25 = .ok (.iload_n 3, 1) := by decide +kernel
theorem dX3_letPass_26 : decode cX3_letPass 26 = .ok (.iload 4, 2) := by decide +kernel
theorem dX3_letPass_28 : decode cX3_letPass 28 = .ok (.ishr, 1) := by decide +kernel
theorem dX3_letPass_29 : decode cX3_letPass 29 = .ok (.iconst 1, 1) := by decide +kernel
theorem dX3_letPass_30 : decode cX3_letPass 30 = .ok (.iand, 1) := by decide +kernel
theorem dX3_letPass_31 : decode cX3_letPass 31 = .ok (.ifCond .eq 14, 3) := by decide +kernel
theorem dX3_letPass_34 : decode cX3_letPass 34 = .ok (.aload_n 0, 1) := by decide +kernel
theorem dX3_letPass_35 : decode cX3_letPass 35 = .ok (.getfield 21, 3) := by decide +kernel
theorem dX3_letPass_38 : decode cX3_letPass 38 = .ok (.iload 4, 2) := by decide +kernel
theorem dX3_letPass_40 : decode cX3_letPass 40 = .ok (.dup2, 1) := by decide +kernel
theorem dX3_letPass_41 : decode cX3_letPass 41 = .ok (.iaload, 1) := by decide +kernel
theorem dX3_letPass_42 : decode cX3_letPass 42 = .ok (.iload_n 1, 1) := by decide +kernel
theorem dX3_letPass_43 : decode cX3_letPass 43 = .ok (.iadd, 1) := by decide +kernel
theorem dX3_letPass_44 : decode cX3_letPass 44 = .ok (.iastore, 1) := by decide +kernel
theorem dX3_letPass_45 : decode cX3_letPass 45 = .ok (.iinc 4 1, 3) := by decide +kernel
theorem dX3_letPass_48 : decode cX3_letPass 48 = .ok (.goto (-30), 3) := by decide +kernel
theorem dX3_letPass_51 : decode cX3_letPass 51 = .ok (.aload_n 0, 1) := by decide +kernel
theorem dX3_letPass_52 : decode cX3_letPass 52 = .ok (.getfield 36, 3) := by decide +kernel
theorem dX3_letPass_55 : decode cX3_letPass 55 = .ok (.iload_n 2, 1) := by decide +kernel
theorem dX3_letPass_56 : decode cX3_letPass 56 = .ok (.dup2, 1) := by decide +kernel
theorem dX3_letPass_57 : decode cX3_letPass 57 = .ok (.iaload, 1) := by decide +kernel
theorem dX3_letPass_58 : decode cX3_letPass 58 = .ok (.iload_n 3, 1) := by decide +kernel
theorem dX3_letPass_59 : decode cX3_letPass 59 = .ok (.ior, 1) := by decide +kernel
theorem dX3_letPass_60 : decode cX3_letPass 60 = .ok (.iastore, 1) := by decide +kernel
theorem dX3_letPass_61 : decode cX3_letPass 61 = .ok (.iload_n 1, 1) := by decide +kernel
theorem dX3_letPass_62 : decode cX3_letPass 62 = .ok (.iload_n 3, 1) := by decide +kernel
theorem dX3_letPass_63 : decode cX3_letPass 63 = .ok (.invokestatic 95, 3) := by decide +kernel
theorem dX3_letPass_66 : decode cX3_letPass 66 = .ok (.imul, 1) := by decide +kernel
theorem dX3_letPass_67 : decode cX3_letPass 67 = .ok (.istore 4, 2) := by decide +kernel
theorem dX3_letPass_69 : decode cX3_letPass 69 = .ok (.aload_n 0, 1) := by decide +kernel
theorem dX3_letPass_70 : decode cX3_letPass 70 = .ok (.getfield 39, 3) := by decide +kernel
theorem dX3_letPass_73 : decode cX3_letPass 73 = .ok (.iload_n 2, 1) := by decide +kernel
theorem dX3_letPass_74 : decode cX3_letPass 74 = .ok (.dup2, 1) := by decide +kernel
theorem dX3_letPass_75 : decode cX3_letPass 75 = .ok (.iaload, 1) := by decide +kernel
theorem dX3_letPass_76 : decode cX3_letPass 76 = .ok (.iload 4, 2) := by decide +kernel
theorem dX3_letPass_78 : decode cX3_letPass 78 = .ok (.iadd, 1) := by decide +kernel
theorem dX3_letPass_79 : decode cX3_letPass 79 = .ok (.iastore, 1) := by decide +kernel
theorem dX3_letPass_80 : decode cX3_letPass 80 = .ok (.aload_n 0, 1) := by decide +kernel
theorem dX3_letPass_81 : decode cX3_letPass 81 = .ok (.dup, 1) := by decide +kernel
theorem dX3_letPass_82 : decode cX3_letPass 82 = .ok (.getfield 49, 3) := by decide +kernel
theorem dX3_letPass_85 : decode cX3_letPass 85 = .ok (.iload 4, 2) := by decide +kernel
theorem dX3_letPass_87 : decode cX3_letPass 87 = .ok (.iadd, 1) := by decide +kernel
theorem dX3_letPass_88 : decode cX3_letPass 88 = .ok (.putfield 49, 3) := by decide +kernel
theorem dX3_letPass_91 : decode cX3_letPass 91 = .ok (.iinc 2 1, 3) := by decide +kernel
theorem dX3_letPass_94 : decode cX3_letPass 94 = .ok (.goto (-92), 3) := by decide +kernel
theorem dX3_letPass_97 : decode cX3_letPass 97 = .ok (.aload_n 0, 1) := by decide +kernel
theorem dX3_letPass_98 : decode cX3_letPass 98 = .ok (.dup, 1) := by decide +kernel
theorem dX3_letPass_99 : decode cX3_letPass 99 = .ok (.getfield 46, 3) := by decide +kernel
theorem dX3_letPass_102 : decode cX3_letPass 102 = .ok (.iload_n 1, 1) := by decide +kernel
theorem dX3_letPass_103 : decode cX3_letPass 103 = .ok (.iadd, 1) := by decide +kernel
theorem dX3_letPass_104 : decode cX3_letPass 104 = .ok (.putfield 46, 3) := by decide +kernel
theorem dX3_letPass_107 : decode cX3_letPass 107 = .ok (.return_, 1) := by decide +kernel
theorem dX3_isHeld_0 : decode cX3_isHeld 0 = .ok (.aload_n 0, 1) := by decide +kernel
theorem dX3_isHeld_1 : decode cX3_isHeld 1 = .ok (.getfield 30, 3) := by decide +kernel
theorem dX3_isHeld_4 : decode cX3_isHeld 4 = .ok (.iload_n 1, 1) := by decide +kernel
theorem dX3_isHeld_5 : decode cX3_isHeld 5 = .ok (.iaload, 1) := by decide +kernel
theorem dX3_isHeld_6 : decode cX3_isHeld 6 = .ok (.aload_n 0, 1) := by decide +kernel
theorem dX3_isHeld_7 : decode cX3_isHeld 7 = .ok (.getfield 33, 3) := by decide +kernel
theorem dX3_isHeld_10 : decode cX3_isHeld 10 = .ok (.iload_n 1, 1) := by decide +kernel
theorem dX3_isHeld_11 : decode cX3_isHeld 11 = .ok (.iaload, 1) := by decide +kernel
theorem dX3_isHeld_12 : decode cX3_isHeld 12 = .ok (.ior, 1) := by decide +kernel
theorem dX3_isHeld_13 : decode cX3_isHeld 13 = .ok (.iload_n 2, 1) := by decide +kernel
theorem dX3_isHeld_14 : decode cX3_isHeld 14 = .ok (.ishr, 1) := by decide +kernel
theorem dX3_isHeld_15 : decode cX3_isHeld 15 = .ok (.iconst 1, 1) := by decide +kernel
theorem dX3_isHeld_16 : decode cX3_isHeld 16 = .ok (.iand, 1) := by decide +kernel
theorem dX3_isHeld_17 : decode cX3_isHeld 17 = .ok (.ifCond .eq 7, 3) := by decide +kernel
theorem dX3_isHeld_20 : decode cX3_isHeld 20 = .ok (.iconst 1, 1) := by decide +kernel
theorem dX3_isHeld_21 : decode cX3_isHeld 21 = .ok (.goto 4, 3) := by decide +kernel
theorem dX3_isHeld_24 : decode cX3_isHeld 24 = .ok (.iconst 0, 1) := by decide +kernel
theorem dX3_isHeld_25 : decode cX3_isHeld 25 = .ok (.ireturn, 1) := by decide +kernel
theorem dX3_isHeldOut_0 : decode cX3_isHeldOut 0 = .ok (.aload_n 0, 1) := by decide +kernel
theorem dX3_isHeldOut_1 : decode cX3_isHeldOut 1 = .ok (.getfield 33, 3) := by decide +kernel
theorem dX3_isHeldOut_4 : decode cX3_isHeldOut 4 = .ok (.iload_n 1, 1) := by decide +kernel
theorem dX3_isHeldOut_5 : decode cX3_isHeldOut 5 = .ok (.iaload, 1) := by decide +kernel
theorem dX3_isHeldOut_6 : decode cX3_isHeldOut 6 = .ok (.iload_n 2, 1) := by decide +kernel
theorem dX3_isHeldOut_7 : decode cX3_isHeldOut 7 = .ok (.ishr, 1) := by decide +kernel
theorem dX3_isHeldOut_8 : decode cX3_isHeldOut 8 = .ok (.iconst 1, 1) := by decide +kernel
theorem dX3_isHeldOut_9 : decode cX3_isHeldOut 9 = .ok (.iand, 1) := by decide +kernel
theorem dX3_isHeldOut_10 : decode cX3_isHeldOut 10 = .ok (.ifCond .eq 7, 3) := by decide +kernel
theorem dX3_isHeldOut_13 : decode cX3_isHeldOut 13 = .ok (.iconst 1, 1) := by decide +kernel
theorem dX3_isHeldOut_14 : decode cX3_isHeldOut 14 = .ok (.goto 4, 3) := by decide +kernel
theorem dX3_isHeldOut_17 : decode cX3_isHeldOut 17 = .ok (.iconst 0, 1) := by decide +kernel
theorem dX3_isHeldOut_18 : decode cX3_isHeldOut 18 = .ok (.ireturn, 1) := by decide +kernel
theorem dX3_isSure_0 : decode cX3_isSure 0 = .ok (.iconst 1, 1) := by decide +kernel
theorem dX3_isSure_1 : decode cX3_isSure 1 = .ok (.iload_n 2, 1) := by decide +kernel
theorem dX3_isSure_2 : decode cX3_isSure 2 = .ok (.ishl, 1) := by decide +kernel
theorem dX3_isSure_3 : decode cX3_isSure 3 = .ok (.istore_n 3, 1) := by decide +kernel
theorem dX3_isSure_4 : decode cX3_isSure 4 = .ok (.aload_n 0, 1) := by decide +kernel
theorem dX3_isSure_5 : decode cX3_isSure 5 = .ok (.getfield 33, 3) := by decide +kernel
theorem dX3_isSure_8 : decode cX3_isSure 8 = .ok (.iload_n 1, 1) := by decide +kernel
theorem dX3_isSure_9 : decode cX3_isSure 9 = .ok (.iaload, 1) := by decide +kernel
theorem dX3_isSure_10 : decode cX3_isSure 10 = .ok (.iload_n 3, 1) := by decide +kernel
theorem dX3_isSure_11 : decode cX3_isSure 11 = .ok (.iand, 1) := by decide +kernel
theorem dX3_isSure_12 : decode cX3_isSure 12 = .ok (.ifCond .eq 5, 3) := by decide +kernel
theorem dX3_isSure_15 : decode cX3_isSure 15 = .ok (.iconst 0, 1) := by decide +kernel
theorem dX3_isSure_16 : decode cX3_isSure 16 = .ok (.ireturn, 1) := by decide +kernel
theorem dX3_isSure_17 : decode cX3_isSure 17 = .ok (.aload_n 0, 1) := by decide +kernel
theorem dX3_isSure_18 : decode cX3_isSure 18 = .ok (.getfield 30, 3) := by decide +kernel
theorem dX3_isSure_21 : decode cX3_isSure 21 = .ok (.iload_n 1, 1) := by decide +kernel
theorem dX3_isSure_22 : decode cX3_isSure 22 = .ok (.iaload, 1) := by decide +kernel
theorem dX3_isSure_23 : decode cX3_isSure 23 = .ok (.iload_n 3, 1) := by decide +kernel
theorem dX3_isSure_24 : decode cX3_isSure 24 = .ok (.iand, 1) := by decide +kernel
theorem dX3_isSure_25 : decode cX3_isSure 25 = .ok (.ifCond .ne 19, 3) := by decide +kernel
theorem dX3_isSure_28 : decode cX3_isSure 28 = .ok (.aload_n 0, 1) := by decide +kernel
theorem dX3_isSure_29 : decode cX3_isSure 29 = .ok (.getfield 55, 3) := by decide +kernel
theorem dX3_isSure_32 : decode cX3_isSure 32 = .ok (.aload_n 0, 1) := by decide +kernel
theorem dX3_isSure_33 : decode cX3_isSure 33 = .ok (.getfield 36, 3) := by decide +kernel
theorem dX3_isSure_36 : decode cX3_isSure 36 = .ok (.iload_n 1, 1) := by decide +kernel
theorem dX3_isSure_37 : decode cX3_isSure 37 = .ok (.iaload, 1) := by decide +kernel
theorem dX3_isSure_38 : decode cX3_isSure 38 = .ok (.iand, 1) := by decide +kernel
theorem dX3_isSure_39 : decode cX3_isSure 39 = .ok (.iload_n 3, 1) := by decide +kernel
theorem dX3_isSure_40 : decode cX3_isSure 40 = .ok (.iand, 1) := by decide +kernel
theorem dX3_isSure_41 : decode cX3_isSure 41 = .ok (.ifCond .eq 7, 3) := by decide +kernel
theorem dX3_isSure_44 : decode cX3_isSure 44 = .ok (.iconst 1, 1) := by decide +kernel
theorem dX3_isSure_45 : decode cX3_isSure 45 = .ok (.goto 4, 3) := by decide +kernel
theorem dX3_isSure_48 : decode cX3_isSure 48 = .ok (.iconst 0, 1) := by decide +kernel
theorem dX3_isSure_49 : decode cX3_isSure 49 = .ok (.ireturn, 1) := by decide +kernel
set_option maxRecDepth 20000 in
theorem ggX3_isEating_X3_saltOf : GoodIn wsX3_isEating wsX3_saltOf := goodIn_r _ [5, 6, 7, 8, 9, 10, 11, 34, 35, 36, 37, 38, 39, 40, 41, 42, 43, 44, 45, 46, 47, 48] (by decide +kernel) (by decide +kernel)
set_option maxRecDepth 20000 in
theorem gX3_isEating_X3_saltOf : GoodIn wsX3_isEating (wsV RX3 118 RX3 yX3_saltOf wsX3_saltOf) := goodIn_app (goodIn_of _ (by decide +kernel)) ggX3_isEating_X3_saltOf
set_option maxRecDepth 20000 in
theorem ggX3_isEating_X3_reasonBy : GoodIn wsX3_isEating wsX3_reasonBy := goodIn_r _ [15, 16, 17, 18, 19, 20, 21, 10, 22, 23, 24, 25, 26, 27, 28, 29, 30, 4, 31, 6, 32, 33, 34, 35, 36, 37, 38, 39, 40, 41, 42, 43, 44, 45, 46, 47, 48] (by decide +kernel) (by decide +kernel)
set_option maxRecDepth 20000 in
theorem gX3_isEating_X3_reasonBy : GoodIn wsX3_isEating (wsV RX3 121 RX3 yX3_reasonBy wsX3_reasonBy) := goodIn_app (goodIn_of _ (by decide +kernel)) ggX3_isEating_X3_reasonBy
theorem dX3_isEating_0 : decode cX3_isEating 0 = .ok (.aload_n 0, 1) := by decide +kernel
theorem dX3_isEating_1 : decode cX3_isEating 1 = .ok (.iload_n 1, 1) := by decide +kernel
theorem dX3_isEating_2 : decode cX3_isEating 2 = .ok (.iload_n 2, 1) := by decide +kernel
theorem dX3_isEating_3 : decode cX3_isEating 3 = .ok (.aload_n 0, 1) := by decide +kernel
theorem dX3_isEating_4 : decode cX3_isEating 4 = .ok (.iload_n 2, 1) := by decide +kernel
theorem dX3_isEating_5 : decode cX3_isEating 5 = .ok (.invokevirtual 118, 3) := by decide +kernel
theorem dX3_isEating_8 : decode cX3_isEating 8 = .ok (.invokevirtual 121, 3) := by decide +kernel
theorem dX3_isEating_11 : decode cX3_isEating 11 = .ok (.ifCond .eq 7, 3) := by decide +kernel
theorem dX3_isEating_14 : decode cX3_isEating 14 = .ok (.iconst 1, 1) := by decide +kernel
theorem dX3_isEating_15 : decode cX3_isEating 15 = .ok (.goto 4, 3) := by decide +kernel
theorem dX3_isEating_18 : decode cX3_isEating 18 = .ok (.iconst 0, 1) := by decide +kernel
theorem dX3_isEating_19 : decode cX3_isEating 19 = .ok (.ireturn, 1) := by decide +kernel
set_option maxRecDepth 20000 in
theorem ggX3_reasonBy_X4_bucketBy : GoodIn wsX3_reasonBy wsX4_bucketBy := goodIn_r _ [8, 9, 10, 11, 12, 13] (by decide +kernel) (by decide +kernel)
set_option maxRecDepth 20000 in
theorem gX3_reasonBy_X4_bucketBy_n125 : GoodIn wsX3_reasonBy (wsX4_bucketBy) := ggX3_reasonBy_X4_bucketBy
set_option maxRecDepth 20000 in
theorem ggX3_reasonBy_X3_owns : GoodIn wsX3_reasonBy wsX3_owns := goodIn_r _ [18, 19, 20, 21, 22, 23, 24, 25, 26, 27, 28, 29, 30, 31, 32, 33, 34, 35, 36] (by decide +kernel) (by decide +kernel)
set_option maxRecDepth 20000 in
theorem gX3_reasonBy_X3_owns : GoodIn wsX3_reasonBy (wsV RX3 129 RX3 yX3_owns wsX3_owns) := goodIn_app (goodIn_of _ (by decide +kernel)) ggX3_reasonBy_X3_owns
theorem dX3_reasonBy_0 : decode cX3_reasonBy 0 = .ok (.iconst 1, 1) := by decide +kernel
theorem dX3_reasonBy_1 : decode cX3_reasonBy 1 = .ok (.iload_n 2, 1) := by decide +kernel
theorem dX3_reasonBy_2 : decode cX3_reasonBy 2 = .ok (.ishl, 1) := by decide +kernel
theorem dX3_reasonBy_3 : decode cX3_reasonBy 3 = .ok (.istore 4, 2) := by decide +kernel
theorem dX3_reasonBy_5 : decode cX3_reasonBy 5 = .ok (.aload_n 0, 1) := by decide +kernel
theorem dX3_reasonBy_6 : decode cX3_reasonBy 6 = .ok (.getfield 52, 3) := by decide +kernel
theorem dX3_reasonBy_9 : decode cX3_reasonBy 9 = .ok (.aload_n 0, 1) := by decide +kernel
theorem dX3_reasonBy_10 : decode cX3_reasonBy 10 = .ok (.getfield 33, 3) := by decide +kernel
theorem dX3_reasonBy_13 : decode cX3_reasonBy 13 = .ok (.iload_n 1, 1) := by decide +kernel
theorem dX3_reasonBy_14 : decode cX3_reasonBy 14 = .ok (.iaload, 1) := by decide +kernel
theorem dX3_reasonBy_15 : decode cX3_reasonBy 15 = .ok (.iconst (-1), 1) := by decide +kernel
theorem dX3_reasonBy_16 : decode cX3_reasonBy 16 = .ok (.ixor, 1) := by decide +kernel
theorem dX3_reasonBy_17 : decode cX3_reasonBy 17 = .ok (.iand, 1) := by decide +kernel
theorem dX3_reasonBy_18 : decode cX3_reasonBy 18 = .ok (.iload 4, 2) := by decide +kernel
theorem dX3_reasonBy_20 : decode cX3_reasonBy 20 = .ok (.iand, 1) := by decide +kernel
theorem dX3_reasonBy_21 : decode cX3_reasonBy 21 = .ok (.ifCond .ne 5, 3) := by decide +kernel
theorem dX3_reasonBy_24 : decode cX3_reasonBy 24 = .ok (.iconst 0, 1) := by decide +kernel
theorem dX3_reasonBy_25 : decode cX3_reasonBy 25 = .ok (.ireturn, 1) := by decide +kernel
theorem dX3_reasonBy_26 : decode cX3_reasonBy 26 = .ok (.aload_n 0, 1) := by decide +kernel
theorem dX3_reasonBy_27 : decode cX3_reasonBy 27 = .ok (.getfield 30, 3) := by decide +kernel
theorem dX3_reasonBy_30 : decode cX3_reasonBy 30 = .ok (.iload_n 1, 1) := by decide +kernel
theorem dX3_reasonBy_31 : decode cX3_reasonBy 31 = .ok (.iaload, 1) := by decide +kernel
theorem dX3_reasonBy_32 : decode cX3_reasonBy 32 = .ok (.iload 4, 2) := by decide +kernel
theorem dX3_reasonBy_34 : decode cX3_reasonBy 34 = .ok (.iand, 1) := by decide +kernel
theorem dX3_reasonBy_35 : decode cX3_reasonBy 35 = .ok (.ifCond .eq 5, 3) := by decide +kernel
theorem dX3_reasonBy_38 : decode cX3_reasonBy 38 = .ok (.iconst 1, 1) := by decide +kernel
theorem dX3_reasonBy_39 : decode cX3_reasonBy 39 = .ok (.ireturn, 1) := by decide +kernel
theorem dX3_reasonBy_40 : decode cX3_reasonBy 40 = .ok (.aload_n 0, 1) := by decide +kernel
theorem dX3_reasonBy_41 : decode cX3_reasonBy 41 = .ok (.iload_n 2, 1) := by decide +kernel
theorem dX3_reasonBy_42 : decode cX3_reasonBy 42 = .ok (.iload_n 1, 1) := by decide +kernel
theorem dX3_reasonBy_43 : decode cX3_reasonBy 43 = .ok (.iload_n 3, 1) := by decide +kernel
theorem dX3_reasonBy_44 : decode cX3_reasonBy 44 = .ok (.invokestatic 125, 3) := by decide +kernel
theorem dX3_reasonBy_47 : decode cX3_reasonBy 47 = .ok (.invokevirtual 129, 3) := by decide +kernel
theorem dX3_reasonBy_50 : decode cX3_reasonBy 50 = .ok (.ifCond .eq 5, 3) := by decide +kernel
theorem dX3_reasonBy_53 : decode cX3_reasonBy 53 = .ok (.iconst 3, 1) := by decide +kernel
theorem dX3_reasonBy_54 : decode cX3_reasonBy 54 = .ok (.ireturn, 1) := by decide +kernel
theorem dX3_reasonBy_55 : decode cX3_reasonBy 55 = .ok (.aload_n 0, 1) := by decide +kernel
theorem dX3_reasonBy_56 : decode cX3_reasonBy 56 = .ok (.getfield 55, 3) := by decide +kernel
theorem dX3_reasonBy_59 : decode cX3_reasonBy 59 = .ok (.aload_n 0, 1) := by decide +kernel
theorem dX3_reasonBy_60 : decode cX3_reasonBy 60 = .ok (.getfield 36, 3) := by decide +kernel
theorem dX3_reasonBy_63 : decode cX3_reasonBy 63 = .ok (.iload_n 1, 1) := by decide +kernel
theorem dX3_reasonBy_64 : decode cX3_reasonBy 64 = .ok (.iaload, 1) := by decide +kernel
theorem dX3_reasonBy_65 : decode cX3_reasonBy 65 = .ok (.iand, 1) := by decide +kernel
theorem dX3_reasonBy_66 : decode cX3_reasonBy 66 = .ok (.iload 4, 2) := by decide +kernel
theorem dX3_reasonBy_68 : decode cX3_reasonBy 68 = .ok (.iand, 1) := by decide +kernel
theorem dX3_reasonBy_69 : decode cX3_reasonBy 69 = .ok (.ifCond .eq 7, 3) := by decide +kernel
theorem dX3_reasonBy_72 : decode cX3_reasonBy 72 = .ok (.iconst 2, 1) := by decide +kernel
theorem dX3_reasonBy_73 : decode cX3_reasonBy 73 = .ok (.goto 4, 3) := by decide +kernel
theorem dX3_reasonBy_76 : decode cX3_reasonBy 76 = .ok (.iconst 0, 1) := by decide +kernel
theorem dX3_reasonBy_77 : decode cX3_reasonBy 77 = .ok (.ireturn, 1) := by decide +kernel
set_option maxRecDepth 20000 in
theorem ggX3_breadsEatenBy_X3_saltOf : GoodIn wsX3_breadsEatenBy wsX3_saltOf := goodIn_r _ [5, 6, 7, 8, 9, 10, 11, 34, 35, 36, 37, 38, 39, 40, 41, 42, 43, 44, 45, 46, 47, 48] (by decide +kernel) (by decide +kernel)
set_option maxRecDepth 20000 in
theorem gX3_breadsEatenBy_X3_saltOf : GoodIn wsX3_breadsEatenBy (wsV RX3 118 RX3 yX3_saltOf wsX3_saltOf) := goodIn_app (goodIn_of _ (by decide +kernel)) ggX3_breadsEatenBy_X3_saltOf
set_option maxRecDepth 20000 in
theorem ggX3_breadsEatenBy_X3_reasonBy : GoodIn wsX3_breadsEatenBy wsX3_reasonBy := goodIn_r _ [15, 16, 17, 18, 19, 20, 21, 10, 22, 23, 24, 25, 26, 27, 28, 29, 30, 4, 31, 6, 32, 33, 34, 35, 36, 37, 38, 39, 40, 41, 42, 43, 44, 45, 46, 47, 48] (by decide +kernel) (by decide +kernel)
set_option maxRecDepth 20000 in
theorem gX3_breadsEatenBy_X3_reasonBy : GoodIn wsX3_breadsEatenBy (wsV RX3 121 RX3 yX3_reasonBy wsX3_reasonBy) := goodIn_app (goodIn_of _ (by decide +kernel)) ggX3_breadsEatenBy_X3_reasonBy
theorem dX3_breadsEatenBy_0 : decode cX3_breadsEatenBy 0 = .ok (.iconst 0, 1) := by decide +kernel
theorem dX3_breadsEatenBy_1 : decode cX3_breadsEatenBy 1 = .ok (.istore_n 2, 1) := by decide +kernel
theorem dX3_breadsEatenBy_2 : decode cX3_breadsEatenBy 2 = .ok (.iconst 0, 1) := by decide +kernel
theorem dX3_breadsEatenBy_3 : decode cX3_breadsEatenBy 3 = .ok (.istore_n 3, 1) := by decide +kernel
theorem dX3_breadsEatenBy_4 : decode cX3_breadsEatenBy 4 = .ok (.iload_n 3, 1) := by decide +kernel
theorem dX3_breadsEatenBy_5 : decode cX3_breadsEatenBy 5 = .ok (.bipush 8, 2) := by decide +kernel
theorem dX3_breadsEatenBy_7 : decode cX3_breadsEatenBy 7 = .ok (.if_icmp .ge 29, 3) := by decide +kernel
theorem dX3_breadsEatenBy_10 : decode cX3_breadsEatenBy 10 = .ok (.aload_n 0, 1) := by decide +kernel
theorem dX3_breadsEatenBy_11 : decode cX3_breadsEatenBy 11 = .ok (.iload_n 1, 1) := by decide +kernel
theorem dX3_breadsEatenBy_12 : decode cX3_breadsEatenBy 12 = .ok (.iload_n 3, 1) := by decide +kernel
theorem dX3_breadsEatenBy_13 : decode cX3_breadsEatenBy 13 = .ok (.aload_n 0, 1) := by decide +kernel
theorem dX3_breadsEatenBy_14 : decode cX3_breadsEatenBy 14 = .ok (.iload_n 3, 1) := by decide +kernel
theorem dX3_breadsEatenBy_15 : decode cX3_breadsEatenBy 15 = .ok (.invokevirtual 118, 3) := by decide +kernel
theorem dX3_breadsEatenBy_18 : decode cX3_breadsEatenBy 18 = .ok (.invokevirtual 121, 3) := by decide +kernel
theorem dX3_breadsEatenBy_21 : decode cX3_breadsEatenBy 21 = .ok (.ifCond .eq 9, 3) := by decide +kernel
theorem dX3_breadsEatenBy_24 : decode cX3_breadsEatenBy 24 = .ok (.iload_n 2, 1) := by decide +kernel
theorem dX3_breadsEatenBy_25 : decode cX3_breadsEatenBy 25 = .ok (.iconst 1, 1) := by decide +kernel
theorem dX3_breadsEatenBy_26 : decode cX3_breadsEatenBy 26 = .ok (.iload_n 3, 1) := by decide +kernel
theorem dX3_breadsEatenBy_27 : decode cX3_breadsEatenBy 27 = .ok (.ishl, 1) := by decide +kernel
theorem dX3_breadsEatenBy_28 : decode cX3_breadsEatenBy 28 = .ok (.ior, 1) := by decide +kernel
theorem dX3_breadsEatenBy_29 : decode cX3_breadsEatenBy 29 = .ok (.istore_n 2, 1) := by decide +kernel
theorem dX3_breadsEatenBy_30 : decode cX3_breadsEatenBy 30 = .ok (.iinc 3 1, 3) := by decide +kernel
theorem dX3_breadsEatenBy_33 : decode cX3_breadsEatenBy 33 = .ok (.goto (-29), 3) := by decide +kernel
theorem dX3_breadsEatenBy_36 : decode cX3_breadsEatenBy 36 = .ok (.iload_n 2, 1) := by decide +kernel
theorem dX3_breadsEatenBy_37 : decode cX3_breadsEatenBy 37 = .ok (.ireturn, 1) := by decide +kernel
set_option maxRecDepth 20000 in
theorem ggX3_eaters_X3_saltOf : GoodIn wsX3_eaters wsX3_saltOf := goodIn_r _ [5, 6, 7, 8, 9, 10, 11, 38, 39, 40, 41, 42, 43, 44, 45, 46, 47, 48, 49, 50, 51, 52] (by decide +kernel) (by decide +kernel)
set_option maxRecDepth 20000 in
theorem gX3_eaters_X3_saltOf : GoodIn wsX3_eaters (wsV RX3 118 RX3 yX3_saltOf wsX3_saltOf) := goodIn_app (goodIn_of _ (by decide +kernel)) ggX3_eaters_X3_saltOf
set_option maxRecDepth 20000 in
theorem ggX3_eaters_X3_eatersBy : GoodIn wsX3_eaters wsX3_eatersBy := goodIn_r _ [15, 16, 17, 18, 4, 19, 20, 21, 22, 23, 24, 25, 10, 26, 27, 28, 29, 30, 31, 32, 33, 34, 35, 6, 36, 37, 38, 39, 40, 41, 42, 43, 44, 45, 46, 47, 48, 49, 50, 51, 52] (by decide +kernel) (by decide +kernel)
set_option maxRecDepth 20000 in
theorem gX3_eaters_X3_eatersBy : GoodIn wsX3_eaters (wsV RX3 132 RX3 yX3_eatersBy wsX3_eatersBy) := goodIn_app (goodIn_of _ (by decide +kernel)) ggX3_eaters_X3_eatersBy
theorem dX3_eaters_0 : decode cX3_eaters 0 = .ok (.aload_n 0, 1) := by decide +kernel
theorem dX3_eaters_1 : decode cX3_eaters 1 = .ok (.iload_n 1, 1) := by decide +kernel
theorem dX3_eaters_2 : decode cX3_eaters 2 = .ok (.aload_n 0, 1) := by decide +kernel
theorem dX3_eaters_3 : decode cX3_eaters 3 = .ok (.iload_n 1, 1) := by decide +kernel
theorem dX3_eaters_4 : decode cX3_eaters 4 = .ok (.invokevirtual 118, 3) := by decide +kernel
theorem dX3_eaters_7 : decode cX3_eaters 7 = .ok (.invokevirtual 132, 3) := by decide +kernel
theorem dX3_eaters_10 : decode cX3_eaters 10 = .ok (.ireturn, 1) := by decide +kernel
set_option maxRecDepth 20000 in
theorem ggX3_eatersBy_X3_reasonBy : GoodIn wsX3_eatersBy wsX3_reasonBy := goodIn_r _ [5, 6, 7, 8, 9, 10, 11, 12, 13, 14, 15, 16, 17, 18, 19, 20, 21, 4, 22, 23, 24, 25, 26, 27, 28, 29, 30, 31, 32, 33, 34, 35, 36, 37, 38, 39, 40] (by decide +kernel) (by decide +kernel)
set_option maxRecDepth 20000 in
theorem gX3_eatersBy_X3_reasonBy : GoodIn wsX3_eatersBy (wsV RX3 121 RX3 yX3_reasonBy wsX3_reasonBy) := goodIn_app (goodIn_of _ (by decide +kernel)) ggX3_eatersBy_X3_reasonBy
theorem dX3_eatersBy_0 : decode cX3_eatersBy 0 = .ok (.iconst 0, 1) := by decide +kernel
theorem dX3_eatersBy_1 : decode cX3_eatersBy 1 = .ok (.istore_n 3, 1) := by decide +kernel
theorem dX3_eatersBy_2 : decode cX3_eatersBy 2 = .ok (.iconst 0, 1) := by decide +kernel
theorem dX3_eatersBy_3 : decode cX3_eatersBy 3 = .ok (.istore 4, 2) := by decide +kernel
theorem dX3_eatersBy_5 : decode cX3_eatersBy 5 = .ok (.iload 4, 2) := by decide +kernel
theorem dX3_eatersBy_7 : decode cX3_eatersBy 7 = .ok (.sipush 150, 3) := by decide +kernel
theorem dX3_eatersBy_10 : decode cX3_eatersBy 10 = .ok (.if_icmp .ge 23, 3) := by decide +kernel
theorem dX3_eatersBy_13 : decode cX3_eatersBy 13 = .ok (.aload_n 0, 1) := by decide +kernel
theorem dX3_eatersBy_14 : decode cX3_eatersBy 14 = .ok (.iload 4, 2) := by decide +kernel
theorem dX3_eatersBy_16 : decode cX3_eatersBy 16 = .ok (.iload_n 1, 1) := by decide +kernel
theorem dX3_eatersBy_17 : decode cX3_eatersBy 17 = .ok (.iload_n 2, 1) := by decide +kernel
theorem dX3_eatersBy_18 : decode cX3_eatersBy 18 = .ok (.invokevirtual 121, 3) := by decide +kernel
theorem dX3_eatersBy_21 : decode cX3_eatersBy 21 = .ok (.ifCond .eq 6, 3) := by decide +kernel
theorem dX3_eatersBy_24 : decode cX3_eatersBy 24 = .ok (.iinc 3 1, 3) := by decide +kernel
theorem dX3_eatersBy_27 : decode cX3_eatersBy 27 = .ok (.iinc 4 1, 3) := by decide +kernel
theorem dX3_eatersBy_30 : decode cX3_eatersBy 30 = .ok (.goto (-25), 3) := by decide +kernel
theorem dX3_eatersBy_33 : decode cX3_eatersBy 33 = .ok (.iload_n 3, 1) := by decide +kernel
theorem dX3_eatersBy_34 : decode cX3_eatersBy 34 = .ok (.ireturn, 1) := by decide +kernel
set_option maxRecDepth 20000 in
theorem ggX3_changedBySalt_X3_reasonBy : GoodIn wsX3_changedBySalt wsX3_reasonBy := goodIn_r _ [5, 6, 7, 8, 9, 10, 11, 12, 13, 14, 15, 16, 17, 18, 19, 20, 21, 4, 22, 23, 24, 25, 38, 39, 40, 41, 42, 43, 44, 45, 46, 47, 48, 49, 50, 51, 52] (by decide +kernel) (by decide +kernel)
set_option maxRecDepth 20000 in
theorem gX3_changedBySalt_X3_reasonBy : GoodIn wsX3_changedBySalt (wsV RX3 121 RX3 yX3_reasonBy wsX3_reasonBy) := goodIn_app (goodIn_of _ (by decide +kernel)) ggX3_changedBySalt_X3_reasonBy
set_option maxRecDepth 20000 in
theorem ggX3_changedBySalt_X3_isEating : GoodIn wsX3_changedBySalt wsX3_isEating := goodIn_r _ [29, 30, 31, 32, 4, 33, 23, 34, 35, 36, 12, 37, 1, 2, 3, 5, 6, 7, 8, 9, 10, 11, 13, 14, 15, 16, 17, 18, 19, 20, 21, 22, 24, 25, 38, 39, 40, 41, 42, 43, 44, 45, 46, 47, 48, 49, 50, 51, 52] (by decide +kernel) (by decide +kernel)
set_option maxRecDepth 20000 in
theorem gX3_changedBySalt_X3_isEating : GoodIn wsX3_changedBySalt (wsV RX3 135 RX3 yX3_isEating wsX3_isEating) := goodIn_app (goodIn_of _ (by decide +kernel)) ggX3_changedBySalt_X3_isEating
theorem dX3_changedBySalt_0 : decode cX3_changedBySalt 0 = .ok (.iconst 0, 1) := by decide +kernel
theorem dX3_changedBySalt_1 : decode cX3_changedBySalt 1 = .ok (.istore_n 3, 1) := by decide +kernel
theorem dX3_changedBySalt_2 : decode cX3_changedBySalt 2 = .ok (.iconst 0, 1) := by decide +kernel
theorem dX3_changedBySalt_3 : decode cX3_changedBySalt 3 = .ok (.istore 4, 2) := by decide +kernel
theorem dX3_changedBySalt_5 : decode cX3_changedBySalt 5 = .ok (.iload 4, 2) := by decide +kernel
theorem dX3_changedBySalt_7 : decode cX3_changedBySalt 7 = .ok (.sipush 150, 3) := by decide +kernel
theorem dX3_changedBySalt_10 : decode cX3_changedBySalt 10 = .ok (.if_icmp .ge 42, 3) := by decide +kernel
theorem dX3_changedBySalt_13 : decode cX3_changedBySalt 13 = .ok (.aload_n 0, 1) := by decide +kernel
theorem dX3_changedBySalt_14 : decode cX3_changedBySalt 14 = .ok (.iload 4, 2) := by decide +kernel
theorem dX3_changedBySalt_16 : decode cX3_changedBySalt 16 = .ok (.iload_n 1, 1) := by decide +kernel
theorem dX3_changedBySalt_17 : decode cX3_changedBySalt 17 = .ok (.iload_n 2, 1) := by decide +kernel
theorem dX3_changedBySalt_18 : decode cX3_changedBySalt 18 = .ok (.invokevirtual 121, 3) := by decide +kernel
theorem dX3_changedBySalt_21 : decode cX3_changedBySalt 21 = .ok (.ifCond .eq 7, 3) := by decide +kernel
theorem dX3_changedBySalt_24 : decode cX3_changedBySalt 24 = .ok (.iconst 1, 1) := by decide +kernel
theorem dX3_changedBySalt_25 : decode cX3_changedBySalt 25 = .ok (.goto 4, 3) := by decide +kernel
theorem dX3_changedBySalt_28 : decode cX3_changedBySalt 28 = .ok (.iconst 0, 1) := by decide +kernel
theorem dX3_changedBySalt_29 : decode cX3_changedBySalt 29 = .ok (.istore 5, 2) := by decide +kernel
theorem dX3_changedBySalt_31 : decode cX3_changedBySalt 31 = .ok (.aload_n 0, 1) := by decide +kernel
theorem dX3_changedBySalt_32 : decode cX3_changedBySalt 32 = .ok (.iload 4, 2) := by decide +kernel
theorem dX3_changedBySalt_34 : decode cX3_changedBySalt 34 = .ok (.iload_n 1, 1) := by decide +kernel
theorem dX3_changedBySalt_35 : decode cX3_changedBySalt 35 = .ok (.invokevirtual 135, 3) := by decide +kernel
theorem dX3_changedBySalt_38 : decode cX3_changedBySalt 38 = .ok (.iload 5, 2) := by decide +kernel
theorem dX3_changedBySalt_40 : decode cX3_changedBySalt 40 = .ok (.if_icmp .eq 6, 3) := by decide +kernel
theorem dX3_changedBySalt_43 : decode cX3_changedBySalt 43 = .ok (.iinc 3 1, 3) := by decide +kernel
theorem dX3_changedBySalt_46 : decode cX3_changedBySalt 46 = .ok (.iinc 4 1, 3) := by decide +kernel
theorem dX3_changedBySalt_49 : decode cX3_changedBySalt 49 = .ok (.goto (-44), 3) := by decide +kernel
theorem dX3_changedBySalt_52 : decode cX3_changedBySalt 52 = .ok (.iload_n 3, 1) := by decide +kernel
theorem dX3_changedBySalt_53 : decode cX3_changedBySalt 53 = .ok (.ireturn, 1) := by decide +kernel
set_option maxRecDepth 20000 in
theorem ggX3_breadProperty_X3_saltOf : GoodIn wsX3_breadProperty wsX3_saltOf := goodIn_r _ [13, 2, 14, 15, 16, 17, 18, 55, 56, 57, 58, 59, 60, 61, 62, 63, 64, 65, 66, 67, 68, 69] (by decide +kernel) (by decide +kernel)
set_option maxRecDepth 20000 in
theorem gX3_breadProperty_X3_saltOf : GoodIn wsX3_breadProperty (wsV RX3 118 RX3 yX3_saltOf wsX3_saltOf) := goodIn_app (goodIn_of _ (by decide +kernel)) ggX3_breadProperty_X3_saltOf
set_option maxRecDepth 20000 in
theorem ggX3_breadProperty_X3_eaters : GoodIn wsX3_breadProperty wsX3_eaters := goodIn_r _ [22, 9, 10, 11, 12, 13, 2, 14, 15, 16, 17, 18, 23, 24, 25, 26, 27, 28, 29, 30, 1, 8, 7, 4, 5, 31, 32, 33, 34, 35, 36, 37, 38, 39, 40, 41, 42, 3, 55, 56, 57, 58, 59, 60, 61, 62, 63, 64, 65, 66, 67, 68, 69] (by decide +kernel) (by decide +kernel)
set_option maxRecDepth 20000 in
theorem gX3_breadProperty_X3_eaters : GoodIn wsX3_breadProperty (wsV RX3 138 RX3 yX3_eaters wsX3_eaters) := goodIn_app (goodIn_of _ (by decide +kernel)) ggX3_breadProperty_X3_eaters
set_option maxRecDepth 20000 in
theorem ggX3_breadProperty_X3_personsWith : GoodIn wsX3_breadProperty wsX3_personsWith := goodIn_r _ [46] (by decide +kernel) (by decide +kernel)
set_option maxRecDepth 20000 in
theorem gX3_breadProperty_X3_personsWith : GoodIn wsX3_breadProperty (wsV RX3 141 RX3 yX3_personsWith wsX3_personsWith) := goodIn_app (goodIn_of _ (by decide +kernel)) ggX3_breadProperty_X3_personsWith
set_option maxRecDepth 20000 in
theorem ggX3_breadProperty_X3_lowestBucket : GoodIn wsX3_breadProperty wsX3_lowestBucket := goodIn_r _ [50, 38, 39, 40, 12, 41, 2, 42, 3, 55, 56, 57, 58, 59, 60, 61, 62, 63, 64, 65, 66, 67, 68, 69] (by decide +kernel) (by decide +kernel)
set_option maxRecDepth 20000 in
theorem gX3_breadProperty_X3_lowestBucket : GoodIn wsX3_breadProperty (wsV RX3 145 RX3 yX3_lowestBucket wsX3_lowestBucket) := goodIn_app (goodIn_of _ (by decide +kernel)) ggX3_breadProperty_X3_lowestBucket
set_option maxRecDepth 20000 in
theorem ggX3_breadProperty_X3_highestBucket : GoodIn wsX3_breadProperty wsX3_highestBucket := goodIn_r _ [54, 38, 39, 40, 12, 41, 2, 42, 3, 55, 56, 57, 58, 59, 60, 61, 62, 63, 64, 65, 66, 67, 68, 69] (by decide +kernel) (by decide +kernel)
set_option maxRecDepth 20000 in
theorem gX3_breadProperty_X3_highestBucket : GoodIn wsX3_breadProperty (wsV RX3 148 RX3 yX3_highestBucket wsX3_highestBucket) := goodIn_app (goodIn_of _ (by decide +kernel)) ggX3_breadProperty_X3_highestBucket
theorem dX3_breadProperty_0 : decode cX3_breadProperty 0 = .ok (.iload_n 2, 1) := by decide +kernel
theorem dX3_breadProperty_1 : decode cX3_breadProperty 1 = .ok (.tableswitch 146 0 10 #[59, 68, 75, 81, 88, 97, 103, 113, 120, 130, 140], 59) := by decide +kernel
theorem dX3_breadProperty_60 : decode cX3_breadProperty 60 = .ok (.aload_n 0, 1) := by decide +kernel
theorem dX3_breadProperty_61 : decode cX3_breadProperty 61 = .ok (.getfield 52, 3) := by decide +kernel
theorem dX3_breadProperty_64 : decode cX3_breadProperty 64 = .ok (.iload_n 1, 1) := by decide +kernel
theorem dX3_breadProperty_65 : decode cX3_breadProperty 65 = .ok (.ishr, 1) := by decide +kernel
theorem dX3_breadProperty_66 : decode cX3_breadProperty 66 = .ok (.iconst 1, 1) := by decide +kernel
theorem dX3_breadProperty_67 : decode cX3_breadProperty 67 = .ok (.iand, 1) := by decide +kernel
theorem dX3_breadProperty_68 : decode cX3_breadProperty 68 = .ok (.ireturn, 1) := by decide +kernel
theorem dX3_breadProperty_69 : decode cX3_breadProperty 69 = .ok (.aload_n 0, 1) := by decide +kernel
theorem dX3_breadProperty_70 : decode cX3_breadProperty 70 = .ok (.getfield 9, 3) := by decide +kernel
theorem dX3_breadProperty_73 : decode cX3_breadProperty 73 = .ok (.iload_n 1, 1) := by decide +kernel
theorem dX3_breadProperty_74 : decode cX3_breadProperty 74 = .ok (.iaload, 1) := by decide +kernel
theorem dX3_breadProperty_75 : decode cX3_breadProperty 75 = .ok (.ireturn, 1) := by decide +kernel
theorem dX3_breadProperty_76 : decode cX3_breadProperty 76 = .ok (.aload_n 0, 1) := by decide +kernel
theorem dX3_breadProperty_77 : decode cX3_breadProperty 77 = .ok (.iload_n 1, 1) := by decide +kernel
theorem dX3_breadProperty_78 : decode cX3_breadProperty 78 = .ok (.invokevirtual 118, 3) := by decide +kernel
theorem dX3_breadProperty_81 : decode cX3_breadProperty 81 = .ok (.ireturn, 1) := by decide +kernel
theorem dX3_breadProperty_82 : decode cX3_breadProperty 82 = .ok (.aload_n 0, 1) := by decide +kernel
theorem dX3_breadProperty_83 : decode cX3_breadProperty 83 = .ok (.getfield 18, 3) := by decide +kernel
theorem dX3_breadProperty_86 : decode cX3_breadProperty 86 = .ok (.iload_n 1, 1) := by decide +kernel
theorem dX3_breadProperty_87 : decode cX3_breadProperty 87 = .ok (.iaload, 1) := by decide +kernel
theorem dX3_breadProperty_88 : decode cX3_breadProperty 88 = .ok (.ireturn, 1) := by decide +kernel
theorem dX3_breadProperty_89 : decode cX3_breadProperty 89 = .ok (.aload_n 0, 1) := by decide +kernel
theorem dX3_breadProperty_90 : decode cX3_breadProperty 90 = .ok (.getfield 55, 3) := by decide +kernel
theorem dX3_breadProperty_93 : decode cX3_breadProperty 93 = .ok (.iload_n 1, 1) := by decide +kernel
theorem dX3_breadProperty_94 : decode cX3_breadProperty 94 = .ok (.ishr, 1) := by decide +kernel
theorem dX3_breadProperty_95 : decode cX3_breadProperty 95 = .ok (.iconst 1, 1) := by decide +kernel
theorem dX3_breadProperty_96 : decode cX3_breadProperty 96 = .ok (.iand, 1) := by decide +kernel
theorem dX3_breadProperty_97 : decode cX3_breadProperty 97 = .ok (.ireturn, 1) := by decide +kernel
theorem dX3_breadProperty_98 : decode cX3_breadProperty 98 = .ok (.aload_n 0, 1) := by decide +kernel
theorem dX3_breadProperty_99 : decode cX3_breadProperty 99 = .ok (.iload_n 1, 1) := by decide +kernel
theorem dX3_breadProperty_100 : decode cX3_breadProperty 100 = .ok (.invokevirtual 138, 3) := by decide +kernel
theorem dX3_breadProperty_103 : decode cX3_breadProperty 103 = .ok (.ireturn, 1) := by decide +kernel
theorem dX3_breadProperty_104 : decode cX3_breadProperty 104 = .ok (.aload_n 0, 1) := by decide +kernel
theorem dX3_breadProperty_105 : decode cX3_breadProperty 105 = .ok (.aload_n 0, 1) := by decide +kernel
theorem dX3_breadProperty_106 : decode cX3_breadProperty 106 = .ok (.getfield 36, 3) := by decide +kernel
theorem dX3_breadProperty_109 : decode cX3_breadProperty 109 = .ok (.iload_n 1, 1) := by decide +kernel
theorem dX3_breadProperty_110 : decode cX3_breadProperty 110 = .ok (.invokevirtual 141, 3) := by decide +kernel
theorem dX3_breadProperty_113 : decode cX3_breadProperty 113 = .ok (.ireturn, 1) := by decide +kernel
theorem dX3_breadProperty_114 : decode cX3_breadProperty 114 = .ok (.aload_n 0, 1) := by decide +kernel
theorem dX3_breadProperty_115 : decode cX3_breadProperty 115 = .ok (.getfield 21, 3) := by decide +kernel
theorem dX3_breadProperty_118 : decode cX3_breadProperty 118 = .ok (.iload_n 1, 1) := by decide +kernel
theorem dX3_breadProperty_119 : decode cX3_breadProperty 119 = .ok (.iaload, 1) := by decide +kernel
theorem dX3_breadProperty_120 : decode cX3_breadProperty 120 = .ok (.ireturn, 1) := by decide +kernel
theorem dX3_breadProperty_121 : decode cX3_breadProperty 121 = .ok (.aload_n 0, 1) := by decide +kernel
theorem dX3_breadProperty_122 : decode cX3_breadProperty 122 = .ok (.aload_n 0, 1) := by decide +kernel
theorem dX3_breadProperty_123 : decode cX3_breadProperty 123 = .ok (.getfield 30, 3) := by decide +kernel
theorem dX3_breadProperty_126 : decode cX3_breadProperty 126 = .ok (.iload_n 1, 1) := by decide +kernel
theorem dX3_breadProperty_127 : decode cX3_breadProperty 127 = .ok (.invokevirtual 141, 3) := by decide +kernel
theorem dX3_breadProperty_130 : decode cX3_breadProperty 130 = .ok (.ireturn, 1) := by decide +kernel
theorem dX3_breadProperty_131 : decode cX3_breadProperty 131 = .ok (.aload_n 0, 1) := by decide +kernel
theorem dX3_breadProperty_132 : decode cX3_breadProperty 132 = .ok (.aload_n 0, 1) := by decide +kernel
theorem dX3_breadProperty_133 : decode cX3_breadProperty 133 = .ok (.getfield 33, 3) := by decide +kernel
theorem dX3_breadProperty_136 : decode cX3_breadProperty 136 = .ok (.iload_n 1, 1) := by decide +kernel
theorem dX3_breadProperty_137 : decode cX3_breadProperty 137 = .ok (.invokevirtual 141, 3) := by decide +kernel
theorem dX3_breadProperty_140 : decode cX3_breadProperty 140 = .ok (.ireturn, 1) := by decide +kernel
theorem dX3_breadProperty_141 : decode cX3_breadProperty 141 = .ok (.aload_n 0, 1) := by decide +kernel
theorem dX3_breadProperty_142 : decode cX3_breadProperty 142 = .ok (.iload_n 1, 1) := by decide +kernel
theorem dX3_breadProperty_143 : decode cX3_breadProperty 143 = .ok (.invokevirtual 145, 3) := by decide +kernel
theorem dX3_breadProperty_146 : decode cX3_breadProperty 146 = .ok (.ireturn, 1) := by decide +kernel
theorem dX3_breadProperty_147 : decode cX3_breadProperty 147 = .ok (.aload_n 0, 1) := by decide +kernel
theorem dX3_breadProperty_148 : decode cX3_breadProperty 148 = .ok (.iload_n 1, 1) := by decide +kernel
theorem dX3_breadProperty_149 : decode cX3_breadProperty 149 = .ok (.invokevirtual 148, 3) := by decide +kernel
theorem dX3_breadProperty_152 : decode cX3_breadProperty 152 = .ok (.ireturn, 1) := by decide +kernel
theorem dX3_personsWith_0 : decode cX3_personsWith 0 = .ok (.iconst 0, 1) := by decide +kernel
theorem dX3_personsWith_1 : decode cX3_personsWith 1 = .ok (.istore_n 3, 1) := by decide +kernel
theorem dX3_personsWith_2 : decode cX3_personsWith 2 = .ok (.iconst 0, 1) := by decide +kernel
theorem dX3_personsWith_3 : decode cX3_personsWith 3 = .ok (.istore 4, 2) := by decide +kernel
theorem dX3_personsWith_5 : decode cX3_personsWith 5 = .ok (.iload 4, 2) := by decide +kernel
theorem dX3_personsWith_7 : decode cX3_personsWith 7 = .ok (.aload_n 1, 1) := by decide +kernel
theorem dX3_personsWith_8 : decode cX3_personsWith 8 = .ok (.arraylength, 1) := by decide +kernel
theorem dX3_personsWith_9 : decode cX3_personsWith 9 = .ok (.if_icmp .ge 20, 3) := by decide +kernel
theorem dX3_personsWith_12 : decode cX3_personsWith 12 = .ok (.iload_n 3, 1) := by decide +kernel
theorem dX3_personsWith_13 : decode cX3_personsWith 13 = .ok (.aload_n 1, 1) := by decide +kernel
theorem dX3_personsWith_14 : decode cX3_personsWith 14 = .ok (.iload 4, 2) := by decide +kernel
theorem dX3_personsWith_16 : decode cX3_personsWith 16 = .ok (.iaload, 1) := by decide +kernel
theorem dX3_personsWith_17 : decode cX3_personsWith 17 = .ok (.iload_n 2, 1) := by decide +kernel
theorem dX3_personsWith_18 : decode cX3_personsWith 18 = .ok (.ishr, 1) := by decide +kernel
theorem dX3_personsWith_19 : decode cX3_personsWith 19 = .ok (.iconst 1, 1) := by decide +kernel
theorem dX3_personsWith_20 : decode cX3_personsWith 20 = .ok (.iand, 1) := by decide +kernel
theorem dX3_personsWith_21 : decode cX3_personsWith 21 = .ok (.iadd, 1) := by decide +kernel
theorem dX3_personsWith_22 : decode cX3_personsWith 22 = .ok (.istore_n 3, 1) := by decide +kernel
theorem dX3_personsWith_23 : decode cX3_personsWith 23 = .ok (.iinc 4 1, 3) := by decide +kernel
theorem dX3_personsWith_26 : decode cX3_personsWith 26 = .ok (.goto (-21), 3) := by decide +kernel
theorem dX3_personsWith_29 : decode cX3_personsWith 29 = .ok (.iload_n 3, 1) := by decide +kernel
theorem dX3_personsWith_30 : decode cX3_personsWith 30 = .ok (.ireturn, 1) := by decide +kernel
set_option maxRecDepth 20000 in
theorem ggX3_lowestBucket_X3_owns : GoodIn wsX3_lowestBucket wsX3_owns := goodIn_r _ [5, 6, 7, 8, 9, 10, 11, 12, 13, 14, 15, 16, 17, 18, 19, 20, 21, 22, 23] (by decide +kernel) (by decide +kernel)
set_option maxRecDepth 20000 in
theorem gX3_lowestBucket_X3_owns : GoodIn wsX3_lowestBucket (wsV RX3 129 RX3 yX3_owns wsX3_owns) := goodIn_app (goodIn_of _ (by decide +kernel)) ggX3_lowestBucket_X3_owns
theorem dX3_lowestBucket_0 : decode cX3_lowestBucket 0 = .ok (.iconst 0, 1) := by decide +kernel
theorem dX3_lowestBucket_1 : decode cX3_lowestBucket 1 = .ok (.istore_n 2, 1) := by decide +kernel
theorem dX3_lowestBucket_2 : decode cX3_lowestBucket 2 = .ok (.iload_n 2, 1) := by decide +kernel
theorem dX3_lowestBucket_3 : decode cX3_lowestBucket 3 = .ok (.bipush 100, 2) := by decide +kernel
theorem dX3_lowestBucket_5 : decode cX3_lowestBucket 5 = .ok (.if_icmp .ge 20, 3) := by decide +kernel
theorem dX3_lowestBucket_8 : decode cX3_lowestBucket 8 = .ok (.aload_n 0, 1) := by decide +kernel
theorem dX3_lowestBucket_9 : decode cX3_lowestBucket 9 = .ok (.iload_n 1, 1) := by decide +kernel
theorem dX3_lowestBucket_10 : decode cX3_lowestBucket 10 = .ok (.iload_n 2, 1) := by decide +kernel
theorem dX3_lowestBucket_11 : decode cX3_lowestBucket 11 = .ok (.invokevirtual 129, 3) := by decide +kernel
theorem dX3_lowestBucket_14 : decode cX3_lowestBucket 14 = .ok (.ifCond .eq 5, 3) := by decide +kernel
theorem dX3_lowestBucket_17 : decode cX3_lowestBucket 17 = .ok (.iload_n 2, 1) := by decide +kernel
theorem dX3_lowestBucket_18 : decode cX3_lowestBucket 18 = .ok (.ireturn, 1) := by decide +kernel
theorem dX3_lowestBucket_19 : decode cX3_lowestBucket 19 = .ok (.iinc 2 1, 3) := by decide +kernel
theorem dX3_lowestBucket_22 : decode cX3_lowestBucket 22 = .ok (.goto (-20), 3) := by decide +kernel
theorem dX3_lowestBucket_25 : decode cX3_lowestBucket 25 = .ok (.iconst (-1), 1) := by decide +kernel
theorem dX3_lowestBucket_26 : decode cX3_lowestBucket 26 = .ok (.ireturn, 1) := by decide +kernel
set_option maxRecDepth 20000 in
theorem ggX3_highestBucket_X3_owns : GoodIn wsX3_highestBucket wsX3_owns := goodIn_r _ [5, 6, 7, 8, 9, 10, 11, 12, 13, 14, 15, 16, 17, 18, 19, 20, 21, 22, 23] (by decide +kernel) (by decide +kernel)
set_option maxRecDepth 20000 in
theorem gX3_highestBucket_X3_owns : GoodIn wsX3_highestBucket (wsV RX3 129 RX3 yX3_owns wsX3_owns) := goodIn_app (goodIn_of _ (by decide +kernel)) ggX3_highestBucket_X3_owns
theorem dX3_highestBucket_0 : decode cX3_highestBucket 0 = .ok (.bipush 99, 2) := by decide +kernel
theorem dX3_highestBucket_2 : decode cX3_highestBucket 2 = .ok (.istore_n 2, 1) := by decide +kernel
theorem dX3_highestBucket_3 : decode cX3_highestBucket 3 = .ok (.iload_n 2, 1) := by decide +kernel
theorem dX3_highestBucket_4 : decode cX3_highestBucket 4 = .ok (.ifCond .lt 20, 3) := by decide +kernel
theorem dX3_highestBucket_7 : decode cX3_highestBucket 7 = .ok (.aload_n 0, 1) := by decide +kernel
theorem dX3_highestBucket_8 : decode cX3_highestBucket 8 = .ok (.iload_n 1, 1) := by decide +kernel
theorem dX3_highestBucket_9 : decode cX3_highestBucket 9 = .ok (.iload_n 2, 1) := by decide +kernel
theorem dX3_highestBucket_10 : decode cX3_highestBucket 10 = .ok (.invokevirtual 129, 3) := by decide +kernel
theorem dX3_highestBucket_13 : decode cX3_highestBucket 13 = .ok (.ifCond .eq 5, 3) := by decide +kernel
theorem dX3_highestBucket_16 : decode cX3_highestBucket 16 = .ok (.iload_n 2, 1) := by decide +kernel
theorem dX3_highestBucket_17 : decode cX3_highestBucket 17 = .ok (.ireturn, 1) := by decide +kernel
theorem dX3_highestBucket_18 : decode cX3_highestBucket 18 = .ok (.iinc 2 (-1), 3) := by decide +kernel
theorem dX3_highestBucket_21 : decode cX3_highestBucket 21 = .ok (.goto (-18), 3) := by decide +kernel
theorem dX3_highestBucket_24 : decode cX3_highestBucket 24 = .ok (.iconst (-1), 1) := by decide +kernel
theorem dX3_highestBucket_25 : decode cX3_highestBucket 25 = .ok (.ireturn, 1) := by decide +kernel
set_option maxRecDepth 20000 in
theorem ggX3_number_J6_bitCount_0f7a4 : GoodIn wsX3_number wsJ6_bitCount_0f7a4 := goodIn_r _ [8, 9, 10, 11] (by decide +kernel) (by decide +kernel)
set_option maxRecDepth 20000 in
theorem gX3_number_J6_bitCount_0f7a4 : GoodIn wsX3_number (va_wsS RX3 95 yJ6_bitCount_0f7a4 wsJ6_bitCount_0f7a4) := goodIn_app (goodIn_of _ (by decide +kernel)) ggX3_number_J6_bitCount_0f7a4
set_option maxRecDepth 20000 in
theorem ggX3_number_X3_personsWhoEat : GoodIn wsX3_number wsX3_personsWhoEat := goodIn_r _ [16, 17, 18, 19, 15, 20, 21, 22, 23, 24, 25, 26, 27, 28, 29, 30, 31, 32, 33, 34, 2, 35, 36, 37, 38, 39, 40, 41, 42, 43, 44, 45, 46, 47, 48, 49, 50, 51, 72, 73, 74, 75, 76, 77, 78, 79, 80, 81, 82, 83, 84, 85, 86] (by decide +kernel) (by decide +kernel)
set_option maxRecDepth 20000 in
theorem gX3_number_X3_personsWhoEat : GoodIn wsX3_number (wsV RX3 151 RX3 yX3_personsWhoEat wsX3_personsWhoEat) := goodIn_app (goodIn_of _ (by decide +kernel)) ggX3_number_X3_personsWhoEat
set_option maxRecDepth 20000 in
theorem ggX3_number_X3_personsWhoAte : GoodIn wsX3_number wsX3_personsWhoAte := goodIn_r _ [55, 38, 72, 73, 74, 75, 76, 77, 78, 79, 80, 81, 82, 83, 84, 85, 86] (by decide +kernel) (by decide +kernel)
set_option maxRecDepth 20000 in
theorem gX3_number_X3_personsWhoAte : GoodIn wsX3_number (wsV RX3 155 RX3 yX3_personsWhoAte wsX3_personsWhoAte) := goodIn_app (goodIn_of _ (by decide +kernel)) ggX3_number_X3_personsWhoAte
set_option maxRecDepth 20000 in
theorem ggX3_number_X3_personsWithTwoOfAGroup : GoodIn wsX3_number wsX3_personsWithTwoOfAGroup := goodIn_r _ [59, 17, 18, 19, 15, 20, 21, 22, 23, 24, 25, 26, 27, 28, 29, 30, 31, 32, 33, 34, 2, 35, 36, 37, 38, 39, 40, 41, 42, 43, 44, 45, 46, 47, 48, 49, 50, 51, 60, 61, 62, 63, 64, 65, 66, 67, 5, 6, 7, 8, 9, 10, 11, 72, 73, 74, 75, 76, 77, 78, 79, 80, 81, 82, 83, 84, 85, 86] (by decide +kernel) (by decide +kernel)
set_option maxRecDepth 20000 in
theorem gX3_number_X3_personsWithTwoOfAGroup : GoodIn wsX3_number (wsV RX3 158 RX3 yX3_personsWithTwoOfAGroup wsX3_personsWithTwoOfAGroup) := goodIn_app (goodIn_of _ (by decide +kernel)) ggX3_number_X3_personsWithTwoOfAGroup
set_option maxRecDepth 20000 in
theorem ggX3_number_X3_holds : GoodIn wsX3_number wsX3_holds := goodIn_r _ [71, 36, 35, 5, 6, 7, 8, 9, 10, 11, 72, 73, 74, 75, 76, 77, 78, 79, 80, 81, 82, 83, 84, 85, 86] (by decide +kernel) (by decide +kernel)
set_option maxRecDepth 20000 in
theorem gX3_number_X3_holds : GoodIn wsX3_number (wsV RX3 161 RX3 yX3_holds wsX3_holds) := goodIn_app (goodIn_of _ (by decide +kernel)) ggX3_number_X3_holds
theorem dX3_number_0 : decode cX3_number 0 = .ok (.iload_n 1, 1) := by decide +kernel
theorem dX3_number_1 : decode cX3_number 1 = .ok (.tableswitch 81 0 6 #[43, 48, 56, 61, 66, 71, 76], 43) := by decide +kernel
theorem dX3_number_44 : decode cX3_number 44 = .ok (.aload_n 0, 1) := by decide +kernel
theorem dX3_number_45 : decode cX3_number 45 = .ok (.getfield 42, 3) := by decide +kernel
theorem dX3_number_48 : decode cX3_number 48 = .ok (.ireturn, 1) := by decide +kernel
theorem dX3_number_49 : decode cX3_number 49 = .ok (.aload_n 0, 1) := by decide +kernel
theorem dX3_number_50 : decode cX3_number 50 = .ok (.getfield 52, 3) := by decide +kernel
theorem dX3_number_53 : decode cX3_number 53 = .ok (.invokestatic 95, 3) := by decide +kernel
theorem dX3_number_56 : decode cX3_number 56 = .ok (.ireturn, 1) := by decide +kernel
theorem dX3_number_57 : decode cX3_number 57 = .ok (.aload_n 0, 1) := by decide +kernel
theorem dX3_number_58 : decode cX3_number 58 = .ok (.getfield 46, 3) := by decide +kernel
theorem dX3_number_61 : decode cX3_number 61 = .ok (.ireturn, 1) := by decide +kernel
theorem dX3_number_62 : decode cX3_number 62 = .ok (.aload_n 0, 1) := by decide +kernel
theorem dX3_number_63 : decode cX3_number 63 = .ok (.getfield 49, 3) := by decide +kernel
theorem dX3_number_66 : decode cX3_number 66 = .ok (.ireturn, 1) := by decide +kernel
theorem dX3_number_67 : decode cX3_number 67 = .ok (.aload_n 0, 1) := by decide +kernel
theorem dX3_number_68 : decode cX3_number 68 = .ok (.invokevirtual 151, 3) := by decide +kernel
theorem dX3_number_71 : decode cX3_number 71 = .ok (.ireturn, 1) := by decide +kernel
theorem dX3_number_72 : decode cX3_number 72 = .ok (.aload_n 0, 1) := by decide +kernel
theorem dX3_number_73 : decode cX3_number 73 = .ok (.invokevirtual 155, 3) := by decide +kernel
theorem dX3_number_76 : decode cX3_number 76 = .ok (.ireturn, 1) := by decide +kernel
theorem dX3_number_77 : decode cX3_number 77 = .ok (.aload_n 0, 1) := by decide +kernel
theorem dX3_number_78 : decode cX3_number 78 = .ok (.invokevirtual 158, 3) := by decide +kernel
theorem dX3_number_81 : decode cX3_number 81 = .ok (.ireturn, 1) := by decide +kernel
theorem dX3_number_82 : decode cX3_number 82 = .ok (.aload_n 0, 1) := by decide +kernel
theorem dX3_number_83 : decode cX3_number 83 = .ok (.invokevirtual 161, 3) := by decide +kernel
theorem dX3_number_86 : decode cX3_number 86 = .ok (.ireturn, 1) := by decide +kernel
set_option maxRecDepth 20000 in
theorem ggX3_personsWhoEat_X3_breadsEatenBy : GoodIn wsX3_personsWhoEat wsX3_breadsEatenBy := goodIn_r _ [5, 6, 7, 8, 4, 9, 10, 11, 12, 13, 14, 15, 16, 17, 18, 19, 20, 21, 22, 23, 24, 25, 26, 27, 28, 29, 30, 31, 32, 33, 34, 35, 36, 37, 38, 39, 40, 41, 42, 43, 44, 45, 46, 47, 48, 49, 50, 51, 52] (by decide +kernel) (by decide +kernel)
set_option maxRecDepth 20000 in
theorem gX3_personsWhoEat_X3_breadsEatenBy : GoodIn wsX3_personsWhoEat (wsV RX3 92 RX3 yX3_breadsEatenBy wsX3_breadsEatenBy) := goodIn_app (goodIn_of _ (by decide +kernel)) ggX3_personsWhoEat_X3_breadsEatenBy
theorem dX3_personsWhoEat_0 : decode cX3_personsWhoEat 0 = .ok (.iconst 0, 1) := by decide +kernel
theorem dX3_personsWhoEat_1 : decode cX3_personsWhoEat 1 = .ok (.istore_n 1, 1) := by decide +kernel
theorem dX3_personsWhoEat_2 : decode cX3_personsWhoEat 2 = .ok (.iconst 0, 1) := by decide +kernel
theorem dX3_personsWhoEat_3 : decode cX3_personsWhoEat 3 = .ok (.istore_n 2, 1) := by decide +kernel
theorem dX3_personsWhoEat_4 : decode cX3_personsWhoEat 4 = .ok (.iload_n 2, 1) := by decide +kernel
theorem dX3_personsWhoEat_5 : decode cX3_personsWhoEat 5 = .ok (.sipush 150, 3) := by decide +kernel
theorem dX3_personsWhoEat_8 : decode cX3_personsWhoEat 8 = .ok (.if_icmp .ge 20, 3) := by decide +kernel
theorem dX3_personsWhoEat_11 : decode cX3_personsWhoEat 11 = .ok (.aload_n 0, 1) := by decide +kernel
theorem dX3_personsWhoEat_12 : decode cX3_personsWhoEat 12 = .ok (.iload_n 2, 1) := by decide +kernel
theorem dX3_personsWhoEat_13 : decode cX3_personsWhoEat 13 = .ok (.invokevirtual 92, 3) := by decide +kernel
theorem dX3_personsWhoEat_16 : decode cX3_personsWhoEat 16 = .ok (.ifCond .eq 6, 3) := by decide +kernel
theorem dX3_personsWhoEat_19 : decode cX3_personsWhoEat 19 = .ok (.iinc 1 1, 3) := by decide +kernel
theorem dX3_personsWhoEat_22 : decode cX3_personsWhoEat 22 = .ok (.iinc 2 1, 3) := by decide +kernel
theorem dX3_personsWhoEat_25 : decode cX3_personsWhoEat 25 = .ok (.goto (-21), 3) := by decide +kernel
theorem dX3_personsWhoEat_28 : decode cX3_personsWhoEat 28 = .ok (.iload_n 1, 1) := by decide +kernel
theorem dX3_personsWhoEat_29 : decode cX3_personsWhoEat 29 = .ok (.ireturn, 1) := by decide +kernel
theorem dX3_personsWhoAte_0 : decode cX3_personsWhoAte 0 = .ok (.iconst 0, 1) := by decide +kernel
theorem dX3_personsWhoAte_1 : decode cX3_personsWhoAte 1 = .ok (.istore_n 1, 1) := by decide +kernel
theorem dX3_personsWhoAte_2 : decode cX3_personsWhoAte 2 = .ok (.iconst 0, 1) := by decide +kernel
theorem dX3_personsWhoAte_3 : decode cX3_personsWhoAte 3 = .ok (.istore_n 2, 1) := by decide +kernel
theorem dX3_personsWhoAte_4 : decode cX3_personsWhoAte 4 = .ok (.iload_n 2, 1) := by decide +kernel
theorem dX3_personsWhoAte_5 : decode cX3_personsWhoAte 5 = .ok (.sipush 150, 3) := by decide +kernel
theorem dX3_personsWhoAte_8 : decode cX3_personsWhoAte 8 = .ok (.if_icmp .ge 21, 3) := by decide +kernel
theorem dX3_personsWhoAte_11 : decode cX3_personsWhoAte 11 = .ok (.aload_n 0, 1) := by decide +kernel
theorem dX3_personsWhoAte_12 : decode cX3_personsWhoAte 12 = .ok (.getfield 36, 3) := by decide +kernel
theorem dX3_personsWhoAte_15 : decode cX3_personsWhoAte 15 = .ok (.iload_n 2, 1) := by decide +kernel
theorem dX3_personsWhoAte_16 : decode cX3_personsWhoAte 16 = .ok (.iaload, 1) := by decide +kernel
theorem dX3_personsWhoAte_17 : decode cX3_personsWhoAte 17 = .ok (.ifCond .eq 6, 3) := by decide +kernel
theorem dX3_personsWhoAte_20 : decode cX3_personsWhoAte 20 = .ok (.iinc 1 1, 3) := by decide +kernel
theorem dX3_personsWhoAte_23 : decode cX3_personsWhoAte 23 = .ok (.iinc 2 1, 3) := by decide +kernel
theorem dX3_personsWhoAte_26 : decode cX3_personsWhoAte 26 = .ok (.goto (-22), 3) := by decide +kernel
theorem dX3_personsWhoAte_29 : decode cX3_personsWhoAte 29 = .ok (.iload_n 1, 1) := by decide +kernel
theorem dX3_personsWhoAte_30 : decode cX3_personsWhoAte 30 = .ok (.ireturn, 1) := by decide +kernel
set_option maxRecDepth 20000 in
theorem ggX3_personsWithTwoOfAGroup_X3_breadsEatenBy : GoodIn wsX3_personsWithTwoOfAGroup wsX3_breadsEatenBy := goodIn_r _ [5, 6, 7, 8, 4, 9, 10, 11, 12, 13, 14, 15, 16, 17, 18, 19, 20, 21, 22, 23, 24, 25, 26, 27, 28, 29, 30, 31, 32, 33, 34, 35, 36, 37, 53, 54, 55, 56, 57, 58, 59, 60, 61, 62, 63, 64, 65, 66, 67] (by decide +kernel) (by decide +kernel)
set_option maxRecDepth 20000 in
theorem gX3_personsWithTwoOfAGroup_X3_breadsEatenBy : GoodIn wsX3_personsWithTwoOfAGroup (wsV RX3 92 RX3 yX3_breadsEatenBy wsX3_breadsEatenBy) := goodIn_app (goodIn_of _ (by decide +kernel)) ggX3_personsWithTwoOfAGroup_X3_breadsEatenBy
set_option maxRecDepth 20000 in
theorem ggX3_personsWithTwoOfAGroup_X3_hasTwoOfAGroup : GoodIn wsX3_personsWithTwoOfAGroup wsX3_hasTwoOfAGroup := goodIn_r _ [41, 42, 43, 44, 4, 45, 10, 46, 47, 48, 49, 50, 51, 52, 53, 54, 55, 56, 57, 58, 59, 60, 61, 62, 63, 64, 65, 66, 67] (by decide +kernel) (by decide +kernel)
set_option maxRecDepth 20000 in
theorem gX3_personsWithTwoOfAGroup_X3_hasTwoOfAGroup : GoodIn wsX3_personsWithTwoOfAGroup (wsV RX3 164 RX3 yX3_hasTwoOfAGroup wsX3_hasTwoOfAGroup) := goodIn_app (goodIn_of _ (by decide +kernel)) ggX3_personsWithTwoOfAGroup_X3_hasTwoOfAGroup
theorem dX3_personsWithTwoOfAGroup_0 : decode cX3_personsWithTwoOfAGroup 0 = .ok (.iconst 0, 1) := by decide +kernel
theorem dX3_personsWithTwoOfAGroup_1 : decode cX3_personsWithTwoOfAGroup 1 = .ok (.istore_n 1, 1) := by decide +kernel
theorem dX3_personsWithTwoOfAGroup_2 : decode cX3_personsWithTwoOfAGroup 2 = .ok (.iconst 0, 1) := by decide +kernel
theorem dX3_personsWithTwoOfAGroup_3 : decode cX3_personsWithTwoOfAGroup 3 = .ok (.istore_n 2, 1) := by decide +kernel
theorem dX3_personsWithTwoOfAGroup_4 : decode cX3_personsWithTwoOfAGroup 4 = .ok (.iload_n 2, 1) := by decide +kernel
theorem dX3_personsWithTwoOfAGroup_5 : decode cX3_personsWithTwoOfAGroup 5 = .ok (.sipush 150, 3) := by decide +kernel
theorem dX3_personsWithTwoOfAGroup_8 : decode cX3_personsWithTwoOfAGroup 8 = .ok (.if_icmp .ge 24, 3) := by decide +kernel
theorem dX3_personsWithTwoOfAGroup_11 : decode cX3_personsWithTwoOfAGroup 11 = .ok (.aload_n 0, 1) := by decide +kernel
theorem dX3_personsWithTwoOfAGroup_12 : decode cX3_personsWithTwoOfAGroup 12 = .ok (.aload_n 0, 1) := by decide +kernel
theorem dX3_personsWithTwoOfAGroup_13 : decode cX3_personsWithTwoOfAGroup 13 = .ok (.iload_n 2, 1) := by decide +kernel
theorem dX3_personsWithTwoOfAGroup_14 : decode cX3_personsWithTwoOfAGroup 14 = .ok (.invokevirtual 92, 3) := by decide +kernel
theorem dX3_personsWithTwoOfAGroup_17 : decode cX3_personsWithTwoOfAGroup 17 = .ok (.invokevirtual 164, 3) := by decide +kernel
theorem dX3_personsWithTwoOfAGroup_20 : decode cX3_personsWithTwoOfAGroup 20 = .ok (.ifCond .eq 6, 3) := by decide +kernel
theorem dX3_personsWithTwoOfAGroup_23 : decode cX3_personsWithTwoOfAGroup 23 = .ok (.iinc 1 1, 3) := by decide +kernel
theorem dX3_personsWithTwoOfAGroup_26 : decode cX3_personsWithTwoOfAGroup 26 = .ok (.iinc 2 1, 3) := by decide +kernel
theorem dX3_personsWithTwoOfAGroup_29 : decode cX3_personsWithTwoOfAGroup 29 = .ok (.goto (-25), 3) := by decide +kernel
theorem dX3_personsWithTwoOfAGroup_32 : decode cX3_personsWithTwoOfAGroup 32 = .ok (.iload_n 1, 1) := by decide +kernel
theorem dX3_personsWithTwoOfAGroup_33 : decode cX3_personsWithTwoOfAGroup 33 = .ok (.ireturn, 1) := by decide +kernel
set_option maxRecDepth 20000 in
theorem ggX3_hasTwoOfAGroup_X3_breadsOfGroup : GoodIn wsX3_hasTwoOfAGroup wsX3_breadsOfGroup := goodIn_r _ [5, 6, 14, 15, 16, 17, 18, 19, 20, 21, 22, 23, 24, 25, 26, 27, 28] (by decide +kernel) (by decide +kernel)
set_option maxRecDepth 20000 in
theorem gX3_hasTwoOfAGroup_X3_breadsOfGroup : GoodIn wsX3_hasTwoOfAGroup (wsV RX3 167 RX3 yX3_breadsOfGroup wsX3_breadsOfGroup) := goodIn_app (goodIn_of _ (by decide +kernel)) ggX3_hasTwoOfAGroup_X3_breadsOfGroup
set_option maxRecDepth 20000 in
theorem ggX3_hasTwoOfAGroup_J6_bitCount_0f7a4 : GoodIn wsX3_hasTwoOfAGroup wsJ6_bitCount_0f7a4 := goodIn_r _ [10, 11, 12, 13] (by decide +kernel) (by decide +kernel)
set_option maxRecDepth 20000 in
theorem gX3_hasTwoOfAGroup_J6_bitCount_0f7a4 : GoodIn wsX3_hasTwoOfAGroup (va_wsS RX3 95 yJ6_bitCount_0f7a4 wsJ6_bitCount_0f7a4) := goodIn_app (goodIn_of _ (by decide +kernel)) ggX3_hasTwoOfAGroup_J6_bitCount_0f7a4
theorem dX3_hasTwoOfAGroup_0 : decode cX3_hasTwoOfAGroup 0 = .ok (.iconst 0, 1) := by decide +kernel
theorem dX3_hasTwoOfAGroup_1 : decode cX3_hasTwoOfAGroup 1 = .ok (.istore_n 2, 1) := by decide +kernel
theorem dX3_hasTwoOfAGroup_2 : decode cX3_hasTwoOfAGroup 2 = .ok (.iload_n 2, 1) := by decide +kernel
theorem dX3_hasTwoOfAGroup_3 : decode cX3_hasTwoOfAGroup 3 = .ok (.iconst 3, 1) := by decide +kernel
theorem dX3_hasTwoOfAGroup_4 : decode cX3_hasTwoOfAGroup 4 = .ok (.if_icmp .ge 25, 3) := by decide +kernel
theorem dX3_hasTwoOfAGroup_7 : decode cX3_hasTwoOfAGroup 7 = .ok (.iload_n 1, 1) := by decide +kernel
theorem dX3_hasTwoOfAGroup_8 : decode cX3_hasTwoOfAGroup 8 = .ok (.aload_n 0, 1) := by decide +kernel
theorem dX3_hasTwoOfAGroup_9 : decode cX3_hasTwoOfAGroup 9 = .ok (.iload_n 2, 1) := by decide +kernel
theorem dX3_hasTwoOfAGroup_10 : decode cX3_hasTwoOfAGroup 10 = .ok (.invokevirtual 167, 3) := by decide +kernel
theorem dX3_hasTwoOfAGroup_13 : decode cX3_hasTwoOfAGroup 13 = .ok (.iand, 1) := by decide +kernel
theorem dX3_hasTwoOfAGroup_14 : decode cX3_hasTwoOfAGroup 14 = .ok (.invokestatic 95, 3) := by decide +kernel
theorem dX3_hasTwoOfAGroup_17 : decode cX3_hasTwoOfAGroup 17 = .ok (.iconst 2, 1) := by decide +kernel
theorem dX3_hasTwoOfAGroup_18 : decode cX3_hasTwoOfAGroup 18 = .ok (.if_icmp .lt 5, 3) := by decide +kernel
theorem dX3_hasTwoOfAGroup_21 : decode cX3_hasTwoOfAGroup 21 = .ok (.iconst 1, 1) := by decide +kernel
theorem dX3_hasTwoOfAGroup_22 : decode cX3_hasTwoOfAGroup 22 = .ok (.ireturn, 1) := by decide +kernel
theorem dX3_hasTwoOfAGroup_23 : decode cX3_hasTwoOfAGroup 23 = .ok (.iinc 2 1, 3) := by decide +kernel
theorem dX3_hasTwoOfAGroup_26 : decode cX3_hasTwoOfAGroup 26 = .ok (.goto (-24), 3) := by decide +kernel
theorem dX3_hasTwoOfAGroup_29 : decode cX3_hasTwoOfAGroup 29 = .ok (.iconst 0, 1) := by decide +kernel
theorem dX3_hasTwoOfAGroup_30 : decode cX3_hasTwoOfAGroup 30 = .ok (.ireturn, 1) := by decide +kernel
theorem dX3_breadsOfGroup_0 : decode cX3_breadsOfGroup 0 = .ok (.iconst 0, 1) := by decide +kernel
theorem dX3_breadsOfGroup_1 : decode cX3_breadsOfGroup 1 = .ok (.istore_n 2, 1) := by decide +kernel
theorem dX3_breadsOfGroup_2 : decode cX3_breadsOfGroup 2 = .ok (.iconst 0, 1) := by decide +kernel
theorem dX3_breadsOfGroup_3 : decode cX3_breadsOfGroup 3 = .ok (.istore_n 3, 1) := by decide +kernel
theorem dX3_breadsOfGroup_4 : decode cX3_breadsOfGroup 4 = .ok (.iload_n 3, 1) := by decide +kernel
theorem dX3_breadsOfGroup_5 : decode cX3_breadsOfGroup 5 = .ok (.bipush 8, 2) := by decide +kernel
theorem dX3_breadsOfGroup_7 : decode cX3_breadsOfGroup 7 = .ok (.if_icmp .ge 25, 3) := by decide +kernel
theorem dX3_breadsOfGroup_10 : decode cX3_breadsOfGroup 10 = .ok (.aload_n 0, 1) := by decide +kernel
theorem dX3_breadsOfGroup_11 : decode cX3_breadsOfGroup 11 = .ok (.getfield 9, 3) := by decide +kernel
theorem dX3_breadsOfGroup_14 : decode cX3_breadsOfGroup 14 = .ok (.iload_n 3, 1) := by decide +kernel
theorem dX3_breadsOfGroup_15 : decode cX3_breadsOfGroup 15 = .ok (.iaload, 1) := by decide +kernel
theorem dX3_breadsOfGroup_16 : decode cX3_breadsOfGroup 16 = .ok (.iload_n 1, 1) := by decide +kernel
theorem dX3_breadsOfGroup_17 : decode cX3_breadsOfGroup 17 = .ok (.if_icmp .ne 9, 3) := by decide +kernel
theorem dX3_breadsOfGroup_20 : decode cX3_breadsOfGroup 20 = .ok (.iload_n 2, 1) := by decide +kernel
theorem dX3_breadsOfGroup_21 : decode cX3_breadsOfGroup 21 = .ok (.iconst 1, 1) := by decide +kernel
theorem dX3_breadsOfGroup_22 : decode cX3_breadsOfGroup 22 = .ok (.iload_n 3, 1) := by decide +kernel
theorem dX3_breadsOfGroup_23 : decode cX3_breadsOfGroup 23 = .ok (.ishl, 1) := by decide +kernel
theorem dX3_breadsOfGroup_24 : decode cX3_breadsOfGroup 24 = .ok (.ior, 1) := by decide +kernel
theorem dX3_breadsOfGroup_25 : decode cX3_breadsOfGroup 25 = .ok (.istore_n 2, 1) := by decide +kernel
theorem dX3_breadsOfGroup_26 : decode cX3_breadsOfGroup 26 = .ok (.iinc 3 1, 3) := by decide +kernel
theorem dX3_breadsOfGroup_29 : decode cX3_breadsOfGroup 29 = .ok (.goto (-25), 3) := by decide +kernel
theorem dX3_breadsOfGroup_32 : decode cX3_breadsOfGroup 32 = .ok (.iload_n 2, 1) := by decide +kernel
theorem dX3_breadsOfGroup_33 : decode cX3_breadsOfGroup 33 = .ok (.ireturn, 1) := by decide +kernel
set_option maxRecDepth 20000 in
theorem ggX3_holds_J6_bitCount_0f7a4 : GoodIn wsX3_holds wsJ6_bitCount_0f7a4 := goodIn_r _ [6, 7, 8, 9] (by decide +kernel) (by decide +kernel)
set_option maxRecDepth 20000 in
theorem gX3_holds_J6_bitCount_0f7a4 : GoodIn wsX3_holds (va_wsS RX3 95 yJ6_bitCount_0f7a4 wsJ6_bitCount_0f7a4) := goodIn_app (goodIn_of _ (by decide +kernel)) ggX3_holds_J6_bitCount_0f7a4
theorem dX3_holds_0 : decode cX3_holds 0 = .ok (.iconst 0, 1) := by decide +kernel
theorem dX3_holds_1 : decode cX3_holds 1 = .ok (.istore_n 1, 1) := by decide +kernel
theorem dX3_holds_2 : decode cX3_holds 2 = .ok (.iconst 0, 1) := by decide +kernel
theorem dX3_holds_3 : decode cX3_holds 3 = .ok (.istore_n 2, 1) := by decide +kernel
theorem dX3_holds_4 : decode cX3_holds 4 = .ok (.iload_n 2, 1) := by decide +kernel
theorem dX3_holds_5 : decode cX3_holds 5 = .ok (.sipush 150, 3) := by decide +kernel
theorem dX3_holds_8 : decode cX3_holds 8 = .ok (.if_icmp .ge 31, 3) := by decide +kernel
theorem dX3_holds_11 : decode cX3_holds 11 = .ok (.iload_n 1, 1) := by decide +kernel
theorem dX3_holds_12 : decode cX3_holds 12 = .ok (.aload_n 0, 1) := by decide +kernel
theorem dX3_holds_13 : decode cX3_holds 13 = .ok (.getfield 30, 3) := by decide +kernel
theorem dX3_holds_16 : decode cX3_holds 16 = .ok (.iload_n 2, 1) := by decide +kernel
theorem dX3_holds_17 : decode cX3_holds 17 = .ok (.iaload, 1) := by decide +kernel
theorem dX3_holds_18 : decode cX3_holds 18 = .ok (.invokestatic 95, 3) := by decide +kernel
theorem dX3_holds_21 : decode cX3_holds 21 = .ok (.aload_n 0, 1) := by decide +kernel
theorem dX3_holds_22 : decode cX3_holds 22 = .ok (.getfield 33, 3) := by decide +kernel
theorem dX3_holds_25 : decode cX3_holds 25 = .ok (.iload_n 2, 1) := by decide +kernel
theorem dX3_holds_26 : decode cX3_holds 26 = .ok (.iaload, 1) := by decide +kernel
theorem dX3_holds_27 : decode cX3_holds 27 = .ok (.invokestatic 95, 3) := by decide +kernel
theorem dX3_holds_30 : decode cX3_holds 30 = .ok (.iadd, 1) := by decide +kernel
theorem dX3_holds_31 : decode cX3_holds 31 = .ok (.iadd, 1) := by decide +kernel
theorem dX3_holds_32 : decode cX3_holds 32 = .ok (.istore_n 1, 1) := by decide +kernel
theorem dX3_holds_33 : decode cX3_holds 33 = .ok (.iinc 2 1, 3) := by decide +kernel
theorem dX3_holds_36 : decode cX3_holds 36 = .ok (.goto (-32), 3) := by decide +kernel
theorem dX3_holds_39 : decode cX3_holds 39 = .ok (.iload_n 1, 1) := by decide +kernel
theorem dX3_holds_40 : decode cX3_holds 40 = .ok (.ireturn, 1) := by decide +kernel
set_option maxRecDepth 20000 in
theorem ggX4_init_X3_init : GoodIn wsX4_init wsX3_init := goodIn_r _ [22, 23, 2, 3, 24, 25, 26, 27, 28, 29, 30, 31, 32, 33, 34, 52, 53, 54, 55, 56, 57, 58, 59, 60, 61, 62, 63, 64, 65, 66] (by decide +kernel) (by decide +kernel)
set_option maxRecDepth 20000 in
theorem gX4_init_X3_init : GoodIn wsX4_init (wsX3_init) := ggX4_init_X3_init
set_option maxRecDepth 20000 in
theorem ggX4_init_X1_init : GoodIn wsX4_init wsX1_init := goodIn_r _ [37, 38, 2, 3, 39, 40, 5, 6, 41, 21, 22, 23, 24, 25, 26, 27, 28, 29, 30, 31, 32, 33, 34, 71, 72, 73, 52, 53, 54, 55, 56, 57, 58, 59, 60, 61, 62, 63, 64, 65, 66] (by decide +kernel) (by decide +kernel)
set_option maxRecDepth 20000 in
theorem gX4_init_X1_init : GoodIn wsX4_init (wsX1_init) := ggX4_init_X1_init
set_option maxRecDepth 20000 in
theorem ggX4_init_X2_init : GoodIn wsX4_init wsX2_init := goodIn_r _ [43, 44, 2, 3, 24, 45, 46, 47, 74, 75, 76, 77, 78] (by decide +kernel) (by decide +kernel)
set_option maxRecDepth 20000 in
theorem gX4_init_X2_init_n25 : GoodIn wsX4_init (wsX2_init) := ggX4_init_X2_init
set_option maxRecDepth 20000 in
theorem ggX4_init_X0_init : GoodIn wsX4_init wsX0_init := goodIn_r _ [49, 50, 2, 3, 24, 51, 79, 80, 81, 82, 83, 84, 85] (by decide +kernel) (by decide +kernel)
set_option maxRecDepth 20000 in
theorem gX4_init_X0_init_n32 : GoodIn wsX4_init (wsX0_init) := ggX4_init_X0_init
