theorem dX4_init_0 : decode cX4_init 0 = .ok (.aload_n 0, 1) := by decide +kernel
theorem dX4_init_1 : decode cX4_init 1 = .ok (.invokespecial 1, 3) := by decide +kernel
theorem dX4_init_4 : decode cX4_init 4 = .ok (.aload_n 0, 1) := by decide +kernel
theorem dX4_init_5 : decode cX4_init 5 = .ok (.new 7, 3) := by decide +kernel
theorem dX4_init_8 : decode cX4_init 8 = .ok (.dup, 1) := by decide +kernel
theorem dX4_init_9 : decode cX4_init 9 = .ok (.invokespecial 9, 3) := by decide +kernel
theorem dX4_init_12 : decode cX4_init 12 = .ok (.putfield 10, 3) := by decide +kernel
theorem dX4_init_15 : decode cX4_init 15 = .ok (.aload_n 0, 1) := by decide +kernel
theorem dX4_init_16 : decode cX4_init 16 = .ok (.new 16, 3) := by decide +kernel
theorem dX4_init_19 : decode cX4_init 19 = .ok (.dup, 1) := by decide +kernel
theorem dX4_init_20 : decode cX4_init 20 = .ok (.invokespecial 18, 3) := by decide +kernel
theorem dX4_init_23 : decode cX4_init 23 = .ok (.putfield 19, 3) := by decide +kernel
theorem dX4_init_26 : decode cX4_init 26 = .ok (.aload_n 0, 1) := by decide +kernel
theorem dX4_init_27 : decode cX4_init 27 = .ok (.new 23, 3) := by decide +kernel
theorem dX4_init_30 : decode cX4_init 30 = .ok (.dup, 1) := by decide +kernel
theorem dX4_init_31 : decode cX4_init 31 = .ok (.invokespecial 25, 3) := by decide +kernel
theorem dX4_init_34 : decode cX4_init 34 = .ok (.putfield 26, 3) := by decide +kernel
theorem dX4_init_37 : decode cX4_init 37 = .ok (.aload_n 0, 1) := by decide +kernel
theorem dX4_init_38 : decode cX4_init 38 = .ok (.new 30, 3) := by decide +kernel
theorem dX4_init_41 : decode cX4_init 41 = .ok (.dup, 1) := by decide +kernel
theorem dX4_init_42 : decode cX4_init 42 = .ok (.invokespecial 32, 3) := by decide +kernel
theorem dX4_init_45 : decode cX4_init 45 = .ok (.putfield 33, 3) := by decide +kernel
theorem dX4_init_48 : decode cX4_init 48 = .ok (.return_, 1) := by decide +kernel
set_option maxRecDepth 20000 in
theorem ggX4_open_X4_isGroup : GoodIn wsX4_open wsX4_isGroup := goodIn_r _ [11] (by decide +kernel) (by decide +kernel)
set_option maxRecDepth 20000 in
theorem gX4_open_X4_isGroup : GoodIn wsX4_open (va_wsS RX4 37 yX4_isGroup wsX4_isGroup) := goodIn_app (goodIn_of _ (by decide +kernel)) ggX4_open_X4_isGroup
set_option maxRecDepth 20000 in
theorem ggX4_open_X4_needSalt : GoodIn wsX4_open wsX4_needSalt := goodIn_ca (goodIn_r _ [14, 1, 2] (by decide +kernel) (by decide +kernel)) (goodIn_sub (fun _ h => List.mem_cons_of_mem _ (List.mem_append_left _ (List.mem_append_right _ h))) (by decide +kernel))
set_option maxRecDepth 20000 in
theorem gX4_open_X4_needSalt : GoodIn wsX4_open (va_wsS RX4 48 yX4_needSalt wsX4_needSalt) := goodIn_app (goodIn_of _ (by decide +kernel)) ggX4_open_X4_needSalt
set_option maxRecDepth 20000 in
theorem ggX4_open_X1_save : GoodIn wsX4_open wsX1_save := goodIn_r _ [19, 20, 21, 22, 23, 24, 18, 25, 26, 27, 28, 29, 30, 31, 32, 33, 34, 35, 36, 37, 38, 39, 40, 41, 42, 43, 44, 45, 46, 47, 48, 49, 50, 74, 75, 76, 59, 60, 61, 62, 63, 64, 65, 66, 67, 68, 69, 70, 71, 72, 73] (by decide +kernel) (by decide +kernel)
set_option maxRecDepth 20000 in
theorem gX4_open_X1_save : GoodIn wsX4_open (wsV RX4 61 RX1 yX1_save wsX1_save) := goodIn_app (goodIn_of _ (by decide +kernel)) ggX4_open_X1_save
set_option maxRecDepth 20000 in
theorem ggX4_open_X3_addBread : GoodIn wsX4_open wsX3_addBread := goodIn_r _ [54, 32, 35, 36, 37, 42, 43, 44, 59, 60, 61, 62, 63, 64, 65, 66, 67, 68, 69, 70, 71, 72, 73] (by decide +kernel) (by decide +kernel)
set_option maxRecDepth 20000 in
theorem gX4_open_X3_addBread : GoodIn wsX4_open (wsV RX4 65 RX3 yX3_addBread wsX3_addBread) := goodIn_app (goodIn_of _ (by decide +kernel)) ggX4_open_X3_addBread
theorem dX4_open_0 : decode cX4_open 0 = .ok (.iload_n 1, 1) := by decide +kernel
theorem dX4_open_1 : decode cX4_open 1 = .ok (.iconst (-1), 1) := by decide +kernel
theorem dX4_open_2 : decode cX4_open 2 = .ok (.if_icmp .eq 20, 3) := by decide +kernel
theorem dX4_open_5 : decode cX4_open 5 = .ok (.iload_n 1, 1) := by decide +kernel
theorem dX4_open_6 : decode cX4_open 6 = .ok (.invokestatic 37, 3) := by decide +kernel
theorem dX4_open_9 : decode cX4_open 9 = .ok (.ifCond .ne 13, 3) := by decide +kernel
theorem dX4_open_12 : decode cX4_open 12 = .ok (.new 41, 3) := by decide +kernel
theorem dX4_open_15 : decode cX4_open 15 = .ok (.dup, 1) := by decide +kernel
theorem dX4_open_16 : decode cX4_open 16 = .ok (.ldc 43, 2) := by decide +kernel
theorem dX4_open_18 : decode cX4_open 18 = .ok (.invokespecial 45, 3) := by decide +kernel
theorem dX4_open_21 : decode cX4_open 21 = .ok (.athrow, 1) := by decide +kernel
theorem dX4_open_22 : decode cX4_open 22 = .ok (.iload_n 2, 1) := by decide +kernel
theorem dX4_open_23 : decode cX4_open 23 = .ok (.invokestatic 48, 3) := by decide +kernel
theorem dX4_open_26 : decode cX4_open 26 = .ok (.aload_n 0, 1) := by decide +kernel
theorem dX4_open_27 : decode cX4_open 27 = .ok (.getfield 10, 3) := by decide +kernel
theorem dX4_open_30 : decode cX4_open 30 = .ok (.getfield 52, 3) := by decide +kernel
theorem dX4_open_33 : decode cX4_open 33 = .ok (.bipush 8, 2) := by decide +kernel
theorem dX4_open_35 : decode cX4_open 35 = .ok (.if_icmp .lt 13, 3) := by decide +kernel
theorem dX4_open_38 : decode cX4_open 38 = .ok (.new 56, 3) := by decide +kernel
theorem dX4_open_41 : decode cX4_open 41 = .ok (.dup, 1) := by decide +kernel
theorem dX4_open_42 : decode cX4_open 42 = .ok (.ldc 58, 2) := by decide +kernel
theorem dX4_open_44 : decode cX4_open 44 = .ok (.invokespecial 60, 3) := by decide +kernel
theorem dX4_open_47 : decode cX4_open 47 = .ok (.athrow, 1) := by decide +kernel
theorem dX4_open_48 : decode cX4_open 48 = .ok (.aload_n 0, 1) := by decide +kernel
theorem dX4_open_49 : decode cX4_open 49 = .ok (.getfield 19, 3) := by decide +kernel
theorem dX4_open_52 : decode cX4_open 52 = .ok (.aload_n 0, 1) := by decide +kernel
theorem dX4_open_53 : decode cX4_open 53 = .ok (.getfield 10, 3) := by decide +kernel
theorem dX4_open_56 : decode cX4_open 56 = .ok (.invokevirtual 61, 3) := by decide +kernel
theorem dX4_open_59 : decode cX4_open 59 = .ok (.aload_n 0, 1) := by decide +kernel
theorem dX4_open_60 : decode cX4_open 60 = .ok (.getfield 10, 3) := by decide +kernel
theorem dX4_open_63 : decode cX4_open 63 = .ok (.iload_n 1, 1) := by decide +kernel
theorem dX4_open_64 : decode cX4_open 64 = .ok (.iload_n 2, 1) := by decide +kernel
theorem dX4_open_65 : decode cX4_open 65 = .ok (.iload_n 3, 1) := by decide +kernel
theorem dX4_open_66 : decode cX4_open 66 = .ok (.invokevirtual 65, 3) := by decide +kernel
theorem dX4_open_69 : decode cX4_open 69 = .ok (.ireturn, 1) := by decide +kernel
set_option maxRecDepth 20000 in
theorem ggX4_end_X4_needBread : GoodIn wsX4_end wsX4_needBread := goodIn_ca (goodIn_r _ [8, 9, 10, 2, 11, 12, 13, 14, 15, 16, 80, 81, 82, 83, 84, 85, 86, 87, 88, 89, 90, 91, 92, 93, 94, 95, 96, 97, 98] (by decide +kernel) (by decide +kernel)) (goodIn_sub (fun _ h => List.mem_cons_of_mem _ (List.mem_append_left _ (List.mem_append_right _ h))) (by decide +kernel))
set_option maxRecDepth 20000 in
theorem gX4_end_X4_needBread : GoodIn wsX4_end (wsV RX4 69 RX4 yX4_needBread wsX4_needBread) := goodIn_app (goodIn_of _ (by decide +kernel)) ggX4_end_X4_needBread
set_option maxRecDepth 20000 in
theorem ggX4_end_X4_needOpen : GoodIn wsX4_end wsX4_needOpen := goodIn_ca (goodIn_r _ [20, 21, 22, 2, 23, 24, 25, 14, 26, 27, 28, 12, 13, 15, 16, 80, 81, 82, 83, 84, 85, 86, 87, 88, 89, 90, 91, 92, 93, 94, 95, 96, 97, 98] (by decide +kernel) (by decide +kernel)) (goodIn_sub (fun _ h => List.mem_cons_of_mem _ (List.mem_append_right _ h)) (by decide +kernel))
set_option maxRecDepth 20000 in
theorem gX4_end_X4_needOpen : GoodIn wsX4_end (wsV RX4 72 RX4 yX4_needOpen wsX4_needOpen) := goodIn_app (goodIn_of _ (by decide +kernel)) ggX4_end_X4_needOpen
set_option maxRecDepth 20000 in
theorem ggX4_end_X1_save : GoodIn wsX4_end wsX1_save := goodIn_r _ [33, 34, 35, 36, 37, 38, 32, 39, 40, 41, 42, 43, 14, 44, 16, 45, 46, 27, 47, 48, 49, 50, 51, 52, 53, 54, 55, 56, 57, 58, 59, 60, 61, 99, 100, 101, 84, 85, 86, 87, 88, 89, 90, 91, 92, 93, 94, 95, 96, 97, 98] (by decide +kernel) (by decide +kernel)
set_option maxRecDepth 20000 in
theorem gX4_end_X1_save : GoodIn wsX4_end (wsV RX4 61 RX1 yX1_save wsX1_save) := goodIn_app (goodIn_of _ (by decide +kernel)) ggX4_end_X1_save
set_option maxRecDepth 20000 in
theorem ggX4_end_X3_closeBread : GoodIn wsX4_end wsX3_closeBread := goodIn_r _ [65, 27, 66, 67, 68, 14, 69, 48, 54, 70, 7, 71, 72, 73, 74, 75, 57, 84, 85, 86, 87, 88, 89, 90, 91, 92, 93, 94, 95, 96, 97, 98] (by decide +kernel) (by decide +kernel)
set_option maxRecDepth 20000 in
theorem gX4_end_X3_closeBread : GoodIn wsX4_end (wsV RX4 75 RX3 yX3_closeBread wsX3_closeBread) := goodIn_app (goodIn_of _ (by decide +kernel)) ggX4_end_X3_closeBread
set_option maxRecDepth 20000 in
theorem ggX4_end_X3_personsWith : GoodIn wsX4_end wsX3_personsWith := goodIn_r _ [79] (by decide +kernel) (by decide +kernel)
set_option maxRecDepth 20000 in
theorem gX4_end_X3_personsWith : GoodIn wsX4_end (wsV RX4 82 RX3 yX3_personsWith wsX3_personsWith) := goodIn_app (goodIn_of _ (by decide +kernel)) ggX4_end_X3_personsWith
theorem dX4_end_0 : decode cX4_end 0 = .ok (.aload_n 0, 1) := by decide +kernel
theorem dX4_end_1 : decode cX4_end 1 = .ok (.iload_n 1, 1) := by decide +kernel
theorem dX4_end_2 : decode cX4_end 2 = .ok (.invokevirtual 69, 3) := by decide +kernel
theorem dX4_end_5 : decode cX4_end 5 = .ok (.aload_n 0, 1) := by decide +kernel
theorem dX4_end_6 : decode cX4_end 6 = .ok (.iload_n 1, 1) := by decide +kernel
theorem dX4_end_7 : decode cX4_end 7 = .ok (.invokevirtual 72, 3) := by decide +kernel
theorem dX4_end_10 : decode cX4_end 10 = .ok (.aload_n 0, 1) := by decide +kernel
theorem dX4_end_11 : decode cX4_end 11 = .ok (.getfield 19, 3) := by decide +kernel
theorem dX4_end_14 : decode cX4_end 14 = .ok (.aload_n 0, 1) := by decide +kernel
theorem dX4_end_15 : decode cX4_end 15 = .ok (.getfield 10, 3) := by decide +kernel
theorem dX4_end_18 : decode cX4_end 18 = .ok (.invokevirtual 61, 3) := by decide +kernel
theorem dX4_end_21 : decode cX4_end 21 = .ok (.aload_n 0, 1) := by decide +kernel
theorem dX4_end_22 : decode cX4_end 22 = .ok (.getfield 10, 3) := by decide +kernel
theorem dX4_end_25 : decode cX4_end 25 = .ok (.iload_n 1, 1) := by decide +kernel
theorem dX4_end_26 : decode cX4_end 26 = .ok (.invokevirtual 75, 3) := by decide +kernel
theorem dX4_end_29 : decode cX4_end 29 = .ok (.aload_n 0, 1) := by decide +kernel
theorem dX4_end_30 : decode cX4_end 30 = .ok (.getfield 10, 3) := by decide +kernel
theorem dX4_end_33 : decode cX4_end 33 = .ok (.aload_n 0, 1) := by decide +kernel
theorem dX4_end_34 : decode cX4_end 34 = .ok (.getfield 10, 3) := by decide +kernel
theorem dX4_end_37 : decode cX4_end 37 = .ok (.getfield 78, 3) := by decide +kernel
theorem dX4_end_40 : decode cX4_end 40 = .ok (.iload_n 1, 1) := by decide +kernel
theorem dX4_end_41 : decode cX4_end 41 = .ok (.invokevirtual 82, 3) := by decide +kernel
theorem dX4_end_44 : decode cX4_end 44 = .ok (.ireturn, 1) := by decide +kernel
set_option maxRecDepth 20000 in
theorem ggX4_raise_X4_needBread : GoodIn wsX4_raise wsX4_needBread := goodIn_ca (goodIn_r _ [9, 10, 11, 3, 12, 13, 14, 15, 16, 17, 107, 108, 109, 110, 111, 112, 113, 114, 115, 116, 117, 118, 119, 120, 121, 122, 123, 124, 125] (by decide +kernel) (by decide +kernel)) (goodIn_sub (fun _ h => List.mem_cons_of_mem _ (List.mem_append_left _ (List.mem_append_right _ h))) (by decide +kernel))
set_option maxRecDepth 20000 in
theorem gX4_raise_X4_needBread : GoodIn wsX4_raise (wsV RX4 69 RX4 yX4_needBread wsX4_needBread) := goodIn_app (goodIn_of _ (by decide +kernel)) ggX4_raise_X4_needBread
set_option maxRecDepth 20000 in
theorem ggX4_raise_X4_needShare : GoodIn wsX4_raise wsX4_needShare := goodIn_ca (goodIn_r _ [20, 21, 22] (by decide +kernel) (by decide +kernel)) (goodIn_sub (fun _ h => List.mem_cons_of_mem _ (List.mem_append_right _ h)) (by decide +kernel))
set_option maxRecDepth 20000 in
theorem gX4_raise_X4_needShare : GoodIn wsX4_raise (va_wsS RX4 86 yX4_needShare wsX4_needShare) := goodIn_app (goodIn_of _ (by decide +kernel)) ggX4_raise_X4_needShare
set_option maxRecDepth 20000 in
theorem ggX4_raise_X3_canRaise : GoodIn wsX4_raise wsX3_canRaise := goodIn_r _ [26, 27, 28, 29, 30, 31, 15, 32, 33, 34, 13, 14, 16, 17, 35, 8, 36, 37, 38, 39, 40, 41, 111, 112, 113, 114, 115, 116, 117, 118, 119, 120, 121, 122, 123, 124, 125] (by decide +kernel) (by decide +kernel)
set_option maxRecDepth 20000 in
theorem gX4_raise_X3_canRaise : GoodIn wsX4_raise (wsV RX4 89 RX3 yX3_canRaise wsX3_canRaise) := goodIn_app (goodIn_of _ (by decide +kernel)) ggX4_raise_X3_canRaise
set_option maxRecDepth 20000 in
theorem ggX4_raise_X1_save : GoodIn wsX4_raise wsX1_save := goodIn_r _ [46, 47, 48, 49, 50, 51, 45, 52, 53, 54, 55, 56, 15, 57, 17, 58, 59, 33, 60, 28, 61, 62, 63, 64, 65, 27, 66, 67, 41, 68, 69, 70, 71, 126, 127, 128, 111, 112, 113, 114, 115, 116, 117, 118, 119, 120, 121, 122, 123, 124, 125] (by decide +kernel) (by decide +kernel)
set_option maxRecDepth 20000 in
theorem gX4_raise_X1_save : GoodIn wsX4_raise (wsV RX4 61 RX1 yX1_save wsX1_save) := goodIn_app (goodIn_of _ (by decide +kernel)) ggX4_raise_X1_save
set_option maxRecDepth 20000 in
theorem ggX4_raise_X3_eaters : GoodIn wsX4_raise wsX3_eaters := goodIn_r _ [75, 76, 77, 78, 15, 79, 28, 67, 65, 35, 8, 36, 80, 81, 82, 83, 84, 85, 86, 87, 33, 69, 68, 60, 70, 88, 89, 90, 91, 92, 93, 94, 95, 96, 97, 98, 41, 27, 111, 112, 113, 114, 115, 116, 117, 118, 119, 120, 121, 122, 123, 124, 125] (by decide +kernel) (by decide +kernel)
set_option maxRecDepth 20000 in
theorem gX4_raise_X3_eaters : GoodIn wsX4_raise (wsV RX4 95 RX3 yX3_eaters wsX3_eaters) := goodIn_app (goodIn_of _ (by decide +kernel)) ggX4_raise_X3_eaters
set_option maxRecDepth 20000 in
theorem ggX4_raise_X3_raiseTo : GoodIn wsX4_raise wsX3_raiseTo := goodIn_r _ [102, 28, 27, 35, 8, 36, 103, 104, 105, 15, 106, 41, 111, 112, 113, 114, 115, 116, 117, 118, 119, 120, 121, 122, 123, 124, 125] (by decide +kernel) (by decide +kernel)
set_option maxRecDepth 20000 in
theorem gX4_raise_X3_raiseTo : GoodIn wsX4_raise (wsV RX4 99 RX3 yX3_raiseTo wsX3_raiseTo) := goodIn_app (goodIn_of _ (by decide +kernel)) ggX4_raise_X3_raiseTo
theorem dX4_raise_0 : decode cX4_raise 0 = .ok (.aload_n 0, 1) := by decide +kernel
theorem dX4_raise_1 : decode cX4_raise 1 = .ok (.iload_n 1, 1) := by decide +kernel
theorem dX4_raise_2 : decode cX4_raise 2 = .ok (.invokevirtual 69, 3) := by decide +kernel
theorem dX4_raise_5 : decode cX4_raise 5 = .ok (.iload_n 2, 1) := by decide +kernel
theorem dX4_raise_6 : decode cX4_raise 6 = .ok (.invokestatic 86, 3) := by decide +kernel
theorem dX4_raise_9 : decode cX4_raise 9 = .ok (.aload_n 0, 1) := by decide +kernel
theorem dX4_raise_10 : decode cX4_raise 10 = .ok (.getfield 10, 3) := by decide +kernel
theorem dX4_raise_13 : decode cX4_raise 13 = .ok (.iload_n 1, 1) := by decide +kernel
theorem dX4_raise_14 : decode cX4_raise 14 = .ok (.iload_n 2, 1) := by decide +kernel
theorem dX4_raise_15 : decode cX4_raise 15 = .ok (.invokevirtual 89, 3) := by decide +kernel
theorem dX4_raise_18 : decode cX4_raise 18 = .ok (.ifCond .ne 13, 3) := by decide +kernel
theorem dX4_raise_21 : decode cX4_raise 21 = .ok (.new 56, 3) := by decide +kernel
theorem dX4_raise_24 : decode cX4_raise 24 = .ok (.dup, 1) := by decide +kernel
theorem dX4_raise_25 : decode cX4_raise 25 = .ok (.ldc 93, 2) := by decide +kernel
theorem dX4_raise_27 : decode cX4_raise 27 = .ok (.invokespecial 60, 3) := by decide +kernel
theorem dX4_raise_30 : decode cX4_raise 30 = .ok (.athrow, 1) := by decide +kernel
theorem dX4_raise_31 : decode cX4_raise 31 = .ok (.aload_n 0, 1) := by decide +kernel
theorem dX4_raise_32 : decode cX4_raise 32 = .ok (.getfield 19, 3) := by decide +kernel
theorem dX4_raise_35 : decode cX4_raise 35 = .ok (.aload_n 0, 1) := by decide +kernel
theorem dX4_raise_36 : decode cX4_raise 36 = .ok (.getfield 10, 3) := by decide +kernel
theorem dX4_raise_39 : decode cX4_raise 39 = .ok (.invokevirtual 61, 3) := by decide +kernel
theorem dX4_raise_42 : decode cX4_raise 42 = .ok (.aload_n 0, 1) := by decide +kernel
theorem dX4_raise_43 : decode cX4_raise 43 = .ok (.getfield 10, 3) := by decide +kernel
theorem dX4_raise_46 : decode cX4_raise 46 = .ok (.iload_n 1, 1) := by decide +kernel
theorem dX4_raise_47 : decode cX4_raise 47 = .ok (.invokevirtual 95, 3) := by decide +kernel
theorem dX4_raise_50 : decode cX4_raise 50 = .ok (.istore_n 3, 1) := by decide +kernel
theorem dX4_raise_51 : decode cX4_raise 51 = .ok (.aload_n 0, 1) := by decide +kernel
theorem dX4_raise_52 : decode cX4_raise 52 = .ok (.getfield 10, 3) := by decide +kernel
theorem dX4_raise_55 : decode cX4_raise 55 = .ok (.iload_n 1, 1) := by decide +kernel
theorem dX4_raise_56 : decode cX4_raise 56 = .ok (.iload_n 2, 1) := by decide +kernel
theorem dX4_raise_57 : decode cX4_raise 57 = .ok (.invokevirtual 99, 3) := by decide +kernel
theorem dX4_raise_60 : decode cX4_raise 60 = .ok (.aload_n 0, 1) := by decide +kernel
theorem dX4_raise_61 : decode cX4_raise 61 = .ok (.getfield 10, 3) := by decide +kernel
theorem dX4_raise_64 : decode cX4_raise 64 = .ok (.iload_n 1, 1) := by decide +kernel
theorem dX4_raise_65 : decode cX4_raise 65 = .ok (.invokevirtual 95, 3) := by decide +kernel
theorem dX4_raise_68 : decode cX4_raise 68 = .ok (.iload_n 3, 1) := by decide +kernel
theorem dX4_raise_69 : decode cX4_raise 69 = .ok (.isub, 1) := by decide +kernel
theorem dX4_raise_70 : decode cX4_raise 70 = .ok (.ireturn, 1) := by decide +kernel
set_option maxRecDepth 20000 in
theorem ggX4_lower_X4_needBread : GoodIn wsX4_lower wsX4_needBread := goodIn_ca (goodIn_r _ [9, 10, 11, 3, 12, 13, 14, 15, 16, 17, 103, 104, 105, 106, 107, 108, 109, 110, 111, 112, 113, 114, 115, 116, 117, 118, 119, 120, 121] (by decide +kernel) (by decide +kernel)) (goodIn_sub (fun _ h => List.mem_cons_of_mem _ (List.mem_append_left _ (List.mem_append_right _ h))) (by decide +kernel))
set_option maxRecDepth 20000 in
theorem gX4_lower_X4_needBread : GoodIn wsX4_lower (wsV RX4 69 RX4 yX4_needBread wsX4_needBread) := goodIn_app (goodIn_of _ (by decide +kernel)) ggX4_lower_X4_needBread
set_option maxRecDepth 20000 in
theorem ggX4_lower_X4_needShare : GoodIn wsX4_lower wsX4_needShare := goodIn_ca (goodIn_r _ [20, 21, 22] (by decide +kernel) (by decide +kernel)) (goodIn_sub (fun _ h => List.mem_cons_of_mem _ (List.mem_append_right _ h)) (by decide +kernel))
set_option maxRecDepth 20000 in
theorem gX4_lower_X4_needShare : GoodIn wsX4_lower (va_wsS RX4 86 yX4_needShare wsX4_needShare) := goodIn_app (goodIn_of _ (by decide +kernel)) ggX4_lower_X4_needShare
set_option maxRecDepth 20000 in
theorem ggX4_lower_X3_canLower : GoodIn wsX4_lower wsX3_canLower := goodIn_r _ [26, 27, 28, 29, 30, 15, 31, 32, 33, 13, 14, 16, 17, 107, 108, 109, 110, 111, 112, 113, 114, 115, 116, 117, 118, 119, 120, 121] (by decide +kernel) (by decide +kernel)
set_option maxRecDepth 20000 in
theorem gX4_lower_X3_canLower : GoodIn wsX4_lower (wsV RX4 103 RX3 yX3_canLower wsX3_canLower) := goodIn_app (goodIn_of _ (by decide +kernel)) ggX4_lower_X3_canLower
set_option maxRecDepth 20000 in
theorem ggX4_lower_X1_save : GoodIn wsX4_lower wsX1_save := goodIn_r _ [38, 39, 40, 41, 42, 43, 37, 44, 45, 46, 47, 48, 15, 49, 17, 50, 51, 32, 52, 53, 54, 55, 56, 57, 58, 27, 59, 60, 61, 62, 63, 64, 65, 122, 123, 124, 107, 108, 109, 110, 111, 112, 113, 114, 115, 116, 117, 118, 119, 120, 121] (by decide +kernel) (by decide +kernel)
set_option maxRecDepth 20000 in
theorem gX4_lower_X1_save : GoodIn wsX4_lower (wsV RX4 61 RX1 yX1_save wsX1_save) := goodIn_app (goodIn_of _ (by decide +kernel)) ggX4_lower_X1_save
set_option maxRecDepth 20000 in
theorem ggX4_lower_X3_eaters : GoodIn wsX4_lower wsX3_eaters := goodIn_r _ [69, 70, 71, 72, 15, 73, 53, 60, 58, 74, 8, 75, 76, 77, 78, 79, 80, 81, 82, 83, 32, 63, 62, 52, 64, 84, 85, 86, 87, 88, 89, 90, 91, 92, 93, 94, 61, 27, 107, 108, 109, 110, 111, 112, 113, 114, 115, 116, 117, 118, 119, 120, 121] (by decide +kernel) (by decide +kernel)
set_option maxRecDepth 20000 in
theorem gX4_lower_X3_eaters : GoodIn wsX4_lower (wsV RX4 95 RX3 yX3_eaters wsX3_eaters) := goodIn_app (goodIn_of _ (by decide +kernel)) ggX4_lower_X3_eaters
set_option maxRecDepth 20000 in
theorem ggX4_lower_X3_lowerTo : GoodIn wsX4_lower wsX3_lowerTo := goodIn_r _ [98, 53, 27, 74, 8, 75, 99, 100, 101, 15, 102, 61, 107, 108, 109, 110, 111, 112, 113, 114, 115, 116, 117, 118, 119, 120, 121] (by decide +kernel) (by decide +kernel)
set_option maxRecDepth 20000 in
theorem gX4_lower_X3_lowerTo : GoodIn wsX4_lower (wsV RX4 108 RX3 yX3_lowerTo wsX3_lowerTo) := goodIn_app (goodIn_of _ (by decide +kernel)) ggX4_lower_X3_lowerTo
theorem dX4_lower_0 : decode cX4_lower 0 = .ok (.aload_n 0, 1) := by decide +kernel
theorem dX4_lower_1 : decode cX4_lower 1 = .ok (.iload_n 1, 1) := by decide +kernel
theorem dX4_lower_2 : decode cX4_lower 2 = .ok (.invokevirtual 69, 3) := by decide +kernel
theorem dX4_lower_5 : decode cX4_lower 5 = .ok (.iload_n 2, 1) := by decide +kernel
theorem dX4_lower_6 : decode cX4_lower 6 = .ok (.invokestatic 86, 3) := by decide +kernel
theorem dX4_lower_9 : decode cX4_lower 9 = .ok (.aload_n 0, 1) := by decide +kernel
theorem dX4_lower_10 : decode cX4_lower 10 = .ok (.getfield 10, 3) := by decide +kernel
theorem dX4_lower_13 : decode cX4_lower 13 = .ok (.iload_n 1, 1) := by decide +kernel
theorem dX4_lower_14 : decode cX4_lower 14 = .ok (.iload_n 2, 1) := by decide +kernel
theorem dX4_lower_15 : decode cX4_lower 15 = .ok (.invokevirtual 103, 3) := by decide +kernel
theorem dX4_lower_18 : decode cX4_lower 18 = .ok (.ifCond .ne 13, 3) := by decide +kernel
theorem dX4_lower_21 : decode cX4_lower 21 = .ok (.new 56, 3) := by decide +kernel
theorem dX4_lower_24 : decode cX4_lower 24 = .ok (.dup, 1) := by decide +kernel
theorem dX4_lower_25 : decode cX4_lower 25 = .ok (.ldc 106, 2) := by decide +kernel
theorem dX4_lower_27 : decode cX4_lower 27 = .ok (.invokespecial 60, 3) := by decide +kernel
theorem dX4_lower_30 : decode cX4_lower 30 = .ok (.athrow, 1) := by decide +kernel
theorem dX4_lower_31 : decode cX4_lower 31 = .ok (.aload_n 0, 1) := by decide +kernel
theorem dX4_lower_32 : decode cX4_lower 32 = .ok (.getfield 19, 3) := by decide +kernel
theorem dX4_lower_35 : decode cX4_lower 35 = .ok (.aload_n 0, 1) := by decide +kernel
theorem dX4_lower_36 : decode cX4_lower 36 = .ok (.getfield 10, 3) := by decide +kernel
theorem dX4_lower_39 : decode cX4_lower 39 = .ok (.invokevirtual 61, 3) := by decide +kernel
theorem dX4_lower_42 : decode cX4_lower 42 = .ok (.aload_n 0, 1) := by decide +kernel
theorem dX4_lower_43 : decode cX4_lower 43 = .ok (.getfield 10, 3) := by decide +kernel
theorem dX4_lower_46 : decode cX4_lower 46 = .ok (.iload_n 1, 1) := by decide +kernel
theorem dX4_lower_47 : decode cX4_lower 47 = .ok (.invokevirtual 95, 3) := by decide +kernel
theorem dX4_lower_50 : decode cX4_lower 50 = .ok (.istore_n 3, 1) := by decide +kernel
theorem dX4_lower_51 : decode cX4_lower 51 = .ok (.aload_n 0, 1) := by decide +kernel
theorem dX4_lower_52 : decode cX4_lower 52 = .ok (.getfield 10, 3) := by decide +kernel
theorem dX4_lower_55 : decode cX4_lower 55 = .ok (.iload_n 1, 1) := by decide +kernel
theorem dX4_lower_56 : decode cX4_lower 56 = .ok (.iload_n 2, 1) := by decide +kernel
theorem dX4_lower_57 : decode cX4_lower 57 = .ok (.invokevirtual 108, 3) := by decide +kernel
theorem dX4_lower_60 : decode cX4_lower 60 = .ok (.iload_n 3, 1) := by decide +kernel
theorem dX4_lower_61 : decode cX4_lower 61 = .ok (.aload_n 0, 1) := by decide +kernel
theorem dX4_lower_62 : decode cX4_lower 62 = .ok (.getfield 10, 3) := by decide +kernel
theorem dX4_lower_65 : decode cX4_lower 65 = .ok (.iload_n 1, 1) := by decide +kernel
theorem dX4_lower_66 : decode cX4_lower 66 = .ok (.invokevirtual 95, 3) := by decide +kernel
theorem dX4_lower_69 : decode cX4_lower 69 = .ok (.isub, 1) := by decide +kernel
theorem dX4_lower_70 : decode cX4_lower 70 = .ok (.ireturn, 1) := by decide +kernel
set_option maxRecDepth 20000 in
theorem ggX4_resalt_X4_needBread : GoodIn wsX4_resalt wsX4_needBread := goodIn_ca (goodIn_r _ [10, 11, 12, 3, 13, 14, 15, 16, 17, 18, 100, 101, 102, 103, 104, 105, 106, 107, 108, 109, 110, 111, 112, 113, 114, 115, 116, 117, 118] (by decide +kernel) (by decide +kernel)) (goodIn_sub (fun _ h => List.mem_cons_of_mem _ (List.mem_append_left _ (List.mem_append_right _ h))) (by decide +kernel))
set_option maxRecDepth 20000 in
theorem gX4_resalt_X4_needBread : GoodIn wsX4_resalt (wsV RX4 69 RX4 yX4_needBread wsX4_needBread) := goodIn_app (goodIn_of _ (by decide +kernel)) ggX4_resalt_X4_needBread
set_option maxRecDepth 20000 in
theorem ggX4_resalt_X4_needSalt : GoodIn wsX4_resalt wsX4_needSalt := goodIn_ca (goodIn_r _ [21, 22, 23] (by decide +kernel) (by decide +kernel)) (goodIn_sub (fun _ h => List.mem_cons_of_mem _ (List.mem_append_right _ h)) (by decide +kernel))
set_option maxRecDepth 20000 in
theorem gX4_resalt_X4_needSalt : GoodIn wsX4_resalt (va_wsS RX4 48 yX4_needSalt wsX4_needSalt) := goodIn_app (goodIn_of _ (by decide +kernel)) ggX4_resalt_X4_needSalt
set_option maxRecDepth 20000 in
theorem ggX4_resalt_X4_needOpen : GoodIn wsX4_resalt wsX4_needOpen := goodIn_ca (goodIn_r _ [27, 1, 2, 3, 28, 29, 30, 16, 31, 32, 33, 14, 15, 17, 18, 100, 101, 102, 103, 104, 105, 106, 107, 108, 109, 110, 111, 112, 113, 114, 115, 116, 117, 118] (by decide +kernel) (by decide +kernel)) (goodIn_sub (fun _ h => List.mem_cons_of_mem _ (List.mem_append_left _ (List.mem_append_left _ (List.mem_append_right _ h)))) (by decide +kernel))
set_option maxRecDepth 20000 in
theorem gX4_resalt_X4_needOpen : GoodIn wsX4_resalt (wsV RX4 72 RX4 yX4_needOpen wsX4_needOpen) := goodIn_app (goodIn_of _ (by decide +kernel)) ggX4_resalt_X4_needOpen
set_option maxRecDepth 20000 in
theorem ggX4_resalt_X3_isInGroup : GoodIn wsX4_resalt wsX3_isInGroup := goodIn_r _ [37, 38, 39, 9, 40, 104, 105, 106, 107, 108, 109, 110, 111, 112, 113, 114, 115, 116, 117, 118] (by decide +kernel) (by decide +kernel)
set_option maxRecDepth 20000 in
theorem gX4_resalt_X3_isInGroup : GoodIn wsX4_resalt (wsV RX4 111 RX3 yX3_isInGroup wsX3_isInGroup) := goodIn_app (goodIn_of _ (by decide +kernel)) ggX4_resalt_X3_isInGroup
set_option maxRecDepth 20000 in
theorem ggX4_resalt_X1_save : GoodIn wsX4_resalt wsX1_save := goodIn_r _ [45, 46, 47, 48, 49, 50, 44, 51, 52, 53, 54, 55, 16, 56, 18, 57, 58, 32, 59, 38, 60, 61, 62, 63, 64, 65, 66, 67, 68, 69, 70, 71, 72, 119, 120, 121, 104, 105, 106, 107, 108, 109, 110, 111, 112, 113, 114, 115, 116, 117, 118] (by decide +kernel) (by decide +kernel)
set_option maxRecDepth 20000 in
theorem gX4_resalt_X1_save : GoodIn wsX4_resalt (wsV RX4 61 RX1 yX1_save wsX1_save) := goodIn_app (goodIn_of _ (by decide +kernel)) ggX4_resalt_X1_save
set_option maxRecDepth 20000 in
theorem ggX4_resalt_X3_changedBySalt : GoodIn wsX4_resalt wsX3_changedBySalt := goodIn_r _ [76, 77, 78, 79, 16, 80, 32, 70, 69, 59, 71, 81, 9, 82, 83, 84, 85, 86, 87, 88, 89, 90, 91, 38, 68, 65, 92, 93, 94, 95, 96, 97, 98, 99, 67, 64, 39, 40, 104, 105, 106, 107, 108, 109, 110, 111, 112, 113, 114, 115, 116, 117, 118] (by decide +kernel) (by decide +kernel)
set_option maxRecDepth 20000 in
theorem gX4_resalt_X3_changedBySalt : GoodIn wsX4_resalt (wsV RX4 116 RX3 yX3_changedBySalt wsX3_changedBySalt) := goodIn_app (goodIn_of _ (by decide +kernel)) ggX4_resalt_X3_changedBySalt
theorem dX4_resalt_0 : decode cX4_resalt 0 = .ok (.aload_n 0, 1) := by decide +kernel
theorem dX4_resalt_1 : decode cX4_resalt 1 = .ok (.iload_n 1, 1) := by decide +kernel
theorem dX4_resalt_2 : decode cX4_resalt 2 = .ok (.invokevirtual 69, 3) := by decide +kernel
theorem dX4_resalt_5 : decode cX4_resalt 5 = .ok (.iload_n 2, 1) := by decide +kernel
theorem dX4_resalt_6 : decode cX4_resalt 6 = .ok (.invokestatic 48, 3) := by decide +kernel
theorem dX4_resalt_9 : decode cX4_resalt 9 = .ok (.aload_n 0, 1) := by decide +kernel
theorem dX4_resalt_10 : decode cX4_resalt 10 = .ok (.iload_n 1, 1) := by decide +kernel
theorem dX4_resalt_11 : decode cX4_resalt 11 = .ok (.invokevirtual 72, 3) := by decide +kernel
theorem dX4_resalt_14 : decode cX4_resalt 14 = .ok (.aload_n 0, 1) := by decide +kernel
theorem dX4_resalt_15 : decode cX4_resalt 15 = .ok (.getfield 10, 3) := by decide +kernel
theorem dX4_resalt_18 : decode cX4_resalt 18 = .ok (.iload_n 1, 1) := by decide +kernel
theorem dX4_resalt_19 : decode cX4_resalt 19 = .ok (.invokevirtual 111, 3) := by decide +kernel
theorem dX4_resalt_22 : decode cX4_resalt 22 = .ok (.ifCond .eq 13, 3) := by decide +kernel
theorem dX4_resalt_25 : decode cX4_resalt 25 = .ok (.new 56, 3) := by decide +kernel
theorem dX4_resalt_28 : decode cX4_resalt 28 = .ok (.dup, 1) := by decide +kernel
theorem dX4_resalt_29 : decode cX4_resalt 29 = .ok (.ldc 114, 2) := by decide +kernel
theorem dX4_resalt_31 : decode cX4_resalt 31 = .ok (.invokespecial 60, 3) := by decide +kernel
theorem dX4_resalt_34 : decode cX4_resalt 34 = .ok (.athrow, 1) := by decide +kernel
theorem dX4_resalt_35 : decode cX4_resalt 35 = .ok (.aload_n 0, 1) := by decide +kernel
theorem dX4_resalt_36 : decode cX4_resalt 36 = .ok (.getfield 19, 3) := by decide +kernel
theorem dX4_resalt_39 : decode cX4_resalt 39 = .ok (.aload_n 0, 1) := by decide +kernel
theorem dX4_resalt_40 : decode cX4_resalt 40 = .ok (.getfield 10, 3) := by decide +kernel
theorem dX4_resalt_43 : decode cX4_resalt 43 = .ok (.invokevirtual 61, 3) := by decide +kernel
theorem dX4_resalt_46 : decode cX4_resalt 46 = .ok (.aload_n 0, 1) := by decide +kernel
theorem dX4_resalt_47 : decode cX4_resalt 47 = .ok (.getfield 10, 3) := by decide +kernel
theorem dX4_resalt_50 : decode cX4_resalt 50 = .ok (.iload_n 1, 1) := by decide +kernel
theorem dX4_resalt_51 : decode cX4_resalt 51 = .ok (.iload_n 2, 1) := by decide +kernel
theorem dX4_resalt_52 : decode cX4_resalt 52 = .ok (.invokevirtual 116, 3) := by decide +kernel
theorem dX4_resalt_55 : decode cX4_resalt 55 = .ok (.istore_n 3, 1) := by decide +kernel
theorem dX4_resalt_56 : decode cX4_resalt 56 = .ok (.aload_n 0, 1) := by decide +kernel
theorem dX4_resalt_57 : decode cX4_resalt 57 = .ok (.getfield 10, 3) := by decide +kernel
theorem dX4_resalt_60 : decode cX4_resalt 60 = .ok (.getfield 120, 3) := by decide +kernel
theorem dX4_resalt_63 : decode cX4_resalt 63 = .ok (.iload_n 1, 1) := by decide +kernel
theorem dX4_resalt_64 : decode cX4_resalt 64 = .ok (.iload_n 2, 1) := by decide +kernel
theorem dX4_resalt_65 : decode cX4_resalt 65 = .ok (.iastore, 1) := by decide +kernel
theorem dX4_resalt_66 : decode cX4_resalt 66 = .ok (.iload_n 3, 1) := by decide +kernel
theorem dX4_resalt_67 : decode cX4_resalt 67 = .ok (.ireturn, 1) := by decide +kernel
set_option maxRecDepth 20000 in
theorem ggX4_shake_X4_needGroup : GoodIn wsX4_shake wsX4_needGroup := goodIn_ca (goodIn_r _ [7, 8, 9, 10, 11, 6, 12] (by decide +kernel) (by decide +kernel)) (goodIn_sub (fun _ h => List.mem_cons_of_mem _ (List.mem_append_left _ (List.mem_append_right _ h))) (by decide +kernel))
set_option maxRecDepth 20000 in
theorem gX4_shake_X4_needGroup : GoodIn wsX4_shake (va_wsS RX4 123 yX4_needGroup wsX4_needGroup) := goodIn_app (goodIn_of _ (by decide +kernel)) ggX4_shake_X4_needGroup
set_option maxRecDepth 20000 in
theorem ggX4_shake_X4_needSalt : GoodIn wsX4_shake wsX4_needSalt := goodIn_ca (goodIn_r _ [15, 16, 17] (by decide +kernel) (by decide +kernel)) (goodIn_sub (fun _ h => List.mem_cons_of_mem _ (List.mem_append_right _ h)) (by decide +kernel))
set_option maxRecDepth 20000 in
theorem gX4_shake_X4_needSalt : GoodIn wsX4_shake (va_wsS RX4 48 yX4_needSalt wsX4_needSalt) := goodIn_app (goodIn_of _ (by decide +kernel)) ggX4_shake_X4_needSalt
set_option maxRecDepth 20000 in
theorem ggX4_shake_X1_save : GoodIn wsX4_shake wsX1_save := goodIn_r _ [22, 23, 24, 25, 26, 27, 21, 28, 29, 30, 31, 32, 33, 34, 35, 36, 37, 38, 39, 40, 41, 42, 43, 44, 45, 46, 47, 48, 49, 50, 51, 52, 53, 73, 74, 75, 58, 59, 60, 61, 62, 63, 64, 65, 66, 67, 68, 69, 70, 71, 72] (by decide +kernel) (by decide +kernel)
set_option maxRecDepth 20000 in
theorem gX4_shake_X1_save : GoodIn wsX4_shake (wsV RX4 61 RX1 yX1_save wsX1_save) := goodIn_app (goodIn_of _ (by decide +kernel)) ggX4_shake_X1_save
theorem dX4_shake_0 : decode cX4_shake 0 = .ok (.iload_n 1, 1) := by decide +kernel
theorem dX4_shake_1 : decode cX4_shake 1 = .ok (.invokestatic 123, 3) := by decide +kernel
theorem dX4_shake_4 : decode cX4_shake 4 = .ok (.iload_n 2, 1) := by decide +kernel
theorem dX4_shake_5 : decode cX4_shake 5 = .ok (.invokestatic 48, 3) := by decide +kernel
theorem dX4_shake_8 : decode cX4_shake 8 = .ok (.aload_n 0, 1) := by decide +kernel
theorem dX4_shake_9 : decode cX4_shake 9 = .ok (.getfield 19, 3) := by decide +kernel
theorem dX4_shake_12 : decode cX4_shake 12 = .ok (.aload_n 0, 1) := by decide +kernel
theorem dX4_shake_13 : decode cX4_shake 13 = .ok (.getfield 10, 3) := by decide +kernel
theorem dX4_shake_16 : decode cX4_shake 16 = .ok (.invokevirtual 61, 3) := by decide +kernel
theorem dX4_shake_19 : decode cX4_shake 19 = .ok (.aload_n 0, 1) := by decide +kernel
theorem dX4_shake_20 : decode cX4_shake 20 = .ok (.getfield 10, 3) := by decide +kernel
theorem dX4_shake_23 : decode cX4_shake 23 = .ok (.getfield 126, 3) := by decide +kernel
theorem dX4_shake_26 : decode cX4_shake 26 = .ok (.iload_n 1, 1) := by decide +kernel
theorem dX4_shake_27 : decode cX4_shake 27 = .ok (.iaload, 1) := by decide +kernel
theorem dX4_shake_28 : decode cX4_shake 28 = .ok (.istore_n 3, 1) := by decide +kernel
theorem dX4_shake_29 : decode cX4_shake 29 = .ok (.aload_n 0, 1) := by decide +kernel
theorem dX4_shake_30 : decode cX4_shake 30 = .ok (.getfield 10, 3) := by decide +kernel
theorem dX4_shake_33 : decode cX4_shake 33 = .ok (.getfield 126, 3) := by decide +kernel
theorem dX4_shake_36 : decode cX4_shake 36 = .ok (.iload_n 1, 1) := by decide +kernel
theorem dX4_shake_37 : decode cX4_shake 37 = .ok (.iload_n 2, 1) := by decide +kernel
theorem dX4_shake_38 : decode cX4_shake 38 = .ok (.iastore, 1) := by decide +kernel
theorem dX4_shake_39 : decode cX4_shake 39 = .ok (.iload_n 3, 1) := by decide +kernel
theorem dX4_shake_40 : decode cX4_shake 40 = .ok (.ireturn, 1) := by decide +kernel
set_option maxRecDepth 20000 in
theorem ggX4_hold_X4_needPerson : GoodIn wsX4_hold wsX4_needPerson := goodIn_ca (goodIn_r _ [6, 7, 8] (by decide +kernel) (by decide +kernel)) (goodIn_sub (fun _ h => List.mem_cons_of_mem _ (List.mem_append_left _ (List.mem_append_right _ h))) (by decide +kernel))
set_option maxRecDepth 20000 in
theorem gX4_hold_X4_needPerson : GoodIn wsX4_hold (va_wsS RX4 129 yX4_needPerson wsX4_needPerson) := goodIn_app (goodIn_of _ (by decide +kernel)) ggX4_hold_X4_needPerson
set_option maxRecDepth 20000 in
theorem ggX4_hold_X4_needBread : GoodIn wsX4_hold wsX4_needBread := goodIn_ca (goodIn_r _ [12, 7, 8, 2, 13, 14, 15, 16, 17, 18, 97, 98, 99, 100, 101, 102, 103, 104, 105, 106, 107, 108, 109, 110, 111, 112, 113, 114, 115] (by decide +kernel) (by decide +kernel)) (goodIn_sub (fun _ h => List.mem_cons_of_mem _ (List.mem_append_left _ (List.mem_append_right _ h))) (by decide +kernel))
set_option maxRecDepth 20000 in
theorem gX4_hold_X4_needBread : GoodIn wsX4_hold (wsV RX4 69 RX4 yX4_needBread wsX4_needBread) := goodIn_app (goodIn_of _ (by decide +kernel)) ggX4_hold_X4_needBread
set_option maxRecDepth 20000 in
theorem ggX4_hold_X4_needOpen : GoodIn wsX4_hold wsX4_needOpen := goodIn_ca (goodIn_r _ [22, 23, 24, 2, 25, 26, 27, 16, 28, 29, 30, 14, 15, 17, 18, 97, 98, 99, 100, 101, 102, 103, 104, 105, 106, 107, 108, 109, 110, 111, 112, 113, 114, 115] (by decide +kernel) (by decide +kernel)) (goodIn_sub (fun _ h => List.mem_cons_of_mem _ (List.mem_append_right _ h)) (by decide +kernel))
set_option maxRecDepth 20000 in
theorem gX4_hold_X4_needOpen : GoodIn wsX4_hold (wsV RX4 72 RX4 yX4_needOpen wsX4_needOpen) := goodIn_app (goodIn_of _ (by decide +kernel)) ggX4_hold_X4_needOpen
set_option maxRecDepth 20000 in
theorem ggX4_hold_X1_save : GoodIn wsX4_hold wsX1_save := goodIn_r _ [35, 36, 37, 38, 39, 40, 34, 41, 42, 43, 44, 45, 16, 46, 18, 47, 48, 29, 49, 50, 51, 52, 53, 54, 55, 56, 57, 58, 59, 60, 61, 62, 63, 116, 117, 118, 101, 102, 103, 104, 105, 106, 107, 108, 109, 110, 111, 112, 113, 114, 115] (by decide +kernel) (by decide +kernel)
set_option maxRecDepth 20000 in
theorem gX4_hold_X1_save : GoodIn wsX4_hold (wsV RX4 61 RX1 yX1_save wsX1_save) := goodIn_app (goodIn_of _ (by decide +kernel)) ggX4_hold_X1_save
set_option maxRecDepth 20000 in
theorem ggX4_hold_X3_isEating : GoodIn wsX4_hold wsX3_isEating := goodIn_r _ [67, 68, 69, 70, 16, 71, 50, 58, 55, 72, 5, 73, 74, 75, 76, 77, 29, 61, 60, 49, 62, 78, 79, 80, 81, 82, 83, 84, 85, 86, 87, 88, 59, 56, 101, 102, 103, 104, 105, 106, 107, 108, 109, 110, 111, 112, 113, 114, 115] (by decide +kernel) (by decide +kernel)
set_option maxRecDepth 20000 in
theorem gX4_hold_X3_isEating : GoodIn wsX4_hold (wsV RX4 132 RX3 yX3_isEating wsX3_isEating) := goodIn_app (goodIn_of _ (by decide +kernel)) ggX4_hold_X3_isEating
set_option maxRecDepth 20000 in
theorem ggX4_hold_X3_setHold : GoodIn wsX4_hold wsX3_setHold := goodIn_r _ [92, 60, 61, 93, 94, 95, 16, 96, 101, 102, 103, 104, 105, 106, 107, 108, 109, 110, 111, 112, 113, 114, 115] (by decide +kernel) (by decide +kernel)
set_option maxRecDepth 20000 in
theorem gX4_hold_X3_setHold : GoodIn wsX4_hold (wsV RX4 135 RX3 yX3_setHold wsX3_setHold) := goodIn_app (goodIn_of _ (by decide +kernel)) ggX4_hold_X3_setHold
theorem dX4_hold_0 : decode cX4_hold 0 = .ok (.iload_n 1, 1) := by decide +kernel
theorem dX4_hold_1 : decode cX4_hold 1 = .ok (.invokestatic 129, 3) := by decide +kernel
theorem dX4_hold_4 : decode cX4_hold 4 = .ok (.aload_n 0, 1) := by decide +kernel
theorem dX4_hold_5 : decode cX4_hold 5 = .ok (.iload_n 2, 1) := by decide +kernel
theorem dX4_hold_6 : decode cX4_hold 6 = .ok (.invokevirtual 69, 3) := by decide +kernel
theorem dX4_hold_9 : decode cX4_hold 9 = .ok (.aload_n 0, 1) := by decide +kernel
theorem dX4_hold_10 : decode cX4_hold 10 = .ok (.iload_n 2, 1) := by decide +kernel
theorem dX4_hold_11 : decode cX4_hold 11 = .ok (.invokevirtual 72, 3) := by decide +kernel
theorem dX4_hold_14 : decode cX4_hold 14 = .ok (.aload_n 0, 1) := by decide +kernel
theorem dX4_hold_15 : decode cX4_hold 15 = .ok (.getfield 19, 3) := by decide +kernel
theorem dX4_hold_18 : decode cX4_hold 18 = .ok (.aload_n 0, 1) := by decide +kernel
theorem dX4_hold_19 : decode cX4_hold 19 = .ok (.getfield 10, 3) := by decide +kernel
theorem dX4_hold_22 : decode cX4_hold 22 = .ok (.invokevirtual 61, 3) := by decide +kernel
theorem dX4_hold_25 : decode cX4_hold 25 = .ok (.aload_n 0, 1) := by decide +kernel
theorem dX4_hold_26 : decode cX4_hold 26 = .ok (.getfield 10, 3) := by decide +kernel
theorem dX4_hold_29 : decode cX4_hold 29 = .ok (.iload_n 1, 1) := by decide +kernel
theorem dX4_hold_30 : decode cX4_hold 30 = .ok (.iload_n 2, 1) := by decide +kernel
theorem dX4_hold_31 : decode cX4_hold 31 = .ok (.invokevirtual 132, 3) := by decide +kernel
theorem dX4_hold_34 : decode cX4_hold 34 = .ok (.istore 4, 2) := by decide +kernel
theorem dX4_hold_36 : decode cX4_hold 36 = .ok (.aload_n 0, 1) := by decide +kernel
theorem dX4_hold_37 : decode cX4_hold 37 = .ok (.getfield 10, 3) := by decide +kernel
theorem dX4_hold_40 : decode cX4_hold 40 = .ok (.iload_n 1, 1) := by decide +kernel
theorem dX4_hold_41 : decode cX4_hold 41 = .ok (.iload_n 2, 1) := by decide +kernel
theorem dX4_hold_42 : decode cX4_hold 42 = .ok (.iload_n 3, 1) := by decide +kernel
theorem dX4_hold_43 : decode cX4_hold 43 = .ok (.invokevirtual 135, 3) := by decide +kernel
theorem dX4_hold_46 : decode cX4_hold 46 = .ok (.aload_n 0, 1) := by decide +kernel
theorem dX4_hold_47 : decode cX4_hold 47 = .ok (.getfield 10, 3) := by decide +kernel
theorem dX4_hold_50 : decode cX4_hold 50 = .ok (.iload_n 1, 1) := by decide +kernel
theorem dX4_hold_51 : decode cX4_hold 51 = .ok (.iload_n 2, 1) := by decide +kernel
theorem dX4_hold_52 : decode cX4_hold 52 = .ok (.invokevirtual 132, 3) := by decide +kernel
theorem dX4_hold_55 : decode cX4_hold 55 = .ok (.iload 4, 2) := by decide +kernel
theorem dX4_hold_57 : decode cX4_hold 57 = .ok (.if_icmp .ne 7, 3) := by decide +kernel
theorem dX4_hold_60 : decode cX4_hold 60 = .ok (.iconst 0, 1) := by decide +kernel
theorem dX4_hold_61 : decode cX4_hold 61 = .ok (.goto 4, 3) := by decide +kernel
theorem dX4_hold_64 : decode cX4_hold 64 = .ok (.iconst 1, 1) := by decide +kernel
theorem dX4_hold_65 : decode cX4_hold 65 = .ok (.ireturn, 1) := by decide +kernel
set_option maxRecDepth 20000 in
theorem ggX4_letGo_X4_needPerson : GoodIn wsX4_letGo wsX4_needPerson := goodIn_ca (goodIn_r _ [8, 9, 10] (by decide +kernel) (by decide +kernel)) (goodIn_sub (fun _ h => List.mem_cons_of_mem _ (List.mem_append_right _ h)) (by decide +kernel))
set_option maxRecDepth 20000 in
theorem gX4_letGo_X4_needPerson : GoodIn wsX4_letGo (va_wsS RX4 129 yX4_needPerson wsX4_needPerson) := goodIn_app (goodIn_of _ (by decide +kernel)) ggX4_letGo_X4_needPerson
set_option maxRecDepth 20000 in
theorem ggX4_letGo_X4_needBread : GoodIn wsX4_letGo wsX4_needBread := goodIn_ca (goodIn_r _ [14, 9, 10, 3, 15, 16, 17, 18, 19, 20, 88, 89, 90, 91, 92, 93, 94, 95, 96, 97, 98, 99, 100, 101, 102, 103, 104, 105, 106] (by decide +kernel) (by decide +kernel)) (goodIn_sub (fun _ h => List.mem_cons_of_mem _ (List.mem_append_right _ h)) (by decide +kernel))
set_option maxRecDepth 20000 in
theorem gX4_letGo_X4_needBread : GoodIn wsX4_letGo (wsV RX4 69 RX4 yX4_needBread wsX4_needBread) := goodIn_app (goodIn_of _ (by decide +kernel)) ggX4_letGo_X4_needBread
set_option maxRecDepth 20000 in
theorem ggX4_letGo_X3_isHeld : GoodIn wsX4_letGo wsX3_isHeld := goodIn_r _ [24, 25, 26, 92, 93, 94, 95, 96, 97, 98, 99, 100, 101, 102, 103, 104, 105, 106] (by decide +kernel) (by decide +kernel)
set_option maxRecDepth 20000 in
theorem gX4_letGo_X3_isHeld : GoodIn wsX4_letGo (wsV RX4 139 RX3 yX3_isHeld wsX3_isHeld) := goodIn_app (goodIn_of _ (by decide +kernel)) ggX4_letGo_X3_isHeld
set_option maxRecDepth 20000 in
theorem ggX4_letGo_X1_save : GoodIn wsX4_letGo wsX1_save := goodIn_r _ [31, 32, 33, 34, 35, 36, 30, 37, 38, 39, 40, 41, 18, 42, 20, 43, 44, 45, 46, 47, 48, 49, 50, 51, 52, 53, 54, 55, 56, 25, 26, 57, 58, 107, 108, 109, 92, 93, 94, 95, 96, 97, 98, 99, 100, 101, 102, 103, 104, 105, 106] (by decide +kernel) (by decide +kernel)
set_option maxRecDepth 20000 in
theorem gX4_letGo_X1_save : GoodIn wsX4_letGo (wsV RX4 61 RX1 yX1_save wsX1_save) := goodIn_app (goodIn_of _ (by decide +kernel)) ggX4_letGo_X1_save
set_option maxRecDepth 20000 in
theorem ggX4_letGo_X3_isEating : GoodIn wsX4_letGo wsX3_isEating := goodIn_r _ [62, 63, 64, 65, 18, 66, 47, 55, 52, 67, 7, 68, 69, 70, 71, 72, 45, 26, 25, 46, 57, 73, 74, 75, 76, 77, 78, 79, 80, 81, 82, 83, 56, 53, 92, 93, 94, 95, 96, 97, 98, 99, 100, 101, 102, 103, 104, 105, 106] (by decide +kernel) (by decide +kernel)
set_option maxRecDepth 20000 in
theorem gX4_letGo_X3_isEating : GoodIn wsX4_letGo (wsV RX4 132 RX3 yX3_isEating wsX3_isEating) := goodIn_app (goodIn_of _ (by decide +kernel)) ggX4_letGo_X3_isEating
set_option maxRecDepth 20000 in
theorem ggX4_letGo_X3_dropHold : GoodIn wsX4_letGo wsX3_dropHold := goodIn_r _ [87, 25, 26, 92, 93, 94, 95, 96, 97, 98, 99, 100, 101, 102, 103, 104, 105, 106] (by decide +kernel) (by decide +kernel)
set_option maxRecDepth 20000 in
theorem gX4_letGo_X3_dropHold : GoodIn wsX4_letGo (wsV RX4 144 RX3 yX3_dropHold wsX3_dropHold) := goodIn_app (goodIn_of _ (by decide +kernel)) ggX4_letGo_X3_dropHold
theorem dX4_letGo_0 : decode cX4_letGo 0 = .ok (.iload_n 1, 1) := by decide +kernel
theorem dX4_letGo_1 : decode cX4_letGo 1 = .ok (.invokestatic 129, 3) := by decide +kernel
theorem dX4_letGo_4 : decode cX4_letGo 4 = .ok (.aload_n 0, 1) := by decide +kernel
theorem dX4_letGo_5 : decode cX4_letGo 5 = .ok (.iload_n 2, 1) := by decide +kernel
theorem dX4_letGo_6 : decode cX4_letGo 6 = .ok (.invokevirtual 69, 3) := by decide +kernel
theorem dX4_letGo_9 : decode cX4_letGo 9 = .ok (.aload_n 0, 1) := by decide +kernel
theorem dX4_letGo_10 : decode cX4_letGo 10 = .ok (.getfield 10, 3) := by decide +kernel
theorem dX4_letGo_13 : decode cX4_letGo 13 = .ok (.iload_n 1, 1) := by decide +kernel
theorem dX4_letGo_14 : decode cX4_letGo 14 = .ok (.iload_n 2, 1) := by decide +kernel
theorem dX4_letGo_15 : decode cX4_letGo 15 = .ok (.invokevirtual 139, 3) := by decide +kernel
theorem dX4_letGo_18 : decode cX4_letGo 18 = .ok (.ifCond .ne 13, 3) := by decide +kernel
theorem dX4_letGo_21 : decode cX4_letGo 21 = .ok (.new 56, 3) := by decide +kernel
theorem dX4_letGo_24 : decode cX4_letGo 24 = .ok (.dup, 1) := by decide +kernel
theorem dX4_letGo_25 : decode cX4_letGo 25 = .ok (.ldc 142, 2) := by decide +kernel
theorem dX4_letGo_27 : decode cX4_letGo 27 = .ok (.invokespecial 60, 3) := by decide +kernel
theorem dX4_letGo_30 : decode cX4_letGo 30 = .ok (.athrow, 1) := by decide +kernel
theorem dX4_letGo_31 : decode cX4_letGo 31 = .ok (.aload_n 0, 1) := by decide +kernel
theorem dX4_letGo_32 : decode cX4_letGo 32 = .ok (.getfield 19, 3) := by decide +kernel
theorem dX4_letGo_35 : decode cX4_letGo 35 = .ok (.aload_n 0, 1) := by decide +kernel
theorem dX4_letGo_36 : decode cX4_letGo 36 = .ok (.getfield 10, 3) := by decide +kernel
theorem dX4_letGo_39 : decode cX4_letGo 39 = .ok (.invokevirtual 61, 3) := by decide +kernel
theorem dX4_letGo_42 : decode cX4_letGo 42 = .ok (.aload_n 0, 1) := by decide +kernel
theorem dX4_letGo_43 : decode cX4_letGo 43 = .ok (.getfield 10, 3) := by decide +kernel
theorem dX4_letGo_46 : decode cX4_letGo 46 = .ok (.iload_n 1, 1) := by decide +kernel
theorem dX4_letGo_47 : decode cX4_letGo 47 = .ok (.iload_n 2, 1) := by decide +kernel
theorem dX4_letGo_48 : decode cX4_letGo 48 = .ok (.invokevirtual 132, 3) := by decide +kernel
theorem dX4_letGo_51 : decode cX4_letGo 51 = .ok (.istore_n 3, 1) := by decide +kernel
theorem dX4_letGo_52 : decode cX4_letGo 52 = .ok (.aload_n 0, 1) := by decide +kernel
theorem dX4_letGo_53 : decode cX4_letGo 53 = .ok (.getfield 10, 3) := by decide +kernel
theorem dX4_letGo_56 : decode cX4_letGo 56 = .ok (.iload_n 1, 1) := by decide +kernel
theorem dX4_letGo_57 : decode cX4_letGo 57 = .ok (.iload_n 2, 1) := by decide +kernel
theorem dX4_letGo_58 : decode cX4_letGo 58 = .ok (.invokevirtual 144, 3) := by decide +kernel
theorem dX4_letGo_61 : decode cX4_letGo 61 = .ok (.aload_n 0, 1) := by decide +kernel
theorem dX4_letGo_62 : decode cX4_letGo 62 = .ok (.getfield 10, 3) := by decide +kernel
theorem dX4_letGo_65 : decode cX4_letGo 65 = .ok (.iload_n 1, 1) := by decide +kernel
theorem dX4_letGo_66 : decode cX4_letGo 66 = .ok (.iload_n 2, 1) := by decide +kernel
theorem dX4_letGo_67 : decode cX4_letGo 67 = .ok (.invokevirtual 132, 3) := by decide +kernel
theorem dX4_letGo_70 : decode cX4_letGo 70 = .ok (.iload_n 3, 1) := by decide +kernel
theorem dX4_letGo_71 : decode cX4_letGo 71 = .ok (.if_icmp .ne 7, 3) := by decide +kernel
theorem dX4_letGo_74 : decode cX4_letGo 74 = .ok (.iconst 0, 1) := by decide +kernel
theorem dX4_letGo_75 : decode cX4_letGo 75 = .ok (.goto 4, 3) := by decide +kernel
theorem dX4_letGo_78 : decode cX4_letGo 78 = .ok (.iconst 1, 1) := by decide +kernel
theorem dX4_letGo_79 : decode cX4_letGo 79 = .ok (.ireturn, 1) := by decide +kernel
set_option maxRecDepth 20000 in
theorem ggX4_pass_X1_save : GoodIn wsX4_pass wsX1_save := goodIn_r _ [10, 11, 12, 13, 14, 15, 9, 16, 17, 18, 19, 20, 21, 22, 23, 24, 25, 26, 27, 28, 29, 30, 31, 32, 33, 34, 35, 36, 37, 38, 39, 40, 41, 98, 99, 100, 83, 84, 85, 86, 87, 88, 89, 90, 91, 92, 93, 94, 95, 96, 97] (by decide +kernel) (by decide +kernel)
set_option maxRecDepth 20000 in
theorem gX4_pass_X1_save : GoodIn wsX4_pass (wsV RX4 61 RX1 yX1_save wsX1_save) := goodIn_app (goodIn_of _ (by decide +kernel)) ggX4_pass_X1_save
set_option maxRecDepth 20000 in
theorem ggX4_pass_X3_letPass : GoodIn wsX4_pass wsX3_letPass := goodIn_r _ [45, 35, 40, 41, 25, 24, 46, 47, 48, 21, 49, 50, 51, 52, 53, 28, 36, 33, 54, 55, 56, 57, 58, 59, 60, 26, 39, 38, 27, 61, 62, 63, 64, 65, 66, 67, 68, 69, 70, 71, 37, 34, 72, 73, 74, 75, 76, 77, 78, 83, 84, 85, 86, 87, 88, 89, 90, 91, 92, 93, 94, 95, 96, 97] (by decide +kernel) (by decide +kernel)
set_option maxRecDepth 20000 in
theorem gX4_pass_X3_letPass : GoodIn wsX4_pass (wsV RX4 152 RX3 yX3_letPass wsX3_letPass) := goodIn_app (goodIn_of _ (by decide +kernel)) ggX4_pass_X3_letPass
theorem dX4_pass_0 : decode cX4_pass 0 = .ok (.iload_n 1, 1) := by decide +kernel
theorem dX4_pass_1 : decode cX4_pass 1 = .ok (.iconst 1, 1) := by decide +kernel
theorem dX4_pass_2 : decode cX4_pass 2 = .ok (.if_icmp .lt 9, 3) := by decide +kernel
theorem dX4_pass_5 : decode cX4_pass 5 = .ok (.iload_n 1, 1) := by decide +kernel
theorem dX4_pass_6 : decode cX4_pass 6 = .ok (.bipush 50, 2) := by decide +kernel
theorem dX4_pass_8 : decode cX4_pass 8 = .ok (.if_icmp .le 13, 3) := by decide +kernel
theorem dX4_pass_11 : decode cX4_pass 11 = .ok (.new 41, 3) := by decide +kernel
theorem dX4_pass_14 : decode cX4_pass 14 = .ok (.dup, 1) := by decide +kernel
theorem dX4_pass_15 : decode cX4_pass 15 = .ok (.ldc 147, 2) := by decide +kernel
theorem dX4_pass_17 : decode cX4_pass 17 = .ok (.invokespecial 45, 3) := by decide +kernel
theorem dX4_pass_20 : decode cX4_pass 20 = .ok (.athrow, 1) := by decide +kernel
theorem dX4_pass_21 : decode cX4_pass 21 = .ok (.aload_n 0, 1) := by decide +kernel
theorem dX4_pass_22 : decode cX4_pass 22 = .ok (.getfield 19, 3) := by decide +kernel
theorem dX4_pass_25 : decode cX4_pass 25 = .ok (.aload_n 0, 1) := by decide +kernel
theorem dX4_pass_26 : decode cX4_pass 26 = .ok (.getfield 10, 3) := by decide +kernel
theorem dX4_pass_29 : decode cX4_pass 29 = .ok (.invokevirtual 61, 3) := by decide +kernel
theorem dX4_pass_32 : decode cX4_pass 32 = .ok (.aload_n 0, 1) := by decide +kernel
theorem dX4_pass_33 : decode cX4_pass 33 = .ok (.getfield 10, 3) := by decide +kernel
theorem dX4_pass_36 : decode cX4_pass 36 = .ok (.getfield 149, 3) := by decide +kernel
theorem dX4_pass_39 : decode cX4_pass 39 = .ok (.istore_n 2, 1) := by decide +kernel
theorem dX4_pass_40 : decode cX4_pass 40 = .ok (.aload_n 0, 1) := by decide +kernel
theorem dX4_pass_41 : decode cX4_pass 41 = .ok (.getfield 10, 3) := by decide +kernel
theorem dX4_pass_44 : decode cX4_pass 44 = .ok (.iload_n 1, 1) := by decide +kernel
theorem dX4_pass_45 : decode cX4_pass 45 = .ok (.invokevirtual 152, 3) := by decide +kernel
theorem dX4_pass_48 : decode cX4_pass 48 = .ok (.aload_n 0, 1) := by decide +kernel
theorem dX4_pass_49 : decode cX4_pass 49 = .ok (.getfield 10, 3) := by decide +kernel
theorem dX4_pass_52 : decode cX4_pass 52 = .ok (.getfield 149, 3) := by decide +kernel
theorem dX4_pass_55 : decode cX4_pass 55 = .ok (.iload_n 2, 1) := by decide +kernel
theorem dX4_pass_56 : decode cX4_pass 56 = .ok (.isub, 1) := by decide +kernel
theorem dX4_pass_57 : decode cX4_pass 57 = .ok (.ireturn, 1) := by decide +kernel
set_option maxRecDepth 20000 in
theorem ggX4_eats_X4_needPerson : GoodIn wsX4_eats wsX4_needPerson := goodIn_ca (goodIn_r _ [5, 6, 7] (by decide +kernel) (by decide +kernel)) (goodIn_sub (fun _ h => List.mem_cons_of_mem _ (List.mem_append_right _ h)) (by decide +kernel))
set_option maxRecDepth 20000 in
theorem gX4_eats_X4_needPerson : GoodIn wsX4_eats (va_wsS RX4 129 yX4_needPerson wsX4_needPerson) := goodIn_app (goodIn_of _ (by decide +kernel)) ggX4_eats_X4_needPerson
set_option maxRecDepth 20000 in
theorem ggX4_eats_X4_needBread : GoodIn wsX4_eats wsX4_needBread := goodIn_ca (goodIn_r _ [11, 6, 7, 1, 12, 13, 14, 15, 16, 17, 49, 50, 51, 52, 53, 54, 55, 56, 57, 58, 59, 60, 61, 62, 63, 64, 65, 66, 67] (by decide +kernel) (by decide +kernel)) (goodIn_sub (fun _ h => List.mem_cons_of_mem _ (List.mem_append_right _ h)) (by decide +kernel))
set_option maxRecDepth 20000 in
theorem gX4_eats_X4_needBread : GoodIn wsX4_eats (wsV RX4 69 RX4 yX4_needBread wsX4_needBread) := goodIn_app (goodIn_of _ (by decide +kernel)) ggX4_eats_X4_needBread
set_option maxRecDepth 20000 in
theorem ggX4_eats_X3_saltOf : GoodIn wsX4_eats wsX3_saltOf := goodIn_r _ [21, 22, 23, 24, 25, 4, 26, 53, 54, 55, 56, 57, 58, 59, 60, 61, 62, 63, 64, 65, 66, 67] (by decide +kernel) (by decide +kernel)
set_option maxRecDepth 20000 in
theorem gX4_eats_X3_saltOf : GoodIn wsX4_eats (wsV RX4 189 RX3 yX3_saltOf wsX3_saltOf) := goodIn_app (goodIn_of _ (by decide +kernel)) ggX4_eats_X3_saltOf
set_option maxRecDepth 20000 in
theorem ggX4_eats_X3_reasonBy : GoodIn wsX4_eats wsX3_reasonBy := goodIn_r _ [30, 31, 32, 33, 34, 35, 36, 4, 37, 38, 39, 40, 41, 42, 43, 44, 45, 15, 46, 22, 47, 48, 53, 54, 55, 56, 57, 58, 59, 60, 61, 62, 63, 64, 65, 66, 67] (by decide +kernel) (by decide +kernel)
set_option maxRecDepth 20000 in
theorem gX4_eats_X3_reasonBy : GoodIn wsX4_eats (wsV RX4 192 RX3 yX3_reasonBy wsX3_reasonBy) := goodIn_app (goodIn_of _ (by decide +kernel)) ggX4_eats_X3_reasonBy
theorem dX4_eats_0 : decode cX4_eats 0 = .ok (.iload_n 1, 1) := by decide +kernel
theorem dX4_eats_1 : decode cX4_eats 1 = .ok (.invokestatic 129, 3) := by decide +kernel
theorem dX4_eats_4 : decode cX4_eats 4 = .ok (.aload_n 0, 1) := by decide +kernel
theorem dX4_eats_5 : decode cX4_eats 5 = .ok (.iload_n 2, 1) := by decide +kernel
theorem dX4_eats_6 : decode cX4_eats 6 = .ok (.invokevirtual 69, 3) := by decide +kernel
theorem dX4_eats_9 : decode cX4_eats 9 = .ok (.aload_n 0, 1) := by decide +kernel
theorem dX4_eats_10 : decode cX4_eats 10 = .ok (.getfield 10, 3) := by decide +kernel
theorem dX4_eats_13 : decode cX4_eats 13 = .ok (.iload_n 1, 1) := by decide +kernel
theorem dX4_eats_14 : decode cX4_eats 14 = .ok (.iload_n 2, 1) := by decide +kernel
theorem dX4_eats_15 : decode cX4_eats 15 = .ok (.aload_n 0, 1) := by decide +kernel
theorem dX4_eats_16 : decode cX4_eats 16 = .ok (.getfield 10, 3) := by decide +kernel
theorem dX4_eats_19 : decode cX4_eats 19 = .ok (.iload_n 2, 1) := by decide +kernel
theorem dX4_eats_20 : decode cX4_eats 20 = .ok (.invokevirtual 189, 3) := by decide +kernel
theorem dX4_eats_23 : decode cX4_eats 23 = .ok (.invokevirtual 192, 3) := by decide +kernel
theorem dX4_eats_26 : decode cX4_eats 26 = .ok (.ireturn, 1) := by decide +kernel
set_option maxRecDepth 20000 in
theorem ggX4_bread_X4_needBread : GoodIn wsX4_bread wsX4_needBread := goodIn_ca (goodIn_r _ [8, 9, 10, 3, 11, 12, 13, 14, 15, 16, 73, 74, 75, 76, 77, 78, 79, 80, 81, 82, 83, 84, 85, 86, 87, 88, 89, 90, 91] (by decide +kernel) (by decide +kernel)) (goodIn_sub (fun _ h => List.mem_cons_of_mem _ (List.mem_append_right _ h)) (by decide +kernel))
set_option maxRecDepth 20000 in
theorem gX4_bread_X4_needBread : GoodIn wsX4_bread (wsV RX4 69 RX4 yX4_needBread wsX4_needBread) := goodIn_app (goodIn_of _ (by decide +kernel)) ggX4_bread_X4_needBread
set_option maxRecDepth 20000 in
theorem ggX4_bread_X3_breadProperty : GoodIn wsX4_bread wsX3_breadProperty := goodIn_r _ [20, 21, 22, 23, 24, 25, 26, 27, 28, 29, 30, 31, 14, 32, 33, 34, 35, 7, 36, 37, 38, 39, 40, 41, 42, 43, 44, 45, 46, 47, 48, 49, 50, 51, 52, 53, 54, 55, 56, 57, 58, 59, 60, 61, 62, 63, 64, 65, 66, 67, 68, 69, 70, 71, 72, 77, 78, 79, 80, 81, 82, 83, 84, 85, 86, 87, 88, 89, 90, 91] (by decide +kernel) (by decide +kernel)
set_option maxRecDepth 20000 in
theorem gX4_bread_X3_breadProperty : GoodIn wsX4_bread (wsV RX4 201 RX3 yX3_breadProperty wsX3_breadProperty) := goodIn_app (goodIn_of _ (by decide +kernel)) ggX4_bread_X3_breadProperty
theorem dX4_bread_0 : decode cX4_bread 0 = .ok (.aload_n 0, 1) := by decide +kernel
theorem dX4_bread_1 : decode cX4_bread 1 = .ok (.iload_n 1, 1) := by decide +kernel
theorem dX4_bread_2 : decode cX4_bread 2 = .ok (.invokevirtual 69, 3) := by decide +kernel
theorem dX4_bread_5 : decode cX4_bread 5 = .ok (.iload_n 2, 1) := by decide +kernel
theorem dX4_bread_6 : decode cX4_bread 6 = .ok (.ifCond .lt 9, 3) := by decide +kernel
theorem dX4_bread_9 : decode cX4_bread 9 = .ok (.iload_n 2, 1) := by decide +kernel
theorem dX4_bread_10 : decode cX4_bread 10 = .ok (.bipush 11, 2) := by decide +kernel
theorem dX4_bread_12 : decode cX4_bread 12 = .ok (.if_icmp .le 13, 3) := by decide +kernel
theorem dX4_bread_15 : decode cX4_bread 15 = .ok (.new 41, 3) := by decide +kernel
theorem dX4_bread_18 : decode cX4_bread 18 = .ok (.dup, 1) := by decide +kernel
theorem dX4_bread_19 : decode cX4_bread 19 = .ok (.ldc 199, 2) := by decide +kernel
theorem dX4_bread_21 : decode cX4_bread 21 = .ok (.invokespecial 45, 3) := by decide +kernel
theorem dX4_bread_24 : decode cX4_bread 24 = .ok (.athrow, 1) := by decide +kernel
theorem dX4_bread_25 : decode cX4_bread 25 = .ok (.aload_n 0, 1) := by decide +kernel
theorem dX4_bread_26 : decode cX4_bread 26 = .ok (.getfield 10, 3) := by decide +kernel
theorem dX4_bread_29 : decode cX4_bread 29 = .ok (.iload_n 1, 1) := by decide +kernel
theorem dX4_bread_30 : decode cX4_bread 30 = .ok (.iload_n 2, 1) := by decide +kernel
theorem dX4_bread_31 : decode cX4_bread 31 = .ok (.invokevirtual 201, 3) := by decide +kernel
theorem dX4_bread_34 : decode cX4_bread 34 = .ok (.ireturn, 1) := by decide +kernel
set_option maxRecDepth 20000 in
theorem ggX4_count_X4_isCounted : GoodIn wsX4_count wsX4_isCounted := goodIn_r _ [6] (by decide +kernel) (by decide +kernel)
set_option maxRecDepth 20000 in
theorem gX4_count_X4_isCounted : GoodIn wsX4_count (va_wsS RX4 217 yX4_isCounted wsX4_isCounted) := goodIn_app (goodIn_of _ (by decide +kernel)) ggX4_count_X4_isCounted
set_option maxRecDepth 20000 in
theorem ggX4_count_X4_numberOf : GoodIn wsX4_count wsX4_numberOf := goodIn_r _ [10, 11, 12, 13, 14, 15, 16, 5, 17, 18, 19, 20, 21, 22, 23, 24, 25, 26, 27, 28, 29, 30, 31, 32, 33, 34, 35, 36, 37, 38, 39, 40, 41, 42, 43, 44, 45, 46, 47, 48, 49, 50, 51, 52, 53, 54, 55, 56, 57, 58, 59, 60, 61, 62, 63, 64, 65, 66, 67, 68, 69, 70, 71, 72, 73, 74, 75, 76, 77, 78, 79, 80, 81, 82, 83, 84, 85, 86, 87, 88, 89, 90, 91, 92, 93, 94, 95, 96, 97, 98, 99, 100, 101, 102, 103, 104, 105, 106, 107, 108, 109, 110, 111, 112, 113, 114, 115] (by decide +kernel) (by decide +kernel)
set_option maxRecDepth 20000 in
theorem gX4_count_X4_numberOf : GoodIn wsX4_count (wsV RX4 222 RX4 yX4_numberOf wsX4_numberOf) := goodIn_app (goodIn_of _ (by decide +kernel)) ggX4_count_X4_numberOf
theorem dX4_count_0 : decode cX4_count 0 = .ok (.iload_n 1, 1) := by decide +kernel
theorem dX4_count_1 : decode cX4_count 1 = .ok (.invokestatic 217, 3) := by decide +kernel
theorem dX4_count_4 : decode cX4_count 4 = .ok (.ifCond .ne 13, 3) := by decide +kernel
theorem dX4_count_7 : decode cX4_count 7 = .ok (.new 41, 3) := by decide +kernel
theorem dX4_count_10 : decode cX4_count 10 = .ok (.dup, 1) := by decide +kernel
theorem dX4_count_11 : decode cX4_count 11 = .ok (.ldc 220, 2) := by decide +kernel
theorem dX4_count_13 : decode cX4_count 13 = .ok (.invokespecial 45, 3) := by decide +kernel
theorem dX4_count_16 : decode cX4_count 16 = .ok (.athrow, 1) := by decide +kernel
theorem dX4_count_17 : decode cX4_count 17 = .ok (.aload_n 0, 1) := by decide +kernel
theorem dX4_count_18 : decode cX4_count 18 = .ok (.iload_n 1, 1) := by decide +kernel
theorem dX4_count_19 : decode cX4_count 19 = .ok (.invokevirtual 222, 3) := by decide +kernel
theorem dX4_count_22 : decode cX4_count 22 = .ok (.ireturn, 1) := by decide +kernel
set_option maxRecDepth 20000 in
theorem ggX4_ifShare_X4_needBread : GoodIn wsX4_ifShare wsX4_needBread := goodIn_ca (goodIn_r _ [7, 8, 9, 2, 10, 11, 12, 13, 14, 15, 90, 91, 92, 93, 94, 95, 96, 97, 98, 99, 100, 101, 102, 103, 104, 105, 106, 107, 108] (by decide +kernel) (by decide +kernel)) (goodIn_sub (fun _ h => List.mem_cons_of_mem _ (List.mem_append_left _ (List.mem_append_right _ h))) (by decide +kernel))
set_option maxRecDepth 20000 in
theorem gX4_ifShare_X4_needBread : GoodIn wsX4_ifShare (wsV RX4 69 RX4 yX4_needBread wsX4_needBread) := goodIn_app (goodIn_of _ (by decide +kernel)) ggX4_ifShare_X4_needBread
set_option maxRecDepth 20000 in
theorem ggX4_ifShare_X4_needShare : GoodIn wsX4_ifShare wsX4_needShare := goodIn_ca (goodIn_r _ [18, 19, 20] (by decide +kernel) (by decide +kernel)) (goodIn_sub (fun _ h => List.mem_cons_of_mem _ (List.mem_append_right _ h)) (by decide +kernel))
set_option maxRecDepth 20000 in
theorem gX4_ifShare_X4_needShare : GoodIn wsX4_ifShare (va_wsS RX4 86 yX4_needShare wsX4_needShare) := goodIn_app (goodIn_of _ (by decide +kernel)) ggX4_ifShare_X4_needShare
set_option maxRecDepth 20000 in
theorem ggX4_ifShare_X2_eatersAt : GoodIn wsX4_ifShare wsX2_eatersAt := goodIn_r _ [25, 26, 27, 28, 29, 30, 31, 32, 13, 33, 34, 35, 11, 12, 14, 15, 36, 37, 38, 24, 39, 40, 41, 42, 43, 44, 45, 46, 47, 48, 49, 50, 51, 52, 53, 54, 55, 56, 57, 58, 6, 59, 60, 61, 62, 63, 64, 65, 66, 67, 68, 69, 70, 71, 72, 73, 74, 75, 76, 77, 78, 79, 80, 81, 82, 83, 84, 85, 86, 87, 88, 89, 109, 110, 111, 112, 113, 94, 95, 96, 97, 98, 99, 100, 101, 102, 103, 104, 105, 106, 107, 108] (by decide +kernel) (by decide +kernel)
set_option maxRecDepth 20000 in
theorem gX4_ifShare_X2_eatersAt : GoodIn wsX4_ifShare (wsV RX4 228 RX2 yX2_eatersAt wsX2_eatersAt) := goodIn_app (goodIn_of _ (by decide +kernel)) ggX4_ifShare_X2_eatersAt
theorem dX4_ifShare_0 : decode cX4_ifShare 0 = .ok (.aload_n 0, 1) := by decide +kernel
theorem dX4_ifShare_1 : decode cX4_ifShare 1 = .ok (.iload_n 1, 1) := by decide +kernel
theorem dX4_ifShare_2 : decode cX4_ifShare 2 = .ok (.invokevirtual 69, 3) := by decide +kernel
theorem dX4_ifShare_5 : decode cX4_ifShare 5 = .ok (.iload_n 2, 1) := by decide +kernel
theorem dX4_ifShare_6 : decode cX4_ifShare 6 = .ok (.invokestatic 86, 3) := by decide +kernel
theorem dX4_ifShare_9 : decode cX4_ifShare 9 = .ok (.aload_n 0, 1) := by decide +kernel
theorem dX4_ifShare_10 : decode cX4_ifShare 10 = .ok (.getfield 26, 3) := by decide +kernel
theorem dX4_ifShare_13 : decode cX4_ifShare 13 = .ok (.aload_n 0, 1) := by decide +kernel
theorem dX4_ifShare_14 : decode cX4_ifShare 14 = .ok (.getfield 10, 3) := by decide +kernel
theorem dX4_ifShare_17 : decode cX4_ifShare 17 = .ok (.iload_n 1, 1) := by decide +kernel
theorem dX4_ifShare_18 : decode cX4_ifShare 18 = .ok (.iload_n 2, 1) := by decide +kernel
theorem dX4_ifShare_19 : decode cX4_ifShare 19 = .ok (.invokevirtual 228, 3) := by decide +kernel
theorem dX4_ifShare_22 : decode cX4_ifShare 22 = .ok (.ireturn, 1) := by decide +kernel
set_option maxRecDepth 20000 in
theorem ggX4_bestSalt_X4_needBread : GoodIn wsX4_bestSalt wsX4_needBread := goodIn_ca (goodIn_r _ [5, 6, 7, 8, 9, 10, 11, 12, 13, 14, 62, 63, 64, 65, 66, 67, 68, 69, 70, 71, 72, 73, 74, 75, 76, 77, 78, 79, 80] (by decide +kernel) (by decide +kernel)) (goodIn_sub (fun _ h => List.mem_cons_of_mem _ (List.mem_append_left _ (List.mem_append_right _ h))) (by decide +kernel))
set_option maxRecDepth 20000 in
theorem gX4_bestSalt_X4_needBread : GoodIn wsX4_bestSalt (wsV RX4 69 RX4 yX4_needBread wsX4_needBread) := goodIn_app (goodIn_of _ (by decide +kernel)) ggX4_bestSalt_X4_needBread
set_option maxRecDepth 20000 in
theorem ggX4_bestSalt_X4_needSalt : GoodIn wsX4_bestSalt wsX4_needSalt := goodIn_ca (goodIn_r _ [17, 18, 19] (by decide +kernel) (by decide +kernel)) (goodIn_sub (fun _ h => List.mem_cons_of_mem _ (List.mem_append_right _ h)) (by decide +kernel))
set_option maxRecDepth 20000 in
theorem gX4_bestSalt_X4_needSalt : GoodIn wsX4_bestSalt (va_wsS RX4 48 yX4_needSalt wsX4_needSalt) := goodIn_app (goodIn_of _ (by decide +kernel)) ggX4_bestSalt_X4_needSalt
set_option maxRecDepth 20000 in
theorem ggX4_bestSalt_X4_bestSaltFrom : GoodIn wsX4_bestSalt wsX4_bestSaltFrom := goodIn_r _ [23, 8, 24, 25, 26, 12, 27, 28, 29, 10, 11, 13, 14, 30, 31, 32, 33, 34, 35, 4, 36, 37, 38, 39, 40, 41, 42, 43, 44, 45, 46, 47, 48, 49, 50, 51, 52, 53, 54, 55, 56, 57, 58, 59, 60, 61, 62, 63, 64, 65, 66, 67, 68, 69, 70, 71, 72, 73, 74, 75, 76, 77, 78, 79, 80] (by decide +kernel) (by decide +kernel)
set_option maxRecDepth 20000 in
theorem gX4_bestSalt_X4_bestSaltFrom : GoodIn wsX4_bestSalt (wsV RX4 237 RX4 yX4_bestSaltFrom wsX4_bestSaltFrom) := goodIn_app (goodIn_of _ (by decide +kernel)) ggX4_bestSalt_X4_bestSaltFrom
theorem dX4_bestSalt_0 : decode cX4_bestSalt 0 = .ok (.aload_n 0, 1) := by decide +kernel
theorem dX4_bestSalt_1 : decode cX4_bestSalt 1 = .ok (.iload_n 1, 1) := by decide +kernel
theorem dX4_bestSalt_2 : decode cX4_bestSalt 2 = .ok (.invokevirtual 69, 3) := by decide +kernel
theorem dX4_bestSalt_5 : decode cX4_bestSalt 5 = .ok (.iload_n 2, 1) := by decide +kernel
theorem dX4_bestSalt_6 : decode cX4_bestSalt 6 = .ok (.invokestatic 48, 3) := by decide +kernel
theorem dX4_bestSalt_9 : decode cX4_bestSalt 9 = .ok (.aload_n 0, 1) := by decide +kernel
theorem dX4_bestSalt_10 : decode cX4_bestSalt 10 = .ok (.iload_n 1, 1) := by decide +kernel
theorem dX4_bestSalt_11 : decode cX4_bestSalt 11 = .ok (.iload_n 2, 1) := by decide +kernel
theorem dX4_bestSalt_12 : decode cX4_bestSalt 12 = .ok (.invokevirtual 237, 3) := by decide +kernel
theorem dX4_bestSalt_15 : decode cX4_bestSalt 15 = .ok (.ireturn, 1) := by decide +kernel
set_option maxRecDepth 20000 in
theorem ggX4_needBread_X3_hasBread : GoodIn wsX4_needBread wsX3_hasBread := goodIn_r _ [8, 9, 14, 15, 16, 17, 18, 19, 20, 21, 22, 23, 24, 25, 26, 27, 28] (by decide +kernel) (by decide +kernel)
set_option maxRecDepth 20000 in
theorem gX4_needBread_X3_hasBread : GoodIn wsX4_needBread (wsV RX4 263 RX3 yX3_hasBread wsX3_hasBread) := goodIn_app (goodIn_of _ (by decide +kernel)) ggX4_needBread_X3_hasBread
theorem dX4_needBread_0 : decode cX4_needBread 0 = .ok (.aload_n 0, 1) := by decide +kernel
theorem dX4_needBread_1 : decode cX4_needBread 1 = .ok (.getfield 10, 3) := by decide +kernel
theorem dX4_needBread_4 : decode cX4_needBread 4 = .ok (.iload_n 1, 1) := by decide +kernel
theorem dX4_needBread_5 : decode cX4_needBread 5 = .ok (.invokevirtual 263, 3) := by decide +kernel
theorem dX4_needBread_8 : decode cX4_needBread 8 = .ok (.ifCond .ne 14, 3) := by decide +kernel
theorem dX4_needBread_11 : decode cX4_needBread 11 = .ok (.new 209, 3) := by decide +kernel
theorem dX4_needBread_14 : decode cX4_needBread 14 = .ok (.dup, 1) := by decide +kernel
theorem dX4_needBread_15 : decode cX4_needBread 15 = .ok (.ldc_w 266, 3) := by decide +kernel
theorem dX4_needBread_18 : decode cX4_needBread 18 = .ok (.invokespecial 213, 3) := by decide +kernel
theorem dX4_needBread_21 : decode cX4_needBread 21 = .ok (.athrow, 1) := by decide +kernel
theorem dX4_needBread_22 : decode cX4_needBread 22 = .ok (.return_, 1) := by decide +kernel
set_option maxRecDepth 20000 in
theorem ggX4_needOpen_X3_isOpenBread : GoodIn wsX4_needOpen wsX3_isOpenBread := goodIn_r _ [8, 9, 10, 11, 12, 7, 13, 14, 19, 20, 21, 22, 23, 24, 25, 26, 27, 28, 29, 30, 31, 32, 33] (by decide +kernel) (by decide +kernel)
set_option maxRecDepth 20000 in
theorem gX4_needOpen_X3_isOpenBread : GoodIn wsX4_needOpen (wsV RX4 268 RX3 yX3_isOpenBread wsX3_isOpenBread) := goodIn_app (goodIn_of _ (by decide +kernel)) ggX4_needOpen_X3_isOpenBread
theorem dX4_needOpen_0 : decode cX4_needOpen 0 = .ok (.aload_n 0, 1) := by decide +kernel
theorem dX4_needOpen_1 : decode cX4_needOpen 1 = .ok (.getfield 10, 3) := by decide +kernel
theorem dX4_needOpen_4 : decode cX4_needOpen 4 = .ok (.iload_n 1, 1) := by decide +kernel
theorem dX4_needOpen_5 : decode cX4_needOpen 5 = .ok (.invokevirtual 268, 3) := by decide +kernel
theorem dX4_needOpen_8 : decode cX4_needOpen 8 = .ok (.ifCond .ne 14, 3) := by decide +kernel
theorem dX4_needOpen_11 : decode cX4_needOpen 11 = .ok (.new 56, 3) := by decide +kernel
theorem dX4_needOpen_14 : decode cX4_needOpen 14 = .ok (.dup, 1) := by decide +kernel
theorem dX4_needOpen_15 : decode cX4_needOpen 15 = .ok (.ldc_w 271, 3) := by decide +kernel
theorem dX4_needOpen_18 : decode cX4_needOpen 18 = .ok (.invokespecial 60, 3) := by decide +kernel
theorem dX4_needOpen_21 : decode cX4_needOpen 21 = .ok (.athrow, 1) := by decide +kernel
theorem dX4_needOpen_22 : decode cX4_needOpen 22 = .ok (.return_, 1) := by decide +kernel
theorem dX4_needPerson_0 : decode cX4_needPerson 0 = .ok (.iload_n 0, 1) := by decide +kernel
theorem dX4_needPerson_1 : decode cX4_needPerson 1 = .ok (.ifCond .lt 10, 3) := by decide +kernel
theorem dX4_needPerson_4 : decode cX4_needPerson 4 = .ok (.iload_n 0, 1) := by decide +kernel
theorem dX4_needPerson_5 : decode cX4_needPerson 5 = .ok (.sipush 150, 3) := by decide +kernel
theorem dX4_needPerson_8 : decode cX4_needPerson 8 = .ok (.if_icmp .lt 14, 3) := by decide +kernel
theorem dX4_needPerson_11 : decode cX4_needPerson 11 = .ok (.new 209, 3) := by decide +kernel
theorem dX4_needPerson_14 : decode cX4_needPerson 14 = .ok (.dup, 1) := by decide +kernel
theorem dX4_needPerson_15 : decode cX4_needPerson 15 = .ok (.ldc_w 273, 3) := by decide +kernel
theorem dX4_needPerson_18 : decode cX4_needPerson 18 = .ok (.invokespecial 213, 3) := by decide +kernel
theorem dX4_needPerson_21 : decode cX4_needPerson 21 = .ok (.athrow, 1) := by decide +kernel
theorem dX4_needPerson_22 : decode cX4_needPerson 22 = .ok (.return_, 1) := by decide +kernel
set_option maxRecDepth 20000 in
theorem ggX4_needGroup_X4_isGroup : GoodIn wsX4_needGroup wsX4_isGroup := goodIn_r _ [6] (by decide +kernel) (by decide +kernel)
set_option maxRecDepth 20000 in
theorem gX4_needGroup_X4_isGroup : GoodIn wsX4_needGroup (va_wsS RX4 37 yX4_isGroup wsX4_isGroup) := goodIn_app (goodIn_of _ (by decide +kernel)) ggX4_needGroup_X4_isGroup
theorem dX4_needGroup_0 : decode cX4_needGroup 0 = .ok (.iload_n 0, 1) := by decide +kernel
theorem dX4_needGroup_1 : decode cX4_needGroup 1 = .ok (.invokestatic 37, 3) := by decide +kernel
theorem dX4_needGroup_4 : decode cX4_needGroup 4 = .ok (.ifCond .ne 13, 3) := by decide +kernel
theorem dX4_needGroup_7 : decode cX4_needGroup 7 = .ok (.new 209, 3) := by decide +kernel
theorem dX4_needGroup_10 : decode cX4_needGroup 10 = .ok (.dup, 1) := by decide +kernel
theorem dX4_needGroup_11 : decode cX4_needGroup 11 = .ok (.ldc 43, 2) := by decide +kernel
theorem dX4_needGroup_13 : decode cX4_needGroup 13 = .ok (.invokespecial 213, 3) := by decide +kernel
theorem dX4_needGroup_16 : decode cX4_needGroup 16 = .ok (.athrow, 1) := by decide +kernel
theorem dX4_needGroup_17 : decode cX4_needGroup 17 = .ok (.return_, 1) := by decide +kernel
theorem dX4_needSalt_0 : decode cX4_needSalt 0 = .ok (.iload_n 0, 1) := by decide +kernel
theorem dX4_needSalt_1 : decode cX4_needSalt 1 = .ok (.ifCond .lt 10, 3) := by decide +kernel
theorem dX4_needSalt_4 : decode cX4_needSalt 4 = .ok (.iload_n 0, 1) := by decide +kernel
theorem dX4_needSalt_5 : decode cX4_needSalt 5 = .ok (.sipush 9999, 3) := by decide +kernel
theorem dX4_needSalt_8 : decode cX4_needSalt 8 = .ok (.if_icmp .le 14, 3) := by decide +kernel
theorem dX4_needSalt_11 : decode cX4_needSalt 11 = .ok (.new 41, 3) := by decide +kernel
theorem dX4_needSalt_14 : decode cX4_needSalt 14 = .ok (.dup, 1) := by decide +kernel
theorem dX4_needSalt_15 : decode cX4_needSalt 15 = .ok (.ldc_w 275, 3) := by decide +kernel
theorem dX4_needSalt_18 : decode cX4_needSalt 18 = .ok (.invokespecial 45, 3) := by decide +kernel
theorem dX4_needSalt_21 : decode cX4_needSalt 21 = .ok (.athrow, 1) := by decide +kernel
theorem dX4_needSalt_22 : decode cX4_needSalt 22 = .ok (.return_, 1) := by decide +kernel
theorem dX4_needShare_0 : decode cX4_needShare 0 = .ok (.iload_n 0, 1) := by decide +kernel
theorem dX4_needShare_1 : decode cX4_needShare 1 = .ok (.ifCond .lt 9, 3) := by decide +kernel
theorem dX4_needShare_4 : decode cX4_needShare 4 = .ok (.iload_n 0, 1) := by decide +kernel
theorem dX4_needShare_5 : decode cX4_needShare 5 = .ok (.bipush 100, 2) := by decide +kernel
theorem dX4_needShare_7 : decode cX4_needShare 7 = .ok (.if_icmp .le 14, 3) := by decide +kernel
theorem dX4_needShare_10 : decode cX4_needShare 10 = .ok (.new 41, 3) := by decide +kernel
theorem dX4_needShare_13 : decode cX4_needShare 13 = .ok (.dup, 1) := by decide +kernel
theorem dX4_needShare_14 : decode cX4_needShare 14 = .ok (.ldc_w 277, 3) := by decide +kernel
theorem dX4_needShare_17 : decode cX4_needShare 17 = .ok (.invokespecial 45, 3) := by decide +kernel
theorem dX4_needShare_20 : decode cX4_needShare 20 = .ok (.athrow, 1) := by decide +kernel
theorem dX4_needShare_21 : decode cX4_needShare 21 = .ok (.return_, 1) := by decide +kernel
theorem dX4_isGroup_0 : decode cX4_isGroup 0 = .ok (.iload_n 0, 1) := by decide +kernel
theorem dX4_isGroup_1 : decode cX4_isGroup 1 = .ok (.ifCond .lt 12, 3) := by decide +kernel
theorem dX4_isGroup_4 : decode cX4_isGroup 4 = .ok (.iload_n 0, 1) := by decide +kernel
theorem dX4_isGroup_5 : decode cX4_isGroup 5 = .ok (.iconst 3, 1) := by decide +kernel
theorem dX4_isGroup_6 : decode cX4_isGroup 6 = .ok (.if_icmp .ge 7, 3) := by decide +kernel
theorem dX4_isGroup_9 : decode cX4_isGroup 9 = .ok (.iconst 1, 1) := by decide +kernel
theorem dX4_isGroup_10 : decode cX4_isGroup 10 = .ok (.goto 4, 3) := by decide +kernel
theorem dX4_isGroup_13 : decode cX4_isGroup 13 = .ok (.iconst 0, 1) := by decide +kernel
theorem dX4_isGroup_14 : decode cX4_isGroup 14 = .ok (.ireturn, 1) := by decide +kernel
theorem dX4_isCounted_0 : decode cX4_isCounted 0 = .ok (.iload_n 0, 1) := by decide +kernel
theorem dX4_isCounted_1 : decode cX4_isCounted 1 = .ok (.ifCond .lt 9, 3) := by decide +kernel
theorem dX4_isCounted_4 : decode cX4_isCounted 4 = .ok (.iload_n 0, 1) := by decide +kernel
theorem dX4_isCounted_5 : decode cX4_isCounted 5 = .ok (.bipush 8, 2) := by decide +kernel
theorem dX4_isCounted_7 : decode cX4_isCounted 7 = .ok (.if_icmp .le 27, 3) := by decide +kernel
theorem dX4_isCounted_10 : decode cX4_isCounted 10 = .ok (.iload_n 0, 1) := by decide +kernel
theorem dX4_isCounted_11 : decode cX4_isCounted 11 = .ok (.bipush 10, 2) := by decide +kernel
theorem dX4_isCounted_13 : decode cX4_isCounted 13 = .ok (.if_icmp .lt 9, 3) := by decide +kernel
theorem dX4_isCounted_16 : decode cX4_isCounted 16 = .ok (.iload_n 0, 1) := by decide +kernel
theorem dX4_isCounted_17 : decode cX4_isCounted 17 = .ok (.bipush 12, 2) := by decide +kernel
theorem dX4_isCounted_19 : decode cX4_isCounted 19 = .ok (.if_icmp .le 15, 3) := by decide +kernel
theorem dX4_isCounted_22 : decode cX4_isCounted 22 = .ok (.iload_n 0, 1) := by decide +kernel
theorem dX4_isCounted_23 : decode cX4_isCounted 23 = .ok (.bipush 20, 2) := by decide +kernel
theorem dX4_isCounted_25 : decode cX4_isCounted 25 = .ok (.if_icmp .lt 13, 3) := by decide +kernel
theorem dX4_isCounted_28 : decode cX4_isCounted 28 = .ok (.iload_n 0, 1) := by decide +kernel
theorem dX4_isCounted_29 : decode cX4_isCounted 29 = .ok (.bipush 22, 2) := by decide +kernel
theorem dX4_isCounted_31 : decode cX4_isCounted 31 = .ok (.if_icmp .gt 7, 3) := by decide +kernel
theorem dX4_isCounted_34 : decode cX4_isCounted 34 = .ok (.iconst 1, 1) := by decide +kernel
theorem dX4_isCounted_35 : decode cX4_isCounted 35 = .ok (.goto 4, 3) := by decide +kernel
theorem dX4_isCounted_38 : decode cX4_isCounted 38 = .ok (.iconst 0, 1) := by decide +kernel
theorem dX4_isCounted_39 : decode cX4_isCounted 39 = .ok (.ireturn, 1) := by decide +kernel
theorem dX4_bucketBy_0 : decode cX4_bucketBy 0 = .ok (.iload_n 0, 1) := by decide +kernel
theorem dX4_bucketBy_1 : decode cX4_bucketBy 1 = .ok (.ldc_w 279, 3) := by decide +kernel
theorem dX4_bucketBy_4 : decode cX4_bucketBy 4 = .ok (.imul, 1) := by decide +kernel
theorem dX4_bucketBy_5 : decode cX4_bucketBy 5 = .ok (.iload_n 1, 1) := by decide +kernel
theorem dX4_bucketBy_6 : decode cX4_bucketBy 6 = .ok (.ldc_w 280, 3) := by decide +kernel
theorem dX4_bucketBy_9 : decode cX4_bucketBy 9 = .ok (.imul, 1) := by decide +kernel
theorem dX4_bucketBy_10 : decode cX4_bucketBy 10 = .ok (.iadd, 1) := by decide +kernel
theorem dX4_bucketBy_11 : decode cX4_bucketBy 11 = .ok (.istore_n 2, 1) := by decide +kernel
theorem dX4_bucketBy_12 : decode cX4_bucketBy 12 = .ok (.iload_n 2, 1) := by decide +kernel
theorem dX4_bucketBy_13 : decode cX4_bucketBy 13 = .ok (.iload_n 2, 1) := by decide +kernel
theorem dX4_bucketBy_14 : decode cX4_bucketBy 14 = .ok (.bipush 15, 2) := by decide +kernel
theorem dX4_bucketBy_16 : decode cX4_bucketBy 16 = .ok (.iushr, 1) := by decide +kernel
theorem dX4_bucketBy_17 : decode cX4_bucketBy 17 = .ok (.ixor, 1) := by decide +kernel
theorem dX4_bucketBy_18 : decode cX4_bucketBy 18 = .ok (.istore_n 2, 1) := by decide +kernel
theorem dX4_bucketBy_19 : decode cX4_bucketBy 19 = .ok (.iload_n 2, 1) := by decide +kernel
theorem dX4_bucketBy_20 : decode cX4_bucketBy 20 = .ok (.ldc_w 281, 3) := by decide +kernel
theorem dX4_bucketBy_23 : decode cX4_bucketBy 23 = .ok (.imul, 1) := by decide +kernel
theorem dX4_bucketBy_24 : decode cX4_bucketBy 24 = .ok (.istore_n 2, 1) := by decide +kernel
theorem dX4_bucketBy_25 : decode cX4_bucketBy 25 = .ok (.iload_n 2, 1) := by decide +kernel
theorem dX4_bucketBy_26 : decode cX4_bucketBy 26 = .ok (.iload_n 2, 1) := by decide +kernel
theorem dX4_bucketBy_27 : decode cX4_bucketBy 27 = .ok (.bipush 13, 2) := by decide +kernel
theorem dX4_bucketBy_29 : decode cX4_bucketBy 29 = .ok (.iushr, 1) := by decide +kernel
theorem dX4_bucketBy_30 : decode cX4_bucketBy 30 = .ok (.ixor, 1) := by decide +kernel
theorem dX4_bucketBy_31 : decode cX4_bucketBy 31 = .ok (.istore_n 2, 1) := by decide +kernel
theorem dX4_bucketBy_32 : decode cX4_bucketBy 32 = .ok (.iload_n 2, 1) := by decide +kernel
theorem dX4_bucketBy_33 : decode cX4_bucketBy 33 = .ok (.ldc_w 282, 3) := by decide +kernel
theorem dX4_bucketBy_36 : decode cX4_bucketBy 36 = .ok (.imul, 1) := by decide +kernel
theorem dX4_bucketBy_37 : decode cX4_bucketBy 37 = .ok (.istore_n 2, 1) := by decide +kernel
theorem dX4_bucketBy_38 : decode cX4_bucketBy 38 = .ok (.iload_n 2, 1) := by decide +kernel
theorem dX4_bucketBy_39 : decode cX4_bucketBy 39 = .ok (.iload_n 2, 1) := by decide +kernel
theorem dX4_bucketBy_40 : decode cX4_bucketBy 40 = .ok (.bipush 16, 2) := by decide +kernel
theorem dX4_bucketBy_42 : decode cX4_bucketBy 42 = .ok (.iushr, 1) := by decide +kernel
theorem dX4_bucketBy_43 : decode cX4_bucketBy 43 = .ok (.ixor, 1) := by decide +kernel
theorem dX4_bucketBy_44 : decode cX4_bucketBy 44 = .ok (.istore_n 2, 1) := by decide +kernel
theorem dX4_bucketBy_45 : decode cX4_bucketBy 45 = .ok (.iload_n 2, 1) := by decide +kernel
theorem dX4_bucketBy_46 : decode cX4_bucketBy 46 = .ok (.ldc_w 283, 3) := by decide +kernel
theorem dX4_bucketBy_49 : decode cX4_bucketBy 49 = .ok (.iand, 1) := by decide +kernel
theorem dX4_bucketBy_50 : decode cX4_bucketBy 50 = .ok (.bipush 100, 2) := by decide +kernel
theorem dX4_bucketBy_52 : decode cX4_bucketBy 52 = .ok (.irem, 1) := by decide +kernel
theorem dX4_bucketBy_53 : decode cX4_bucketBy 53 = .ok (.ireturn, 1) := by decide +kernel
set_option maxRecDepth 20000 in
theorem ggX4_numberOf_X4_isGroup : GoodIn wsX4_numberOf wsX4_isGroup := goodIn_r _ [8] (by decide +kernel) (by decide +kernel)
set_option maxRecDepth 20000 in
theorem gX4_numberOf_X4_isGroup : GoodIn wsX4_numberOf (va_wsS RX4 37 yX4_isGroup wsX4_isGroup) := goodIn_app (goodIn_of _ (by decide +kernel)) ggX4_numberOf_X4_isGroup
set_option maxRecDepth 20000 in
theorem ggX4_numberOf_X3_freeBuckets : GoodIn wsX4_numberOf wsX3_freeBuckets := goodIn_r _ [13, 14, 92, 93, 94, 95, 96, 97, 98, 99, 100, 101, 102, 103, 104, 105, 106] (by decide +kernel) (by decide +kernel)
set_option maxRecDepth 20000 in
theorem gX4_numberOf_X3_freeBuckets : GoodIn wsX4_numberOf (wsV RX4 315 RX3 yX3_freeBuckets wsX3_freeBuckets) := goodIn_app (goodIn_of _ (by decide +kernel)) ggX4_numberOf_X3_freeBuckets
set_option maxRecDepth 20000 in
theorem ggX4_numberOf_X3_number : GoodIn wsX4_numberOf wsX3_number := goodIn_r _ [18, 19, 20, 21, 22, 23, 24, 25, 26, 27, 28, 29, 30, 31, 32, 12, 33, 34, 35, 36, 37, 38, 39, 40, 41, 42, 43, 44, 6, 7, 8, 45, 46, 47, 48, 49, 50, 51, 52, 53, 54, 55, 56, 57, 58, 59, 60, 61, 62, 63, 14, 64, 65, 66, 67, 68, 69, 70, 71, 72, 73, 74, 75, 76, 77, 78, 79, 80, 81, 82, 83, 84, 92, 93, 94, 95, 96, 97, 98, 99, 100, 101, 102, 103, 104, 105, 106] (by decide +kernel) (by decide +kernel)
set_option maxRecDepth 20000 in
theorem gX4_numberOf_X3_number : GoodIn wsX4_numberOf (wsV RX4 318 RX3 yX3_number wsX3_number) := goodIn_app (goodIn_of _ (by decide +kernel)) ggX4_numberOf_X3_number
theorem dX4_numberOf_0 : decode cX4_numberOf 0 = .ok (.iload_n 1, 1) := by decide +kernel
theorem dX4_numberOf_1 : decode cX4_numberOf 1 = .ok (.bipush 8, 2) := by decide +kernel
theorem dX4_numberOf_3 : decode cX4_numberOf 3 = .ok (.if_icmp .ne 11, 3) := by decide +kernel
theorem dX4_numberOf_6 : decode cX4_numberOf 6 = .ok (.aload_n 0, 1) := by decide +kernel
theorem dX4_numberOf_7 : decode cX4_numberOf 7 = .ok (.getfield 19, 3) := by decide +kernel
theorem dX4_numberOf_10 : decode cX4_numberOf 10 = .ok (.getfield 181, 3) := by decide +kernel
theorem dX4_numberOf_13 : decode cX4_numberOf 13 = .ok (.ireturn, 1) := by decide +kernel
theorem dX4_numberOf_14 : decode cX4_numberOf 14 = .ok (.iload_n 1, 1) := by decide +kernel
theorem dX4_numberOf_15 : decode cX4_numberOf 15 = .ok (.bipush 10, 2) := by decide +kernel
theorem dX4_numberOf_17 : decode cX4_numberOf 17 = .ok (.isub, 1) := by decide +kernel
theorem dX4_numberOf_18 : decode cX4_numberOf 18 = .ok (.invokestatic 37, 3) := by decide +kernel
theorem dX4_numberOf_21 : decode cX4_numberOf 21 = .ok (.ifCond .eq 16, 3) := by decide +kernel
theorem dX4_numberOf_24 : decode cX4_numberOf 24 = .ok (.aload_n 0, 1) := by decide +kernel
theorem dX4_numberOf_25 : decode cX4_numberOf 25 = .ok (.getfield 10, 3) := by decide +kernel
theorem dX4_numberOf_28 : decode cX4_numberOf 28 = .ok (.getfield 126, 3) := by decide +kernel
theorem dX4_numberOf_31 : decode cX4_numberOf 31 = .ok (.iload_n 1, 1) := by decide +kernel
theorem dX4_numberOf_32 : decode cX4_numberOf 32 = .ok (.bipush 10, 2) := by decide +kernel
theorem dX4_numberOf_34 : decode cX4_numberOf 34 = .ok (.isub, 1) := by decide +kernel
theorem dX4_numberOf_35 : decode cX4_numberOf 35 = .ok (.iaload, 1) := by decide +kernel
theorem dX4_numberOf_36 : decode cX4_numberOf 36 = .ok (.ireturn, 1) := by decide +kernel
theorem dX4_numberOf_37 : decode cX4_numberOf 37 = .ok (.iload_n 1, 1) := by decide +kernel
theorem dX4_numberOf_38 : decode cX4_numberOf 38 = .ok (.bipush 20, 2) := by decide +kernel
theorem dX4_numberOf_40 : decode cX4_numberOf 40 = .ok (.isub, 1) := by decide +kernel
theorem dX4_numberOf_41 : decode cX4_numberOf 41 = .ok (.invokestatic 37, 3) := by decide +kernel
theorem dX4_numberOf_44 : decode cX4_numberOf 44 = .ok (.ifCond .eq 15, 3) := by decide +kernel
theorem dX4_numberOf_47 : decode cX4_numberOf 47 = .ok (.aload_n 0, 1) := by decide +kernel
theorem dX4_numberOf_48 : decode cX4_numberOf 48 = .ok (.getfield 10, 3) := by decide +kernel
theorem dX4_numberOf_51 : decode cX4_numberOf 51 = .ok (.iload_n 1, 1) := by decide +kernel
theorem dX4_numberOf_52 : decode cX4_numberOf 52 = .ok (.bipush 20, 2) := by decide +kernel
theorem dX4_numberOf_54 : decode cX4_numberOf 54 = .ok (.isub, 1) := by decide +kernel
theorem dX4_numberOf_55 : decode cX4_numberOf 55 = .ok (.invokevirtual 315, 3) := by decide +kernel
theorem dX4_numberOf_58 : decode cX4_numberOf 58 = .ok (.ireturn, 1) := by decide +kernel
theorem dX4_numberOf_59 : decode cX4_numberOf 59 = .ok (.aload_n 0, 1) := by decide +kernel
theorem dX4_numberOf_60 : decode cX4_numberOf 60 = .ok (.getfield 10, 3) := by decide +kernel
theorem dX4_numberOf_63 : decode cX4_numberOf 63 = .ok (.iload_n 1, 1) := by decide +kernel
theorem dX4_numberOf_64 : decode cX4_numberOf 64 = .ok (.invokevirtual 318, 3) := by decide +kernel
theorem dX4_numberOf_67 : decode cX4_numberOf 67 = .ok (.ireturn, 1) := by decide +kernel
set_option maxRecDepth 20000 in
theorem ggX4_bestSaltFrom_X3_isOpenBread : GoodIn wsX4_bestSaltFrom wsX3_isOpenBread := goodIn_r _ [6, 7, 8, 9, 10, 5, 11, 12, 50, 51, 52, 53, 54, 55, 56, 57, 58, 59, 60, 61, 62, 63, 64] (by decide +kernel) (by decide +kernel)
set_option maxRecDepth 20000 in
theorem gX4_bestSaltFrom_X3_isOpenBread : GoodIn wsX4_bestSaltFrom (wsV RX4 268 RX3 yX3_isOpenBread wsX3_isOpenBread) := goodIn_app (goodIn_of _ (by decide +kernel)) ggX4_bestSaltFrom_X3_isOpenBread
set_option maxRecDepth 20000 in
theorem ggX4_bestSaltFrom_X3_isInGroup : GoodIn wsX4_bestSaltFrom wsX3_isInGroup := goodIn_r _ [16, 17, 18, 19, 20, 50, 51, 52, 53, 54, 55, 56, 57, 58, 59, 60, 61, 62, 63, 64] (by decide +kernel) (by decide +kernel)
set_option maxRecDepth 20000 in
theorem gX4_bestSaltFrom_X3_isInGroup : GoodIn wsX4_bestSaltFrom (wsV RX4 111 RX3 yX3_isInGroup wsX3_isInGroup) := goodIn_app (goodIn_of _ (by decide +kernel)) ggX4_bestSaltFrom_X3_isInGroup
set_option maxRecDepth 20000 in
theorem ggX4_bestSaltFrom_X3_eatersBy : GoodIn wsX4_bestSaltFrom wsX3_eatersBy := goodIn_r _ [24, 25, 26, 27, 5, 28, 7, 29, 30, 31, 32, 33, 19, 34, 35, 36, 37, 38, 39, 40, 41, 42, 43, 17, 44, 45, 50, 51, 52, 53, 54, 55, 56, 57, 58, 59, 60, 61, 62, 63, 64] (by decide +kernel) (by decide +kernel)
set_option maxRecDepth 20000 in
theorem gX4_bestSaltFrom_X3_eatersBy : GoodIn wsX4_bestSaltFrom (wsV RX4 320 RX3 yX3_eatersBy wsX3_eatersBy) := goodIn_app (goodIn_of _ (by decide +kernel)) ggX4_bestSaltFrom_X3_eatersBy
theorem dX4_bestSaltFrom_0 : decode cX4_bestSaltFrom 0 = .ok (.aload_n 0, 1) := by decide +kernel
theorem dX4_bestSaltFrom_1 : decode cX4_bestSaltFrom 1 = .ok (.getfield 10, 3) := by decide +kernel
theorem dX4_bestSaltFrom_4 : decode cX4_bestSaltFrom 4 = .ok (.iload_n 1, 1) := by decide +kernel
theorem dX4_bestSaltFrom_5 : decode cX4_bestSaltFrom 5 = .ok (.invokevirtual 268, 3) := by decide +kernel
theorem dX4_bestSaltFrom_8 : decode cX4_bestSaltFrom 8 = .ok (.ifCond .eq 14, 3) := by decide +kernel
theorem dX4_bestSaltFrom_11 : decode cX4_bestSaltFrom 11 = .ok (.aload_n 0, 1) := by decide +kernel
theorem dX4_bestSaltFrom_12 : decode cX4_bestSaltFrom 12 = .ok (.getfield 10, 3) := by decide +kernel
theorem dX4_bestSaltFrom_15 : decode cX4_bestSaltFrom 15 = .ok (.iload_n 1, 1) := by decide +kernel
theorem dX4_bestSaltFrom_16 : decode cX4_bestSaltFrom 16 = .ok (.invokevirtual 111, 3) := by decide +kernel
theorem dX4_bestSaltFrom_19 : decode cX4_bestSaltFrom 19 = .ok (.ifCond .eq 5, 3) := by decide +kernel
theorem dX4_bestSaltFrom_22 : decode cX4_bestSaltFrom 22 = .ok (.iconst (-1), 1) := by decide +kernel
theorem dX4_bestSaltFrom_23 : decode cX4_bestSaltFrom 23 = .ok (.ireturn, 1) := by decide +kernel
theorem dX4_bestSaltFrom_24 : decode cX4_bestSaltFrom 24 = .ok (.iconst (-1), 1) := by decide +kernel
theorem dX4_bestSaltFrom_25 : decode cX4_bestSaltFrom 25 = .ok (.istore_n 3, 1) := by decide +kernel
theorem dX4_bestSaltFrom_26 : decode cX4_bestSaltFrom 26 = .ok (.iconst (-1), 1) := by decide +kernel
theorem dX4_bestSaltFrom_27 : decode cX4_bestSaltFrom 27 = .ok (.istore 4, 2) := by decide +kernel
theorem dX4_bestSaltFrom_29 : decode cX4_bestSaltFrom 29 = .ok (.iload_n 2, 1) := by decide +kernel
theorem dX4_bestSaltFrom_30 : decode cX4_bestSaltFrom 30 = .ok (.istore 5, 2) := by decide +kernel
theorem dX4_bestSaltFrom_32 : decode cX4_bestSaltFrom 32 = .ok (.iload 5, 2) := by decide +kernel
theorem dX4_bestSaltFrom_34 : decode cX4_bestSaltFrom 34 = .ok (.iload_n 2, 1) := by decide +kernel
theorem dX4_bestSaltFrom_35 : decode cX4_bestSaltFrom 35 = .ok (.bipush 20, 2) := by decide +kernel
theorem dX4_bestSaltFrom_37 : decode cX4_bestSaltFrom 37 = .ok (.iadd, 1) := by decide +kernel
theorem dX4_bestSaltFrom_38 : decode cX4_bestSaltFrom 38 = .ok (.if_icmp .ge 43, 3) := by decide +kernel
theorem dX4_bestSaltFrom_41 : decode cX4_bestSaltFrom 41 = .ok (.iload 5, 2) := by decide +kernel
theorem dX4_bestSaltFrom_43 : decode cX4_bestSaltFrom 43 = .ok (.sipush 9999, 3) := by decide +kernel
theorem dX4_bestSaltFrom_46 : decode cX4_bestSaltFrom 46 = .ok (.if_icmp .gt 35, 3) := by decide +kernel
theorem dX4_bestSaltFrom_49 : decode cX4_bestSaltFrom 49 = .ok (.aload_n 0, 1) := by decide +kernel
theorem dX4_bestSaltFrom_50 : decode cX4_bestSaltFrom 50 = .ok (.getfield 10, 3) := by decide +kernel
theorem dX4_bestSaltFrom_53 : decode cX4_bestSaltFrom 53 = .ok (.iload_n 1, 1) := by decide +kernel
theorem dX4_bestSaltFrom_54 : decode cX4_bestSaltFrom 54 = .ok (.iload 5, 2) := by decide +kernel
theorem dX4_bestSaltFrom_56 : decode cX4_bestSaltFrom 56 = .ok (.invokevirtual 320, 3) := by decide +kernel
theorem dX4_bestSaltFrom_59 : decode cX4_bestSaltFrom 59 = .ok (.istore 6, 2) := by decide +kernel
theorem dX4_bestSaltFrom_61 : decode cX4_bestSaltFrom 61 = .ok (.iload 6, 2) := by decide +kernel
theorem dX4_bestSaltFrom_63 : decode cX4_bestSaltFrom 63 = .ok (.iload 4, 2) := by decide +kernel
theorem dX4_bestSaltFrom_65 : decode cX4_bestSaltFrom 65 = .ok (.if_icmp .le 10, 3) := by decide +kernel
theorem dX4_bestSaltFrom_68 : decode cX4_bestSaltFrom 68 = .ok (.iload 6, 2) := by decide +kernel
theorem dX4_bestSaltFrom_70 : decode cX4_bestSaltFrom 70 = .ok (.istore 4, 2) := by decide +kernel
theorem dX4_bestSaltFrom_72 : decode cX4_bestSaltFrom 72 = .ok (.iload 5, 2) := by decide +kernel
theorem dX4_bestSaltFrom_74 : decode cX4_bestSaltFrom 74 = .ok (.istore_n 3, 1) := by decide +kernel
theorem dX4_bestSaltFrom_75 : decode cX4_bestSaltFrom 75 = .ok (.iinc 5 1, 3) := by decide +kernel
theorem dX4_bestSaltFrom_78 : decode cX4_bestSaltFrom 78 = .ok (.goto (-46), 3) := by decide +kernel
theorem dX4_bestSaltFrom_81 : decode cX4_bestSaltFrom 81 = .ok (.iload_n 3, 1) := by decide +kernel
theorem dX4_bestSaltFrom_82 : decode cX4_bestSaltFrom 82 = .ok (.ireturn, 1) := by decide +kernel
theorem dJ6_bitCount_0f7a4_0 : decode cJ6_bitCount_0f7a4 0 = .ok (.iload_n 0, 1) := by decide +kernel
theorem dJ6_bitCount_0f7a4_1 : decode cJ6_bitCount_0f7a4 1 = .ok (.iload_n 0, 1) := by decide +kernel
theorem dJ6_bitCount_0f7a4_2 : decode cJ6_bitCount_0f7a4 2 = .ok (.iconst 1, 1) := by decide +kernel
theorem dJ6_bitCount_0f7a4_3 : decode cJ6_bitCount_0f7a4 3 = .ok (.iushr, 1) := by decide +kernel
theorem dJ6_bitCount_0f7a4_4 : decode cJ6_bitCount_0f7a4 4 = .ok (.ldc_w 265, 3) := by decide +kernel
theorem dJ6_bitCount_0f7a4_7 : decode cJ6_bitCount_0f7a4 7 = .ok (.iand, 1) := by decide +kernel
theorem dJ6_bitCount_0f7a4_8 : decode cJ6_bitCount_0f7a4 8 = .ok (.isub, 1) := by decide +kernel
theorem dJ6_bitCount_0f7a4_9 : decode cJ6_bitCount_0f7a4 9 = .ok (.istore_n 0, 1) := by decide +kernel
theorem dJ6_bitCount_0f7a4_10 : decode cJ6_bitCount_0f7a4 10 = .ok (.iload_n 0, 1) := by decide +kernel
theorem dJ6_bitCount_0f7a4_11 : decode cJ6_bitCount_0f7a4 11 = .ok (.ldc_w 266, 3) := by decide +kernel
theorem dJ6_bitCount_0f7a4_14 : decode cJ6_bitCount_0f7a4 14 = .ok (.iand, 1) := by decide +kernel
theorem dJ6_bitCount_0f7a4_15 : decode cJ6_bitCount_0f7a4 15 = .ok (.iload_n 0, 1) := by decide +kernel
theorem dJ6_bitCount_0f7a4_16 : decode cJ6_bitCount_0f7a4 16 = .ok (.iconst 2, 1) := by decide +kernel
theorem dJ6_bitCount_0f7a4_17 : decode cJ6_bitCount_0f7a4 17 = .ok (.iushr, 1) := by decide +kernel
theorem dJ6_bitCount_0f7a4_18 : decode cJ6_bitCount_0f7a4 18 = .ok (.ldc_w 266, 3) := by decide +kernel
theorem dJ6_bitCount_0f7a4_21 : decode cJ6_bitCount_0f7a4 21 = .ok (.iand, 1) := by decide +kernel
theorem dJ6_bitCount_0f7a4_22 : decode cJ6_bitCount_0f7a4 22 = .ok (.iadd, 1) := by decide +kernel
theorem dJ6_bitCount_0f7a4_23 : decode cJ6_bitCount_0f7a4 23 = .ok (.istore_n 0, 1) := by decide +kernel
theorem dJ6_bitCount_0f7a4_24 : decode cJ6_bitCount_0f7a4 24 = .ok (.iload_n 0, 1) := by decide +kernel
theorem dJ6_bitCount_0f7a4_25 : decode cJ6_bitCount_0f7a4 25 = .ok (.iload_n 0, 1) := by decide +kernel
theorem dJ6_bitCount_0f7a4_26 : decode cJ6_bitCount_0f7a4 26 = .ok (.iconst 4, 1) := by decide +kernel
theorem dJ6_bitCount_0f7a4_27 : decode cJ6_bitCount_0f7a4 27 = .ok (.iushr, 1) := by decide +kernel
theorem dJ6_bitCount_0f7a4_28 : decode cJ6_bitCount_0f7a4 28 = .ok (.iadd, 1) := by decide +kernel
theorem dJ6_bitCount_0f7a4_29 : decode cJ6_bitCount_0f7a4 29 = .ok (.ldc_w 267, 3) := by decide +kernel
theorem dJ6_bitCount_0f7a4_32 : decode cJ6_bitCount_0f7a4 32 = .ok (.iand, 1) := by decide +kernel
theorem dJ6_bitCount_0f7a4_33 : decode cJ6_bitCount_0f7a4 33 = .ok (.istore_n 0, 1) := by decide +kernel
theorem dJ6_bitCount_0f7a4_34 : decode cJ6_bitCount_0f7a4 34 = .ok (.iload_n 0, 1) := by decide +kernel
theorem dJ6_bitCount_0f7a4_35 : decode cJ6_bitCount_0f7a4 35 = .ok (.iload_n 0, 1) := by decide +kernel
theorem dJ6_bitCount_0f7a4_36 : decode cJ6_bitCount_0f7a4 36 = .ok (.bipush 8, 2) := by decide +kernel
theorem dJ6_bitCount_0f7a4_38 : decode cJ6_bitCount_0f7a4 38 = .ok (.iushr, 1) := by decide +kernel
theorem dJ6_bitCount_0f7a4_39 : decode cJ6_bitCount_0f7a4 39 = .ok (.iadd, 1) := by decide +kernel
theorem dJ6_bitCount_0f7a4_40 : decode cJ6_bitCount_0f7a4 40 = .ok (.istore_n 0, 1) := by decide +kernel
theorem dJ6_bitCount_0f7a4_41 : decode cJ6_bitCount_0f7a4 41 = .ok (.iload_n 0, 1) := by decide +kernel
theorem dJ6_bitCount_0f7a4_42 : decode cJ6_bitCount_0f7a4 42 = .ok (.iload_n 0, 1) := by decide +kernel
theorem dJ6_bitCount_0f7a4_43 : decode cJ6_bitCount_0f7a4 43 = .ok (.bipush 16, 2) := by decide +kernel
theorem dJ6_bitCount_0f7a4_45 : decode cJ6_bitCount_0f7a4 45 = .ok (.iushr, 1) := by decide +kernel
theorem dJ6_bitCount_0f7a4_46 : decode cJ6_bitCount_0f7a4 46 = .ok (.iadd, 1) := by decide +kernel
theorem dJ6_bitCount_0f7a4_47 : decode cJ6_bitCount_0f7a4 47 = .ok (.istore_n 0, 1) := by decide +kernel
theorem dJ6_bitCount_0f7a4_48 : decode cJ6_bitCount_0f7a4 48 = .ok (.iload_n 0, 1) := by decide +kernel
theorem dJ6_bitCount_0f7a4_49 : decode cJ6_bitCount_0f7a4 49 = .ok (.bipush 63, 2) := by decide +kernel
theorem dJ6_bitCount_0f7a4_51 : decode cJ6_bitCount_0f7a4 51 = .ok (.iand, 1) := by decide +kernel
theorem dJ6_bitCount_0f7a4_52 : decode cJ6_bitCount_0f7a4 52 = .ok (.ireturn, 1) := by decide +kernel
