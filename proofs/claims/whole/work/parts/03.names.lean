theorem dX4_init_0 : decode cX4_init 0 = .ok (.aload_n 0, 1) := by decide +kernel
theorem dX4_init_1 : decode cX4_init 1 = .ok (.invokespecial 1, 3) := by decide +kernel
theorem dX4_init_4 : decode cX4_init 4 = .ok (.aload_n 0, 1) := by decide +kernel
theorem dX4_init_5 : decode cX4_init 5 = .ok (.new 7, 3) := by decide +kernel
theorem dX4_init_8 : decode cX4_init 8 = .ok (.dup, 1) := by decide +kernel
theorem dX4_init_9 : decode cX4_init 9 = .ok (.invokespecial 9, 3) := by decide +kernel
theorem dX4_init_12 : decode cX4_init 12 = .ok (.putfield 10, 3) := by decide +kernel
theorem dX4_init_15 : decode cX4_init 15 = .ok (.aload_n 0, 1) := by decide +kernel
theorem dX4_init_16 : decode cX4_init 16 = .ok (.new 16, 3) := by decide +kernel
theorem dX4_init_19 : decode cX4_init 19 = .ok (.dup, 1) := by decide +kernel
theorem dX4_init_20 : decode cX4_init 20 = .ok (.invokespecial 18, 3) := by decide +kernel
theorem dX4_init_23 : decode cX4_init 23 = .ok (.putfield 19, 3) := by decide +kernel
theorem dX4_init_26 : decode cX4_init 26 = .ok (.aload_n 0, 1) := by decide +kernel
theorem dX4_init_27 : decode cX4_init 27 = .ok (.new 23, 3) := by decide +kernel
theorem dX4_init_30 : decode cX4_init 30 = .ok (.dup, 1) := by decide +kernel
theorem dX4_init_31 : decode cX4_init 31 = .ok (.invokespecial 25, 3) := by decide +kernel
theorem dX4_init_34 : decode cX4_init 34 = .ok (.putfield 26, 3) := by decide +kernel
theorem dX4_init_37 : decode cX4_init 37 = .ok (.aload_n 0, 1) := by decide +kernel
theorem dX4_init_38 : decode cX4_init 38 = .ok (.new 30, 3) := by decide +kernel
theorem dX4_init_41 : decode cX4_init 41 = .ok (.dup, 1) := by decide +kernel
theorem dX4_init_42 : decode cX4_init 42 = .ok (.invokespecial 32, 3) := by decide +kernel
theorem dX4_init_45 : decode cX4_init 45 = .ok (.putfield 33, 3) := by decide +kernel
theorem dX4_init_48 : decode cX4_init 48 = .ok (.return_, 1) := by decide +kernel
set_option maxRecDepth 20000 in
theorem ggX4_open_X4_isGroup : GoodIn wsX4_open wsX4_isGroup := goodIn_r _ [11] (by decide +kernel) (by decide +kernel)
set_option maxRecDepth 20000 in
theorem gX4_open_X4_isGroup : GoodIn wsX4_open (va_wsS RX4 37 yX4_isGroup wsX4_isGroup) := goodIn_app (goodIn_of _ (by decide +kernel)) ggX4_open_X4_isGroup
set_option maxRecDepth 20000 in
theorem ggX4_open_X4_needSalt : GoodIn wsX4_open wsX4_needSalt := goodIn_ca (goodIn_r _ [14, 1, 2] (by decide +kernel) (by decide +kernel)) (goodIn_sub (fun _ h => List.mem_cons_of_mem _ (List.mem_append_left _ (List.mem_append_right _ h))) (by decide +kernel))
set_option maxRecDepth 20000 in
theorem gX4_open_X4_needSalt : GoodIn wsX4_open (va_wsS RX4 48 yX4_needSalt wsX4_needSalt) := goodIn_app (goodIn_of _ (by decide +kernel)) ggX4_open_X4_needSalt
set_option maxRecDepth 20000 in
theorem ggX4_open_X1_save : GoodIn wsX4_open wsX1_save := goodIn_r _ [19, 20, 21, 22, 23, 24, 18, 25, 26, 27, 28, 29, 30, 31, 32, 33, 34, 35, 36, 37, 38, 39, 40, 41, 42, 43, 44, 45, 46, 47, 48, 49, 50, 74, 75, 76, 59, 60, 61, 62, 63, 64, 65, 66, 67, 68, 69, 70, 71, 72, 73] (by decide +kernel) (by decide +kernel)
set_option maxRecDepth 20000 in
theorem gX4_open_X1_save : GoodIn wsX4_open (wsV RX4 61 RX1 yX1_save wsX1_save) := goodIn_app (goodIn_of _ (by decide +kernel)) ggX4_open_X1_save
set_option maxRecDepth 20000 in
theorem ggX4_open_X3_addBread : GoodIn wsX4_open wsX3_addBread := goodIn_r _ [54, 32, 35, 36, 37, 42, 43, 44, 59, 60, 61, 62, 63, 64, 65, 66, 67, 68, 69, 70, 71, 72, 73] (by decide +kernel) (by decide +kernel)
set_option maxRecDepth 20000 in
theorem gX4_open_X3_addBread : GoodIn wsX4_open (wsV RX4 65 RX3 yX3_addBread wsX3_addBread) := goodIn_app (goodIn_of _ (by decide +kernel)) ggX4_open_X3_addBread
theorem dX4_open_0 : decode cX4_open 0 = .ok (.iload_n 1, 1) := by decide +kernel
theorem dX4_open_1 : decode cX4_open 1 = .ok (.iconst (-1), 1) := by decide +kernel
theorem dX4_open_2 : decode cX4_open 2 = .ok (.if_icmp .eq 20, 3) := by decide +kernel
theorem dX4_open_5 : decode cX4_open 5 = .ok (.iload_n 1, 1) := by decide +kernel
theorem dX4_open_6 : decode cX4_open 6 = .ok (.invokestatic 37, 3) := by decide +kernel
theorem dX4_open_9 : decode cX4_open 9 = .ok (.ifCond .ne 13, 3) := by decide +kernel
theorem dX4_open_12 : decode cX4_open 12 = .ok (.new 41, 3) := by decide +kernel
theorem dX4_open_15 : decode cX4_open 15 = .ok (.dup, 1) := by decide +kernel
theorem dX4_open_16 : decode cX4_open 16 = .ok (.ldc 43, 2) := by decide +kernel
theorem dX4_open_18 : decode cX4_open 18 = .ok (.invokespecial 45, 3) := by decide +kernel
theorem dX4_open_21 : decode cX4_open 21 = .ok (.athrow, 1) := by decide +kernel
theorem dX4_open_22 : decode cX4_open 22 = .ok (.iload_n 2, 1) := by decide +kernel
theorem dX4_open_23 : decode cX4_open 23 = .ok (.invokestatic 48, 3) := by decide +kernel
theorem dX4_open_26 : decode cX4_open 26 = .ok (.aload_n 0, 1) := by decide +kernel
theorem dX4_open_27 : decode cX4_open 27 = .ok (.getfield 10, 3) := by decide +kernel
theorem dX4_open_30 : decode cX4_open 30 = .ok (.getfield 52, 3) := by decide +kernel
theorem dX4_open_33 : decode cX4_open 33 = .ok (.bipush 8, 2) := by decide +kernel
theorem dX4_open_35 : decode cX4_open 35 = .ok (.if_icmp .lt 13, 3) := by decide +kernel
theorem dX4_open_38 : decode cX4_open 38 = .ok (.new 56, 3) := by decide +kernel
theorem dX4_open_41 : decode cX4_open 41 = .ok (.dup, 1) := by decide +kernel
theorem dX4_open_42 : decode cX4_open 42 = .ok (.ldc 58, 2) := by decide +kernel
theorem dX4_open_44 : decode cX4_open 44 = .ok (.invokespecial 60, 3) := by decide +kernel
theorem dX4_open_47 : decode cX4_open 47 = .ok (.athrow, 1) := by decide +kernel
theorem dX4_open_48 : decode cX4_open 48 = .ok (.aload_n 0, 1) := by decide +kernel
theorem dX4_open_49 : decode cX4_open 49 = .ok (.getfield 19, 3) := by decide +kernel
theorem dX4_open_52 : decode cX4_open 52 = .ok (.aload_n 0, 1) := by decide +kernel
theorem dX4_open_53 : decode cX4_open 53 = .ok (.getfield 10, 3) := by decide +kernel
theorem dX4_open_56 : decode cX4_open 56 = .ok (.invokevirtual 61, 3) := by decide +kernel
theorem dX4_open_59 : decode cX4_open 59 = .ok (.aload_n 0, 1) := by decide +kernel
theorem dX4_open_60 : decode cX4_open 60 = .ok (.getfield 10, 3) := by decide +kernel
theorem dX4_open_63 : decode cX4_open 63 = .ok (.iload_n 1, 1) := by decide +kernel
theorem dX4_open_64 : decode cX4_open 64 = .ok (.iload_n 2, 1) := by decide +kernel
theorem dX4_open_65 : decode cX4_open 65 = .ok (.iload_n 3, 1) := by decide +kernel
theorem dX4_open_66 : decode cX4_open 66 = .ok (.invokevirtual 65, 3) := by decide +kernel
theorem dX4_open_69 : decode cX4_open 69 = .ok (.ireturn, 1) := by decide +kernel
set_option maxRecDepth 20000 in
theorem ggX4_end_X4_needBread : GoodIn wsX4_end wsX4_needBread := goodIn_ca (goodIn_r _ [8, 9, 10, 2, 11, 12, 13, 14, 15, 16, 80, 81, 82, 83, 84, 85, 86, 87, 88, 89, 90, 91, 92, 93, 94, 95, 96, 97, 98] (by decide +kernel) (by decide +kernel)) (goodIn_sub (fun _ h => List.mem_cons_of_mem _ (List.mem_append_left _ (List.mem_append_right _ h))) (by decide +kernel))
set_option maxRecDepth 20000 in
theorem gX4_end_X4_needBread : GoodIn wsX4_end (wsV RX4 69 RX4 yX4_needBread wsX4_needBread) := goodIn_app (goodIn_of _ (by decide +kernel)) ggX4_end_X4_needBread
set_option maxRecDepth 20000 in
theorem ggX4_end_X4_needOpen : GoodIn wsX4_end wsX4_needOpen := goodIn_ca (goodIn_r _ [20, 21, 22, 2, 23, 24, 25, 14, 26, 27, 28, 12, 13, 15, 16, 80, 81, 82, 83, 84, 85, 86, 87, 88, 89, 90, 91, 92, 93, 94, 95, 96, 97, 98] (by decide +kernel) (by decide +kernel)) (goodIn_sub (fun _ h => List.mem_cons_of_mem _ (List.mem_append_right _ h)) (by decide +kernel))
set_option maxRecDepth 20000 in
theorem gX4_end_X4_needOpen : GoodIn wsX4_end (wsV RX4 72 RX4 yX4_needOpen wsX4_needOpen) := goodIn_app (goodIn_of _ (by decide +kernel)) ggX4_end_X4_needOpen
set_option maxRecDepth 20000 in
theorem ggX4_end_X1_save : GoodIn wsX4_end wsX1_save := goodIn_r _ [33, 34, 35, 36, 37, 38, 32, 39, 40, 41, 42, 43, 14, 44, 16, 45, 46, 27, 47, 48, 49, 50, 51, 52, 53, 54, 55, 56, 57, 58, 59, 60, 61, 99, 100, 101, 84, 85, 86, 87, 88, 89, 90, 91, 92, 93, 94, 95, 96, 97, 98] (by decide +kernel) (by decide +kernel)
set_option maxRecDepth 20000 in
theorem gX4_end_X1_save : GoodIn wsX4_end (wsV RX4 61 RX1 yX1_save wsX1_save) := goodIn_app (goodIn_of _ (by decide +kernel)) ggX4_end_X1_save
set_option maxRecDepth 20000 in
theorem ggX4_end_X3_closeBread : GoodIn wsX4_end wsX3_closeBread := goodIn_r _ [65, 27, 66, 67, 68, 14, 69, 48, 54, 70, 7, 71, 72, 73, 74, 75, 57, 84, 85, 86, 87, 88, 89, 90, 91, 92, 93, 94, 95, 96, 97, 98] (by decide +kernel) (by decide +kernel)
set_option maxRecDepth 20000 in
theorem gX4_end_X3_closeBread : GoodIn wsX4_end (wsV RX4 75 RX3 yX3_closeBread wsX3_closeBread) := goodIn_app (goodIn_of _ (by decide +kernel)) ggX4_end_X3_closeBread
set_option maxRecDepth 20000 in
theorem ggX4_end_X3_personsWith : GoodIn wsX4_end wsX3_personsWith := goodIn_r _ [79] (by decide +kernel) (by decide +kernel)
set_option maxRecDepth 20000 in
theorem gX4_end_X3_personsWith : GoodIn wsX4_end (wsV RX4 82 RX3 yX3_personsWith wsX3_personsWith) := goodIn_app (goodIn_of _ (by decide +kernel)) ggX4_end_X3_personsWith
theorem dX4_end_0 : decode cX4_end 0 = .ok (.aload_n 0, 1) := by decide +kernel
theorem dX4_end_1 : decode cX4_end 1 = .ok (.iload_n 1, 1) := by decide +kernel
theorem dX4_end_2 : decode cX4_end 2 = .ok (.invokevirtual 69, 3) := by decide +kernel
theorem dX4_end_5 : decode cX4_end 5 = .ok (.aload_n 0, 1) := by decide +kernel
theorem dX4_end_6 : decode cX4_end 6 = .ok (.iload_n 1, 1) := by decide +kernel
theorem dX4_end_7 : decode cX4_end 7 = .ok (.invokevirtual 72, 3) := by decide +kernel
theorem dX4_end_10 : decode cX4_end 10 = .ok (.aload_n 0, 1) := by decide +kernel
theorem dX4_end_11 : decode cX4_end 11 = .ok (.getfield 19, 3) := by decide +kernel
theorem dX4_end_14 : decode cX4_end 14 = .ok (.aload_n 0, 1) := by decide +kernel
theorem dX4_end_15 : decode cX4_end 15 = .ok (.getfield 10, 3) := by decide +kernel
theorem dX4_end_18 : decode cX4_end 18 = .ok (.invokevirtual 61, 3) := by decide +kernel
theorem dX4_end_21 : decode cX4_end 21 = .ok (.aload_n 0, 1) := by decide +kernel
theorem dX4_end_22 : decode cX4_end 22 = .ok (.getfield 10, 3) := by decide +kernel
theorem dX4_end_25 : decode cX4_end 25 = .ok (.iload_n 1, 1) := by decide +kernel
theorem dX4_end_26 : decode cX4_end 26 = .ok (.invokevirtual 75, 3) := by decide +kernel
theorem dX4_end_29 : decode cX4_end 29 = .ok (.aload_n 0, 1) := by decide +kernel
theorem dX4_end_30 : decode cX4_end 30 = .ok (.getfield 10, 3) := by decide +kernel
theorem dX4_end_33 : decode cX4_end 33 = .ok (.aload_n 0, 1) := by decide +kernel
theorem dX4_end_34 : decode cX4_end 34 = .ok (.getfield 10, 3) := by decide +kernel
theorem dX4_end_37 : decode cX4_end 37 = .ok (.getfield 78, 3) := by decide +kernel
theorem dX4_end_40 : decode cX4_end 40 = .ok (.iload_n 1, 1) := by decide +kernel
theorem dX4_end_41 : decode cX4_end 41 = .ok (.invokevirtual 82, 3) := by decide +kernel
theorem dX4_end_44 : decode cX4_end 44 = .ok (.ireturn, 1) := by decide +kernel
set_option maxRecDepth 20000 in
theorem ggX4_raise_X4_needBread : GoodIn wsX4_raise wsX4_needBread := goodIn_ca (goodIn_r _ [9, 10, 11, 3, 12, 13, 14, 15, 16, 17, 107, 108, 109, 110, 111, 112, 113, 114, 115, 116, 117, 118, 119, 120, 121, 122, 123, 124, 125] (by decide +kernel) (by decide +kernel)) (goodIn_sub (fun _ h => List.mem_cons_of_mem _ (List.mem_append_left _ (List.mem_append_right _ h))) (by decide +kernel))
set_option maxRecDepth 20000 in
theorem gX4_raise_X4_needBread : GoodIn wsX4_raise (wsV RX4 69 RX4 yX4_needBread wsX4_needBread) := goodIn_app (goodIn_of _ (by decide +kernel)) ggX4_raise_X4_needBread
set_option maxRecDepth 20000 in
theorem ggX4_raise_X4_needShare : GoodIn wsX4_raise wsX4_needShare := goodIn_ca (goodIn_r _ [20, 21, 22] (by decide +kernel) (by decide +kernel)) (goodIn_sub (fun _ h => List.mem_cons_of_mem _ (List.mem_append_right _ h)) (by decide +kernel))
set_option maxRecDepth 20000 in
theorem gX4_raise_X4_needShare : GoodIn wsX4_raise (va_wsS RX4 86 yX4_needShare wsX4_needShare) := goodIn_app (goodIn_of _ (by decide +kernel)) ggX4_raise_X4_needShare
set_option maxRecDepth 20000 in
theorem ggX4_raise_X3_canRaise : GoodIn wsX4_raise wsX3_canRaise := goodIn_r _ [26, 27, 28, 29, 30, 31, 15, 32, 33, 34, 13, 14, 16, 17, 35, 8, 36, 37, 38, 39, 40, 41, 111, 112, 113, 114, 115, 116, 117, 118, 119, 120, 121, 122, 123, 124, 125] (by decide +kernel) (by decide +kernel)
set_option maxRecDepth 20000 in
theorem gX4_raise_X3_canRaise : GoodIn wsX4_raise (wsV RX4 89 RX3 yX3_canRaise wsX3_canRaise) := goodIn_app (goodIn_of _ (by decide +kernel)) ggX4_raise_X3_canRaise
set_option maxRecDepth 20000 in
theorem ggX4_raise_X1_save : GoodIn wsX4_raise wsX1_save := goodIn_r _ [46, 47, 48, 49, 50, 51, 45, 52, 53, 54, 55, 56, 15, 57, 17, 58, 59, 33, 60, 28, 61, 62, 63, 64, 65, 27, 66, 67, 41, 68, 69, 70, 71, 126, 127, 128, 111, 112, 113, 114, 115, 116, 117, 118, 119, 120, 121, 122, 123, 124, 125] (by decide +kernel) (by decide +kernel)
set_option maxRecDepth 20000 in
theorem gX4_raise_X1_save : GoodIn wsX4_raise (wsV RX4 61 RX1 yX1_save wsX1_save) := goodIn_app (goodIn_of _ (by decide +kernel)) ggX4_raise_X1_save
set_option maxRecDepth 20000 in
theorem ggX4_raise_X3_eaters : GoodIn wsX4_raise wsX3_eaters := goodIn_r _ [75, 76, 77, 78, 15, 79, 28, 67, 65, 35, 8, 36, 80, 81, 82, 83, 84, 85, 86, 87, 33, 69, 68, 60, 70, 88, 89, 90, 91, 92, 93, 94, 95, 96, 97, 98, 41, 27, 111, 112, 113, 114, 115, 116, 117, 118, 119, 120, 121, 122, 123, 124, 125] (by decide +kernel) (by decide +kernel)
set_option maxRecDepth 20000 in
theorem gX4_raise_X3_eaters : GoodIn wsX4_raise (wsV RX4 95 RX3 yX3_eaters wsX3_eaters) := goodIn_app (goodIn_of _ (by decide +kernel)) ggX4_raise_X3_eaters
set_option maxRecDepth 20000 in
theorem ggX4_raise_X3_raiseTo : GoodIn wsX4_raise wsX3_raiseTo := goodIn_r _ [102, 28, 27, 35, 8, 36, 103, 104, 105, 15, 106, 41, 111, 112, 113, 114, 115, 116, 117, 118, 119, 120, 121, 122, 123, 124, 125] (by decide +kernel) (by decide +kernel)
set_option maxRecDepth 20000 in
theorem gX4_raise_X3_raiseTo : GoodIn wsX4_raise (wsV RX4 99 RX3 yX3_raiseTo wsX3_raiseTo) := goodIn_app (goodIn_of _ (by decide +kernel)) ggX4_raise_X3_raiseTo
theorem dX4_raise_0 : decode cX4_raise 0 = .ok (.aload_n 0, 1) := by decide +kernel
theorem dX4_raise_1 : decode cX4_raise 1 = .ok (.iload_n 1, 1) := by decide +kernel
theorem dX4_raise_2 : decode cX4_raise 2 = .ok (.invokevirtual 69, 3) := by decide +kernel
theorem dX4_raise_5 : decode cX4_raise 5 = .ok (.iload_n 2, 1) := by decide +kernel
theorem dX4_raise_6 : decode cX4_raise 6 = .ok (.invokestatic 86, 3) := by decide +kernel
theorem dX4_raise_9 : decode cX4_raise 9 = .ok (.aload_n 0, 1) := by decide +kernel
theorem dX4_raise_10 : decode cX4_raise 10 = .ok (.getfield 10, 3) := by decide +kernel
theorem dX4_raise_13 : decode cX4_raise 13 = .ok (.iload_n 1, 1) := by decide +kernel
theorem dX4_raise_14 : decode cX4_raise 14 = .ok (.iload_n 2, 1) := by decide +kernel
theorem dX4_raise_15 : decode cX4_raise 15 = .ok (.invokevirtual 89, 3) := by decide +kernel
theorem dX4_raise_18 : decode cX4_raise 18 = .ok (.ifCond .ne 13, 3) := by decide +kernel
theorem dX4_raise_21 : decode cX4_raise 21 = .ok (.new 56, 3) := by decide +kernel
theorem dX4_raise_24 : decode cX4_raise 24 = .ok (.dup, 1) := by decide +kernel
theorem dX4_raise_25 : decode cX4_raise 25 = .ok (.ldc 93, 2) := by decide +kernel
theorem dX4_raise_27 : decode cX4_raise 27 = .ok (.invokespecial 60, 3) := by decide +kernel
theorem dX4_raise_30 : decode cX4_raise 30 = .ok (.athrow, 1) := by decide +kernel
theorem dX4_raise_31 : decode cX4_raise 31 = .ok (.aload_n 0, 1) := by decide +kernel
theorem dX4_raise_32 : decode cX4_raise 32 = .ok (.getfield 19, 3) := by decide +kernel
theorem dX4_raise_35 : decode cX4_raise 35 = .ok (.aload_n 0, 1) := by decide +kernel
theorem dX4_raise_36 : decode cX4_raise 36 = .ok (.getfield 10, 3) := by decide +kernel
theorem dX4_raise_39 : decode cX4_raise 39 = .ok (.invokevirtual 61, 3) := by decide +kernel
theorem dX4_raise_42 : decode cX4_raise 42 = .ok (.aload_n 0, 1) := by decide +kernel
theorem dX4_raise_43 : decode cX4_raise 43 = .ok (.getfield 10, 3) := by decide +kernel
theorem dX4_raise_46 : decode cX4_raise 46 = .ok (.iload_n 1, 1) := by decide +kernel
theorem dX4_raise_47 : decode cX4_raise 47 = .ok (.invokevirtual 95, 3) := by decide +kernel
theorem dX4_raise_50 : decode cX4_raise 50 = .ok (.istore_n 3, 1) := by decide +kernel
theorem dX4_raise_51 : decode cX4_raise 51 = .ok (.aload_n 0, 1) := by decide +kernel
theorem dX4_raise_52 : decode cX4_raise 52 = .ok (.getfield 10, 3) := by decide +kernel
theorem dX4_raise_55 : decode cX4_raise 55 = .ok (.iload_n 1, 1) := by decide +kernel
theorem dX4_raise_56 : decode cX4_raise 56 = .ok (.iload_n 2, 1) := by decide +kernel
theorem dX4_raise_57 : decode cX4_raise 57 = .ok (.invokevirtual 99, 3) := by decide +kernel
theorem dX4_raise_60 : decode cX4_raise 60 = .ok (.aload_n 0, 1) := by decide +kernel
theorem dX4_raise_61 : decode cX4_raise 61 = .ok (.getfield 10, 3) := by decide +kernel
theorem dX4_raise_64 : decode cX4_raise 64 = .ok (.iload_n 1, 1) := by decide +kernel
theorem dX4_raise_65 : decode cX4_raise 65 = .ok (.invokevirtual 95, 3) := by decide +kernel
theorem dX4_raise_68 : decode cX4_raise 68 = .ok (.iload_n 3, 1) := by decide +kernel
theorem dX4_raise_69 : decode cX4_raise 69 = .ok (.isub, 1) := by decide +kernel
theorem dX4_raise_70 : decode cX4_raise 70 = .ok (.ireturn, 1) := by decide +kernel
set_option maxRecDepth 20000 in
theorem ggX4_lower_X4_needBread : GoodIn wsX4_lower wsX4_needBread := goodIn_ca (goodIn_r _ [9, 10, 11, 3, 12, 13, 14, 15, 16, 17, 103, 104, 105, 106, 107, 108, 109, 110, 111, 112, 113, 114, 115, 116, 117, 118, 119, 120, 121] (by decide +kernel) (by decide +kernel)) (goodIn_sub (fun _ h => List.mem_cons_of_mem _ (List.mem_append_left _ (List.mem_append_right _ h))) (by decide +kernel))
set_option maxRecDepth 20000 in
theorem gX4_lower_X4_needBread : GoodIn wsX4_lower (wsV RX4 69 RX4 yX4_needBread wsX4_needBread) := goodIn_app (goodIn_of _ (by decide +kernel)) ggX4_lower_X4_needBread
set_option maxRecDepth 20000 in
theorem ggX4_lower_X4_needShare : GoodIn wsX4_lower wsX4_needShare := goodIn_ca (goodIn_r _ [20, 21, 22] (by decide +kernel) (by decide +kernel)) (goodIn_sub (fun _ h => List.mem_cons_of_mem _ (List.mem_append_right _ h)) (by decide +kernel))
set_option maxRecDepth 20000 in
theorem gX4_lower_X4_needShare : GoodIn wsX4_lower (va_wsS RX4 86 yX4_needShare wsX4_needShare) := goodIn_app (goodIn_of _ (by decide +kernel)) ggX4_lower_X4_needShare
set_option maxRecDepth 20000 in
theorem ggX4_lower_X3_canLower : GoodIn wsX4_lower wsX3_canLower := goodIn_r _ [26, 27, 28, 29, 30, 15, 31, 32, 33, 13, 14, 16, 17, 107, 108, 109, 110, 111, 112, 113, 114, 115, 116, 117, 118, 119, 120, 121] (by decide +kernel) (by decide +kernel)
set_option maxRecDepth 20000 in
theorem gX4_lower_X3_canLower : GoodIn wsX4_lower (wsV RX4 103 RX3 yX3_canLower wsX3_canLower) := goodIn_app (goodIn_of _ (by decide +kernel)) ggX4_lower_X3_canLower
set_option maxRecDepth 20000 in
theorem ggX4_lower_X1_save : GoodIn wsX4_lower wsX1_save := goodIn_r _ [38, 39, 40, 41, 42, 43, 37, 44, 45, 46, 47, 48, 15, 49, 17, 50, 51, 32, 52, 53, 54, 55, 56, 57, 58, 27, 59, 60, 61, 62, 63, 64, 65, 122, 123, 124, 107, 108, 109, 110, 111, 112, 113, 114, 115, 116, 117, 118, 119, 120, 121] (by decide +kernel) (by decide +kernel)
set_option maxRecDepth 20000 in
theorem gX4_lower_X1_save : GoodIn wsX4_lower (wsV RX4 61 RX1 yX1_save wsX1_save) := goodIn_app (goodIn_of _ (by decide +kernel)) ggX4_lower_X1_save
set_option maxRecDepth 20000 in
theorem ggX4_lower_X3_eaters : GoodIn wsX4_lower wsX3_eaters := goodIn_r _ [69, 70, 71, 72, 15, 73, 53, 60, 58, 74, 8, 75, 76, 77, 78, 79, 80, 81, 82, 83, 32, 63, 62, 52, 64, 84, 85, 86, 87, 88, 89, 90, 91, 92, 93, 94, 61, 27, 107, 108, 109, 110, 111, 112, 113, 114, 115, 116, 117, 118, 119, 120, 121] (by decide +kernel) (by decide +kernel)
set_option maxRecDepth 20000 in
theorem gX4_lower_X3_eaters : GoodIn wsX4_lower (wsV RX4 95 RX3 yX3_eaters wsX3_eaters) := goodIn_app (goodIn_of _ (by decide +kernel)) ggX4_lower_X3_eaters
set_option maxRecDepth 20000 in
theorem ggX4_lower_X3_lowerTo : GoodIn wsX4_lower wsX3_lowerTo := goodIn_r _ [98, 53, 27, 74, 8, 75, 99, 100, 101, 15, 102, 61, 107, 108, 109, 110, 111, 112, 113, 114, 115, 116, 117, 118, 119, 120, 121] (by decide +kernel) (by decide +kernel)
set_option maxRecDepth 20000 in
theorem gX4_lower_X3_lowerTo : GoodIn wsX4_lower (wsV RX4 108 RX3 yX3_lowerTo wsX3_lowerTo) := goodIn_app (goodIn_of _ (by decide +kernel)) ggX4_lower_X3_lowerTo
theorem dX4_lower_0 : decode cX4_lower 0 = .ok (.aload_n 0, 1) := by decide +kernel
theorem dX4_lower_1 : decode cX4_lower 1 = .ok (.iload_n 1, 1) := by decide +kernel
theorem dX4_lower_2 : decode cX4_lower 2 = .ok (.invokevirtual 69, 3) := by decide +kernel
theorem dX4_lower_5 : decode cX4_lower 5 = .ok (.iload_n 2, 1) := by decide +kernel
theorem dX4_lower_6 : decode cX4_lower 6 = .ok (.invokestatic 86, 3) := by decide +kernel
theorem dX4_lower_9 : decode cX4_lower 9 = .ok (.aload_n 0, 1) := by decide +kernel
theorem dX4_lower_10 : decode cX4_lower 10 = .ok (.getfield 10, 3) := by decide +kernel
theorem dX4_lower_13 : decode cX4_lower 13 = .ok (.iload_n 1, 1) := by decide +kernel
theorem dX4_lower_14 : decode cX4_lower 14 = .ok (.iload_n 2, 1) := by decide +kernel
theorem dX4_lower_15 : decode cX4_lower 15 = .ok (.invokevirtual 103, 3) := by decide +kernel
theorem dX4_lower_18 : decode cX4_lower 18 = .ok (.ifCond .ne 13, 3) := by decide +kernel
theorem dX4_lower_21 : decode cX4_lower 21 = .ok (.new 56, 3) := by decide +kernel
theorem dX4_lower_24 : decode cX4_lower 24 = .ok (.dup, 1) := by decide +kernel
theorem dX4_lower_25 : decode cX4_lower 25 = .ok (.ldc 106, 2) := by decide +kernel
theorem dX4_lower_27 : decode cX4_lower 27 = .ok (.invokespecial 60, 3) := by decide +kernel
theorem dX4_lower_30 : decode cX4_lower 30 = .ok (.athrow, 1) := by decide +kernel
theorem dX4_lower_31 : decode cX4_lower 31 = .ok (.aload_n 0, 1) := by decide +kernel
theorem dX4_lower_32 : decode cX4_lower 32 = .ok (.getfield 19, 3) := by decide +kernel
theorem dX4_lower_35 : decode cX4_lower 35 = .ok (.aload_n 0, 1) := by decide +kernel
theorem dX4_lower_36 : decode cX4_lower 36 = .ok (.getfield 10, 3) := by decide +kernel
theorem dX4_lower_39 : decode cX4_lower 39 = .ok (.invokevirtual 61, 3) := by decide +kernel
theorem dX4_lower_42 : decode cX4_lower 42 = .ok (.aload_n 0, 1) := by decide +kernel
theorem dX4_lower_43 : decode cX4_lower 43 = .ok (.getfield 10, 3) := by decide +kernel
theorem dX4_lower_46 : decode cX4_lower 46 = .ok (.iload_n 1, 1) := by decide +kernel
theorem dX4_lower_47 : decode cX4_lower 47 = .ok (.invokevirtual 95, 3) := by decide +kernel
theorem dX4_lower_50 : decode cX4_lower 50 = .ok (.istore_n 3, 1) := by decide +kernel
theorem dX4_lower_51 : decode cX4_lower 51 = .ok (.aload_n 0, 1) := by decide +kernel
theorem dX4_lower_52 : decode cX4_lower 52 = .ok (.getfield 10, 3) := by decide +kernel
theorem dX4_lower_55 : decode cX4_lower 55 = .ok (.iload_n 1, 1) := by decide +kernel
theorem dX4_lower_56 : decode cX4_lower 56 = .ok (.iload_n 2, 1) := by decide +kernel
theorem dX4_lower_57 : decode cX4_lower 57 = .ok (.invokevirtual 108, 3) := by decide +kernel
theorem dX4_lower_60 : decode cX4_lower 60 = .ok (.iload_n 3, 1) := by decide +kernel
theorem dX4_lower_61 : decode cX4_lower 61 = .ok (.aload_n 0, 1) := by decide +kernel
theorem dX4_lower_62 : decode cX4_lower 62 = .ok (.getfield 10, 3) := by decide +kernel
theorem dX4_lower_65 : decode cX4_lower 65 = .ok (.iload_n 1, 1) := by decide +kernel
theorem dX4_lower_66 : decode cX4_lower 66 = .ok (.invokevirtual 95, 3) := by decide +kernel
theorem dX4_lower_69 : decode cX4_lower 69 = .ok (.isub, 1) := by decide +kernel
theorem dX4_lower_70 : decode cX4_lower 70 = .ok (.ireturn, 1) := by decide +kernel
set_option maxRecDepth 20000 in
theorem ggX4_resalt_X4_needBread : GoodIn wsX4_resalt wsX4_needBread := goodIn_ca (goodIn_r _ [10, 11, 12, 3, 13, 14, 15, 16, 17, 18, 100, 101, 102, 103, 104, 105, 106, 107, 108, 109, 110, 111, 112, 113, 114, 115, 116, 117, 118] (by decide +kernel) (by decide +kernel)) (goodIn_sub (fun _ h => List.mem_cons_of_mem _ (List.mem_append_left _ (List.mem_append_right _ h))) (by decide +kernel))
set_option maxRecDepth 20000 in
theorem gX4_resalt_X4_needBread : GoodIn wsX4_resalt (wsV RX4 69 RX4 yX4_needBread wsX4_needBread) := goodIn_app (goodIn_of _ (by decide +kernel)) ggX4_resalt_X4_needBread
set_option maxRecDepth 20000 in
theorem ggX4_resalt_X4_needSalt : GoodIn wsX4_resalt wsX4_needSalt := goodIn_ca (goodIn_r _ [21, 22, 23] (by decide +kernel) (by decide +kernel)) (goodIn_sub (fun _ h => List.mem_cons_of_mem _ (List.mem_append_right _ h)) (by decide +kernel))
set_option maxRecDepth 20000 in
theorem gX4_resalt_X4_needSalt : GoodIn wsX4_resalt (va_wsS RX4 48 yX4_needSalt wsX4_needSalt) := goodIn_app (goodIn_of _ (by decide +kernel)) ggX4_resalt_X4_needSalt
set_option maxRecDepth 20000 in
theorem ggX4_resalt_X4_needOpen : GoodIn wsX4_resalt wsX4_needOpen := goodIn_ca (goodIn_r _ [27, 1, 2, 3, 28, 29, 30, 16, 31, 32, 33, 14, 15, 17, 18, 100, 101, 102, 103, 104, 105, 106, 107, 108, 109, 110, 111, 112, 113, 114, 115, 116, 117, 118] (by decide +kernel) (by decide +kernel)) (goodIn_sub (fun _ h => List.mem_cons_of_mem _ (List.mem_append_left _ (List.mem_append_left _ (List.mem_append_right _ h)))) (by decide +kernel))
set_option maxRecDepth 20000 in
theorem gX4_resalt_X4_needOpen : GoodIn wsX4_resalt (wsV RX4 72 RX4 yX4_needOpen wsX4_needOpen) := goodIn_app (goodIn_of _ (by decide +kernel)) ggX4_resalt_X4_needOpen
set_option maxRecDepth 20000 in
theorem ggX4_resalt_X3_isInGroup : GoodIn wsX4_resalt wsX3_isInGroup := goodIn_r _ [37, 38, 39, 9, 40, 104, 105, 106, 107, 108, 109, 110, 111, 112, 113, 114, 115, 116, 117, 118] (by decide +kernel) (by decide +kernel)
set_option maxRecDepth 20000 in
theorem gX4_resalt_X3_isInGroup : GoodIn wsX4_resalt (wsV RX4 111 RX3 yX3_isInGroup wsX3_isInGroup) := goodIn_app (goodIn_of _ (by decide +kernel)) ggX4_resalt_X3_isInGroup
set_option maxRecDepth 20000 in
theorem ggX4_resalt_X1_save : GoodIn wsX4_resalt wsX1_save := goodIn_r _ [45, 46, 47, 48, 49, 50, 44, 51, 52, 53, 54, 55, 16, 56, 18, 57, 58, 32, 59, 38, 60, 61, 62, 63, 64, 65, 66, 67, 68, 69, 70, 71, 72, 119, 120, 121, 104, 105, 106, 107, 108, 109, 110, 111, 112, 113, 114, 115, 116, 117, 118] (by decide +kernel) (by decide +kernel)
set_option maxRecDepth 20000 in
theorem gX4_resalt_X1_save : GoodIn wsX4_resalt (wsV RX4 61 RX1 yX1_save wsX1_save) := goodIn_app (goodIn_of _ (by decide +kernel)) ggX4_resalt_X1_save
set_option maxRecDepth 20000 in
theorem ggX4_resalt_X3_changedBySalt : GoodIn wsX4_resalt wsX3_changedBySalt := goodIn_r _ [76, 77, 78, 79, 16, 80, 32, 70, 69, 59, 71, 81, 9, 82, 83, 84, 85, 86, 87, 88, 89, 90, 91, 38, 68, 65, 92, 93, 94, 95, 96, 97, 98, 99, 67, 64, 39, 40, 104, 105, 106, 107, 108, 109, 110, 111, 112, 113, 114, 115, 116, 117, 118] (by decide +kernel) (by decide +kernel)
set_option maxRecDepth 20000 in
theorem gX4_resalt_X3_changedBySalt : GoodIn wsX4_resalt (wsV RX4 116 RX3 yX3_changedBySalt wsX3_changedBySalt) := goodIn_app (goodIn_of _ (by decide +kernel)) ggX4_resalt_X3_changedBySalt
theorem dX4_resalt_0 : decode cX4_resalt 0 = .ok (.aload_n 0, 1) := by decide +kernel
theorem dX4_resalt_1 : decode cX4_resalt 1 = .ok (.iload_n 1, 1) := by decide +kernel
theorem dX4_resalt_2 : decode cX4_resalt 2 = .ok (.invokevirtual 69, 3) := by decide +kernel
theorem dX4_resalt_5 : decode cX4_resalt 5 = .ok (.iload_n 2, 1) := by decide +kernel
theorem dX4_resalt_6 : decode cX4_resalt 6 = .ok (.invokestatic 48, 3) := by decide +kernel
theorem dX4_resalt_9 : decode cX4_resalt 9 = .ok (.aload_n 0, 1) := by decide +kernel
theorem dX4_resalt_10 : decode cX4_resalt 10 = .ok (.iload_n 1, 1) := by decide +kernel
theorem dX4_resalt_11 : decode cX4_resalt 11 = .ok (.invokevirtual 72, 3) := by decide +kernel
theorem dX4_resalt_14 : decode cX4_resalt 14 = .ok (.aload_n 0, 1) := by decide +kernel
theorem dX4_resalt_15 : decode cX4_resalt 15 = .ok (.getfield 10, 3) := by decide +kernel
theorem dX4_resalt_18 : decode cX4_resalt 18 = .ok (.iload_n 1, 1) := by decide +kernel
theorem dX4_resalt_19 : decode cX4_resalt 19 = .ok (.invokevirtual 111, 3) := by decide +kernel
theorem dX4_resalt_22 : decode cX4_resalt 22 = .ok (.ifCond .eq 13, 3) := by decide +kernel
theorem dX4_resalt_25 : decode cX4_resalt 25 = .ok (.new 56, 3) := by decide +kernel
theorem dX4_resalt_28 : decode cX4_resalt 28 = .ok (.dup, 1) := by decide +kernel
theorem dX4_resalt_29 : decode cX4_resalt 29 = .ok (.ldc 114, 2) := by decide +kernel
theorem dX4_resalt_31 : decode cX4_resalt 31 = .ok (.invokespecial 60, 3) := by decide +kernel
theorem dX4_resalt_34 : decode cX4_resalt 34 = .ok (.athrow, 1) := by decide +kernel
theorem dX4_resalt_35 : decode cX4_resalt 35 = .ok (.aload_n 0, 1) := by decide +kernel
theorem dX4_resalt_36 : decode cX4_resalt 36 = .ok (.getfield 19, 3) := by decide +kernel
theorem dX4_resalt_39 : decode cX4_resalt 39 = .ok (.aload_n 0, 1) := by decide +kernel
theorem dX4_resalt_40 : decode cX4_resalt 40 = .ok (.getfield 10, 3) := by decide +kernel
theorem dX4_resalt_43 : decode cX4_resalt 43 = .ok (.invokevirtual 61, 3) := by decide +kernel
theorem dX4_resalt_46 : decode cX4_resalt 46 = .ok (.aload_n 0, 1) := by decide +kernel
theorem dX4_resalt_47 : decode cX4_resalt 47 = .ok (.getfield 10, 3) := by decide +kernel
theorem dX4_resalt_50 : decode cX4_resalt 50 = .ok (.iload_n 1, 1) := by decide +kernel
theorem dX4_resalt_51 : decode cX4_resalt 51 = .ok (.iload_n 2, 1) := by decide +kernel
theorem dX4_resalt_52 : decode cX4_resalt 52 = .ok (.invokevirtual 116, 3) := by decide +kernel
theorem dX4_resalt_55 : decode cX4_resalt 55 = .ok (.istore_n 3, 1) := by decide +kernel
theorem dX4_resalt_56 : decode cX4_resalt 56 = .ok (.aload_n 0, 1) := by decide +kernel
theorem dX4_resalt_57 : decode cX4_resalt 57 = .ok (.getfield 10, 3) := by decide +kernel
theorem dX4_resalt_60 : decode cX4_resalt 60 = .ok (.getfield 120, 3) := by decide +kernel
theorem dX4_resalt_63 : decode cX4_resalt 63 = .ok (.iload_n 1, 1) := by decide +kernel
theorem dX4_resalt_64 : decode cX4_resalt 64 = .ok (.iload_n 2, 1) := by decide +kernel
theorem dX4_resalt_65 : decode cX4_resalt 65 = .ok (.iastore, 1) := by decide +kernel
theorem dX4_resalt_66 : decode cX4_resalt 66 = .ok (.iload_n 3, 1) := by decide +kernel
theorem dX4_resalt_67 : decode cX4_resalt 67 = .ok (.ireturn, 1) := by decide +kernel
set_option maxRecDepth 20000 in
theorem ggX4_shake_X4_needGroup : GoodIn wsX4_shake wsX4_needGroup := goodIn_ca (goodIn_r _ [7, 8, 9, 10, 11, 6, 12] (by decide +kernel) (by decide +kernel)) (goodIn_sub (fun _ h => List.mem_cons_of_mem _ (List.mem_append_left _ (List.mem_append_right _ h))) (by decide +kernel))
set_option maxRecDepth 20000 in
theorem gX4_shake_X4_needGroup : GoodIn wsX4_shake (va_wsS RX4 123 yX4_needGroup wsX4_needGroup) := goodIn_app (goodIn_of _ (by decide +kernel)) ggX4_shake_X4_needGroup
set_option maxRecDepth 20000 in
theorem ggX4_shake_X4_needSalt : GoodIn wsX4_shake wsX4_needSalt := goodIn_ca (goodIn_r _ [15, 16, 17] (by decide +kernel) (by decide +kernel)) (goodIn_sub (fun _ h => List.mem_cons_of_mem _ (List.mem_append_right _ h)) (by decide +kernel))
set_option maxRecDepth 20000 in
theorem gX4_shake_X4_needSalt : GoodIn wsX4_shake (va_wsS RX4 48 yX4_needSalt wsX4_needSalt) := goodIn_app (goodIn_of _ (by decide +kernel)) ggX4_shake_X4_needSalt
set_option maxRecDepth 20000 in
theorem ggX4_shake_X1_save : GoodIn wsX4_shake wsX1_save := goodIn_r _ [22, 23, 24, 25, 26, 27, 21, 28, 29, 30, 31, 32, 33, 34, 35, 36, 37, 38, 39, 40, 41, 42, 43, 44, 45, 46, 47, 48, 49, 50, 51, 52, 53, 73, 74, 75, 58, 59, 60, 61, 62, 63, 64, 65, 66, 67, 68, 69, 70, 71, 72] (by decide +kernel) (by decide +kernel)
set_option maxRecDepth 20000 in
theorem gX4_shake_X1_save : GoodIn wsX4_shake (wsV RX4 61 RX1 yX1_save wsX1_save) := goodIn_app (goodIn_of _ (by decide +kernel)) ggX4_shake_X1_save
theorem dX4_shake_0 : decode cX4_shake 0 = .ok (.iload_n 1, 1) := by decide +kernel
theorem dX4_shake_1 : decode cX4_shake 1 = .ok (.invokestatic 123, 3) := by decide +kernel
theorem dX4_shake_4 : decode cX4_shake 4 = .ok (.iload_n 2, 1) := by decide +kernel
theorem dX4_shake_5 : decode cX4_shake 5 = .ok (.invokestatic 48, 3) := by decide +kernel
theorem dX4_shake_8 : decode cX4_shake 8 = .ok (.aload_n 0, 1) := by decide +kernel
theorem dX4_shake_9 : decode cX4_shake 9 = .ok (.getfield 19, 3) := by decide +kernel
theorem dX4_shake_12 : decode cX4_shake 12 = .ok (.aload_n 0, 1) := by decide +kernel
theorem dX4_shake_13 : decode cX4_shake 13 = .ok (.getfield 10, 3) := by decide +kernel
theorem dX4_shake_16 : decode cX4_shake 16 = .ok (.invokevirtual 61, 3) := by decide +kernel
theorem dX4_shake_19 : decode cX4_shake 19 = .ok (.aload_n 0, 1) := by decide +kernel
theorem dX4_shake_20 : decode cX4_shake 20 = .ok (.getfield 10, 3) := by decide +kernel
theorem dX4_shake_23 : decode cX4_shake 23 = .ok (.getfield 126, 3) := by decide +kernel
theorem dX4_shake_26 : decode cX4_shake 26 = .ok (.iload_n 1, 1) := by decide +kernel
theorem dX4_shake_27 : decode cX4_shake 27 = .ok (.iaload, 1) := by decide +kernel
theorem dX4_shake_28 : decode cX4_shake 28 = .ok (.istore_n 3, 1) := by decide +kernel
theorem dX4_shake_29 : decode cX4_shake 29 = .ok (.aload_n 0, 1) := by decide +kernel
theorem dX4_shake_30 : decode cX4_shake 30 = .ok (.getfield 10, 3) := by decide +kernel
theorem dX4_shake_33 : decode cX4_shake 33 = .ok (.getfield 126, 3) := by decide +kernel
theorem dX4_shake_36 : decode cX4_shake 36 = .ok (.iload_n 1, 1) := by decide +kernel
theorem dX4_shake_37 : decode cX4_shake 37 = .ok (.iload_n 2, 1) := by decide +kernel
theorem dX4_shake_38 : decode cX4_shake 38 = .ok (.iastore, 1) := by decide +kernel
theorem dX4_shake_39 : decode cX4_shake 39 = .ok (.iload_n 3, 1) := by decide +kernel
theorem dX4_shake_40 : decode cX4_shake 40 = .ok (.ireturn, 1) := by decide +kernel
set_option maxRecDepth 20000 in
theorem ggX4_hold_X4_needPerson : GoodIn wsX4_hold wsX4_needPerson := goodIn_ca (goodIn_r _ [6, 7, 8] (by decide +kernel) (by decide +kernel)) (goodIn_sub (fun _ h => List.mem_cons_of_mem _ (List.mem_append_left _ (List.mem_append_right _ h))) (by decide +kernel))
set_option maxRecDepth 20000 in
theorem gX4_hold_X4_needPerson : GoodIn wsX4_hold (va_wsS RX4 129 yX4_needPerson wsX4_needPerson) := goodIn_app (goodIn_of _ (by decide +kernel)) ggX4_hold_X4_needPerson
set_option maxRecDepth 20000 in
theorem ggX4_hold_X4_needBread : GoodIn wsX4_hold wsX4_needBread := goodIn_ca (goodIn_r _ [12, 7, 8, 2, 13, 14, 15, 16, 17, 18, 97, 98, 99, 100, 101, 102, 103, 104, 105, 106, 107, 108, 109, 110, 111, 112, 113, 114, 115] (by decide +kernel) (by decide +kernel)) (goodIn_sub (fun _ h => List.mem_cons_of_mem _ (List.mem_append_left _ (List.mem_append_right _ h))) (by decide +kernel))
set_option maxRecDepth 20000 in
theorem gX4_hold_X4_needBread : GoodIn wsX4_hold (wsV RX4 69 RX4 yX4_needBread wsX4_needBread) := goodIn_app (goodIn_of _ (by decide +kernel)) ggX4_hold_X4_needBread
set_option maxRecDepth 20000 in
theorem ggX4_hold_X4_needOpen : GoodIn wsX4_hold wsX4_needOpen := goodIn_ca (goodIn_r _ [22, 23, 24, 2, 25, 26, 27, 16, 28, 29, 30, 14, 15, 17, 18, 97, 98, 99, 100, 101, 102, 103, 104, 105, 106, 107, 108, 109, 110, 111, 112, 113, 114, 115] (by decide +kernel) (by decide +kernel)) (goodIn_sub (fun _ h => List.mem_cons_of_mem _ (List.mem_append_right _ h)) (by decide +kernel))
set_option maxRecDepth 20000 in
theorem gX4_hold_X4_needOpen : GoodIn wsX4_hold (wsV RX4 72 RX4 yX4_needOpen wsX4_needOpen) := goodIn_app (goodIn_of _ (by decide +kernel)) ggX4_hold_X4_needOpen
set_option maxRecDepth 20000 in
theorem ggX4_hold_X1_save : GoodIn wsX4_hold wsX1_save := goodIn_r _ [35, 36, 37, 38, 39, 40, 34, 41, 42, 43, 44, 45, 16, 46, 18, 47, 48, 29, 49, 50, 51, 52, 53, 54, 55, 56, 57, 58, 59, 60, 61, 62, 63, 116, 117, 118, 101, 102, 103, 104, 105, 106, 107, 108, 109, 110, 111, 112, 113, 114, 115] (by decide +kernel) (by decide +kernel)
set_option maxRecDepth 20000 in
theorem gX4_hold_X1_save : GoodIn wsX4_hold (wsV RX4 61 RX1 yX1_save wsX1_save) := goodIn_app (goodIn_of _ (by decide +kernel)) ggX4_hold_X1_save
set_option maxRecDepth 20000 in
theorem ggX4_hold_X3_isEating : GoodIn wsX4_hold wsX3_isEating := goodIn_r _ [67, 68, 69, 70, 16, 71, 50, 58, 55, 72, 5, 73, 74, 75, 76, 77, 29, 61, 60, 49, 62, 78, 79, 80, 81, 82, 83, 84, 85, 86, 87, 88, 59, 56, 101, 102, 103, 104, 105, 106, 107, 108, 109, 110, 111, 112, 113, 114, 115] (by decide +kernel) (by decide +kernel)
set_option maxRecDepth 20000 in
theorem gX4_hold_X3_isEating : GoodIn wsX4_hold (wsV RX4 132 RX3 yX3_isEating wsX3_isEating) := goodIn_app (goodIn_of _ (by decide +kernel)) ggX4_hold_X3_isEating
set_option maxRecDepth 20000 in
theorem ggX4_hold_X3_setHold : GoodIn wsX4_hold wsX3_setHold := goodIn_r _ [92, 60, 61, 93, 94, 95, 16, 96, 101, 102, 103, 104, 105, 106, 107, 108, 109, 110, 111, 112, 113, 114, 115] (by decide +kernel) (by decide +kernel)
set_option maxRecDepth 20000 in
theorem gX4_hold_X3_setHold : GoodIn wsX4_hold (wsV RX4 135 RX3 yX3_setHold wsX3_setHold) := goodIn_app (goodIn_of _ (by decide +kernel)) ggX4_hold_X3_setHold
theorem dX4_hold_0 : decode cX4_hold 0 = .ok (.iload_n 1, 1) := by decide +kernel
theorem dX4_hold_1 : decode cX4_hold 1 = .ok (.invokestatic 129, 3) := by decide +kernel
theorem dX4_hold_4 : decode cX4_hold 4 = .ok (.aload_n 0, 1) := by decide +kernel
theorem dX4_hold_5 : decode cX4_hold 5 = .ok (.iload_n 2, 1) := by decide +kernel
theorem dX4_hold_6 : decode cX4_hold 6 = .ok (.invokevirtual 69, 3) := by decide +kernel
theorem dX4_hold_9 : decode cX4_hold 9 = .ok (.aload_n 0, 1) := by decide +kernel
theorem dX4_hold_10 : decode cX4_hold 10 = .ok (.iload_n 2, 1) := by decide +kernel
theorem dX4_hold_11 : decode cX4_hold 11 = .ok (.invokevirtual 72, 3) := by decide +kernel
theorem dX4_hold_14 : decode cX4_hold 14 = .ok (.aload_n 0, 1) := by decide +kernel
theorem dX4_hold_15 : decode cX4_hold 15 = .ok (.getfield 19, 3) := by decide +kernel
theorem dX4_hold_18 : decode cX4_hold 18 = .ok (.aload_n 0, 1) := by decide +kernel
theorem dX4_hold_19 : decode cX4_hold 19 = .ok (.getfield 10, 3) := by decide +kernel
theorem dX4_hold_22 : decode cX4_hold 22 = .ok (.invokevirtual 61, 3) := by decide +kernel
theorem dX4_hold_25 : decode cX4_hold 25 = .ok (.aload_n 0, 1) := by decide +kernel
theorem dX4_hold_26 : decode cX4_hold 26 = .ok (.getfield 10, 3) := by decide +kernel
theorem dX4_hold_29 : decode cX4_hold 29 = .ok (.iload_n 1, 1) := by decide +kernel
theorem dX4_hold_30 : decode cX4_hold 30 = .ok (.iload_n 2, 1) := by decide +kernel
theorem dX4_hold_31 : decode cX4_hold 31 = .ok (.invokevirtual 132, 3) := by decide +kernel
theorem dX4_hold_34 : decode cX4_hold 34 = .ok (.istore 4, 2) := by decide +kernel
theorem dX4_hold_36 : decode cX4_hold 36 = .ok (.aload_n 0, 1) := by decide +kernel
theorem dX4_hold_37 : decode cX4_hold 37 = .ok (.getfield 10, 3) := by decide +kernel
theorem dX4_hold_40 : decode cX4_hold 40 = .ok (.iload_n 1, 1) := by decide +kernel
theorem dX4_hold_41 : decode cX4_hold 41 = .ok (.iload_n 2, 1) := by decide +kernel
theorem dX4_hold_42 : decode cX4_hold 42 = .ok (.iload_n 3, 1) := by decide +kernel
theorem dX4_hold_43 : decode cX4_hold 43 = .ok (.invokevirtual 135, 3) := by decide +kernel
theorem dX4_hold_46 : decode cX4_hold 46 = .ok (.aload_n 0, 1) := by decide +kernel
theorem dX4_hold_47 : decode cX4_hold 47 = .ok (.getfield 10, 3) := by decide +kernel
theorem dX4_hold_50 : decode cX4_hold 50 = .ok (.iload_n 1, 1) := by decide +kernel
theorem dX4_hold_51 : decode cX4_hold 51 = .ok (.iload_n 2, 1) := by decide +kernel
theorem dX4_hold_52 : decode cX4_hold 52 = .ok (.invokevirtual 132, 3) := by decide +kernel
theorem dX4_hold_55 : decode cX4_hold 55 = .ok (.iload 4, 2) := by decide +kernel
theorem dX4_hold_57 : decode cX4_hold 57 = .ok (.if_icmp .ne 7, 3) := by decide +kernel
theorem dX4_hold_60 : decode cX4_hold 60 = .ok (.iconst 0, 1) := by decide +kernel
theorem dX4_hold_61 : decode cX4_hold 61 = .ok (.goto 4, 3) := by decide +kernel
theorem dX4_hold_64 : decode cX4_hold 64 = .ok (.iconst 1, 1) := by decide +kernel
theorem dX4_hold_65 : decode cX4_hold 65 = .ok (.ireturn, 1) := by decide +kernel
set_option maxRecDepth 20000 in
theorem ggX4_letGo_X4_needPerson : GoodIn wsX4_letGo wsX4_needPerson := goodIn_ca (goodIn_r _ [8, 9, 10] (by decide +kernel) (by decide +kernel)) (goodIn_sub (fun _ h => List.mem_cons_of_mem _ (List.mem_append_right _ h)) (by decide +kernel))
set_option maxRecDepth 20000 in
theorem gX4_letGo_X4_needPerson : GoodIn wsX4_letGo (va_wsS RX4 129 yX4_needPerson wsX4_needPerson) := goodIn_app (goodIn_of _ (by decide +kernel)) ggX4_letGo_X4_needPerson
set_option maxRecDepth 20000 in
theorem ggX4_letGo_X4_needBread : GoodIn wsX4_letGo wsX4_needBread := goodIn_ca (goodIn_r _ [14, 9, 10, 3, 15, 16, 17, 18, 19, 20, 88, 89, 90, 91, 92, 93, 94, 95, 96, 97, 98, 99, 100, 101, 102, 103, 104, 105, 106] (by decide +kernel) (by decide +kernel)) (goodIn_sub (fun _ h => List.mem_cons_of_mem _ (List.mem_append_right _ h)) (by decide +kernel))
set_option maxRecDepth 20000 in
theorem gX4_letGo_X4_needBread : GoodIn wsX4_letGo (wsV RX4 69 RX4 yX4_needBread wsX4_needBread) := goodIn_app (goodIn_of _ (by decide +kernel)) ggX4_letGo_X4_needBread
set_option maxRecDepth 20000 in
theorem ggX4_letGo_X3_isHeld : GoodIn wsX4_letGo wsX3_isHeld := goodIn_r _ [24, 25, 26, 92, 93, 94, 95, 96, 97, 98, 99, 100, 101, 102, 103, 104, 105, 106] (by decide +kernel) (by decide +kernel)
set_option maxRecDepth 20000 in
theorem gX4_letGo_X3_isHeld : GoodIn wsX4_letGo (wsV RX4 139 RX3 yX3_isHeld wsX3_isHeld) := goodIn_app (goodIn_of _ (by decide +kernel)) ggX4_letGo_X3_isHeld
set_option maxRecDepth 20000 in
theorem ggX4_letGo_X1_save : GoodIn wsX4_letGo wsX1_save := goodIn_r _ [31, 32, 33, 34, 35, 36, 30, 37, 38, 39, 40, 41, 18, 42, 20, 43, 44, 45, 46, 47, 48, 49, 50, 51, 52, 53, 54, 55, 56, 25, 26, 57, 58, 107, 108, 109, 92, 93, 94, 95, 96, 97, 98, 99, 100, 101, 102, 103, 104, 105, 106] (by decide +kernel) (by decide +kernel)
set_option maxRecDepth 20000 in
theorem gX4_letGo_X1_save : GoodIn wsX4_letGo (wsV RX4 61 RX1 yX1_save wsX1_save) := goodIn_app (goodIn_of _ (by decide +kernel)) ggX4_letGo_X1_save
set_option maxRecDepth 20000 in
theorem ggX4_letGo_X3_isEating : GoodIn wsX4_letGo wsX3_isEating := goodIn_r _ [62, 63, 64, 65, 18, 66, 47, 55, 52, 67, 7, 68, 69, 70, 71, 72, 45, 26, 25, 46, 57, 73, 74, 75, 76, 77, 78, 79, 80, 81, 82, 83, 56, 53, 92, 93, 94, 95, 96, 97, 98, 99, 100, 101, 102, 103, 104, 105, 106] (by decide +kernel) (by decide +kernel)
set_option maxRecDepth 20000 in
theorem gX4_letGo_X3_isEating : GoodIn wsX4_letGo (wsV RX4 132 RX3 yX3_isEating wsX3_isEating) := goodIn_app (goodIn_of _ (by decide +kernel)) ggX4_letGo_X3_isEating
set_option maxRecDepth 20000 in
theorem ggX4_letGo_X3_dropHold : GoodIn wsX4_letGo wsX3_dropHold := goodIn_r _ [87, 25, 26, 92, 93, 94, 95, 96, 97, 98, 99, 100, 101, 102, 103, 104, 105, 106] (by decide +kernel) (by decide +kernel)
set_option maxRecDepth 20000 in
theorem gX4_letGo_X3_dropHold : GoodIn wsX4_letGo (wsV RX4 144 RX3 yX3_dropHold wsX3_dropHold) := goodIn_app (goodIn_of _ (by decide +kernel)) ggX4_letGo_X3_dropHold
theorem dX4_letGo_0 : decode cX4_letGo 0 = .ok (.iload_n 1, 1) := by decide +kernel
theorem dX4_letGo_1 : decode cX4_letGo 1 = .ok (.invokestatic 129, 3) := by decide +kernel
theorem dX4_letGo_4 : decode cX4_letGo 4 = .ok (.aload_n 0, 1) := by decide +kernel
theorem dX4_letGo_5 : decode cX4_letGo 5 = .ok (.iload_n 2, 1) := by decide +kernel
theorem dX4_letGo_6 : decode cX4_letGo 6 = .ok (.invokevirtual 69, 3) := by decide +kernel
theorem dX4_letGo_9 : decode cX4_letGo 9 = .ok (.aload_n 0, 1) := by decide +kernel
theorem dX4_letGo_10 : decode cX4_letGo 10 = .ok (.getfield 10, 3) := by decide +kernel
theorem dX4_letGo_13 : decode cX4_letGo 13 = .ok (.iload_n 1, 1) := by decide +kernel
theorem dX4_letGo_14 : decode cX4_letGo 14 = .ok (.iload_n 2, 1) := by decide +kernel
theorem dX4_letGo_15 : decode cX4_letGo 15 = .ok (.invokevirtual 139, 3) := by decide +kernel
theorem dX4_letGo_18 : decode cX4_letGo 18 = .ok (.ifCond .ne 13, 3) := by decide +kernel
theorem dX4_letGo_21 : decode cX4_letGo 21 = .ok (.new 56, 3) := by decide +kernel
theorem dX4_letGo_24 : decode cX4_letGo 24 = .ok (.dup, 1) := by decide +kernel
theorem dX4_letGo_25 : decode cX4_letGo 25 = .ok (.ldc 142, 2) := by decide +kernel
theorem dX4_letGo_27 : decode cX4_letGo 27 = .ok (.invokespecial 60, 3) := by decide +kernel
theorem dX4_letGo_30 : decode cX4_letGo 30 = .ok (.athrow, 1) := by decide +kernel
theorem dX4_letGo_31 : decode cX4_letGo 31 = .ok (.aload_n 0, 1) := by decide +kernel
theorem dX4_letGo_32 : decode cX4_letGo 32 = .ok (.getfield 19, 3) := by decide +kernel
theorem dX4_letGo_35 : decode cX4_letGo 35 = .ok (.aload_n 0, 1) := by decide +kernel
theorem dX4_letGo_36 : decode cX4_letGo 36 = .ok (.getfield 10, 3) := by decide +kernel
theorem dX4_letGo_39 : decode cX4_letGo 39 = .ok (.invokevirtual 61, 3) := by decide +kernel
theorem dX4_letGo_42 : decode cX4_letGo 42 = .ok (.aload_n 0, 1) := by decide +kernel
theorem dX4_letGo_43 : decode cX4_letGo 43 = .ok (.getfield 10, 3) := by decide +kernel
theorem dX4_letGo_46 : decode cX4_letGo 46 = .ok (.iload_n 1, 1) := by decide +kernel
theorem dX4_letGo_47 : decode cX4_letGo 47 = .ok (.iload_n 2, 1) := by decide +kernel
theorem dX4_letGo_48 : decode cX4_letGo 48 = .ok (.invokevirtual 132, 3) := by decide +kernel
theorem dX4_letGo_51 : decode cX4_letGo 51 = .ok (.istore_n 3, 1) := by decide +kernel
theorem dX4_letGo_52 : decode cX4_letGo 52 = .ok (.aload_n 0, 1) := by decide +kernel
theorem dX4_letGo_53 : decode cX4_letGo 53 = .ok (.getfield 10, 3) := by decide +kernel
theorem dX4_letGo_56 : decode cX4_letGo 56 = .ok (.iload_n 1, 1) := by decide +kernel
theorem dX4_letGo_57 : decode cX4_letGo 57 = .ok (.iload_n 2, 1) := by decide +kernel
theorem dX4_letGo_58 : decode cX4_letGo 58 = .ok (.invokevirtual 144, 3) := by decide +kernel
theorem dX4_letGo_61 : decode cX4_letGo 61 = .ok (.aload_n 0, 1) := by decide +kernel
theorem dX4_letGo_62 : decode cX4_letGo 62 = .ok (.getfield 10, 3) := by decide +kernel
theorem dX4_letGo_65 : decode cX4_letGo 65 = .ok (.iload_n 1, 1) := by decide +kernel
theorem dX4_letGo_66 : decode cX4_letGo 66 = .ok (.iload_n 2, 1) := by decide +kernel
theorem dX4_letGo_67 : decode cX4_letGo 67 = .ok (.invokevirtual 132, 3) := by decide +kernel
theorem dX4_letGo_70 : decode cX4_letGo 70 = .ok (.iload_n 3, 1) := by decide +kernel
theorem dX4_letGo_71 : decode cX4_letGo 71 = .ok (.if_icmp .ne 7, 3) := by decide +kernel
theorem dX4_letGo_74 : decode cX4_letGo 74 = .ok (.iconst 0, 1) := by decide +kernel
theorem dX4_letGo_75 : decode cX4_letGo 75 = .ok (.goto 4, 3) := by decide +kernel
theorem dX4_letGo_78 : decode cX4_letGo 78 = .ok (.iconst 1, 1) := by decide +kernel
theorem dX4_letGo_79 : decode cX4_letGo 79 = .ok (.ireturn, 1) := by decide +kernel
set_option maxRecDepth 20000 in
theorem ggX4_pass_X1_save : GoodIn wsX4_pass wsX1_save := goodIn_r _ [10, 11, 12, 13, 14, 15, 9, 16, 17, 18, 19, 20, 21, 22, 23, 24, 25, 26, 27, 28, 29, 30, 31, 32, 33, 34, 35, 36, 37, 38, 39, 40, 41, 98, 99, 100, 83, 84, 85, 86, 87, 88, 89, 90, 91, 92, 93, 94, 95, 96, 97] (by decide +kernel) (by decide +kernel)
set_option maxRecDepth 20000 in
theorem gX4_pass_X1_save : GoodIn wsX4_pass (wsV RX4 61 RX1 yX1_save wsX1_save) := goodIn_app (goodIn_of _ (by decide +kernel)) ggX4_pass_X1_save
set_option maxRecDepth 20000 in
theorem ggX4_pass_X3_letPass : GoodIn wsX4_pass wsX3_letPass := goodIn_r _ [45, 35, 40, 41, 25, 24, 46, 47, 48, 21, 49, 50, 51, 52, 53, 28, 36, 33, 54, 55, 56, 57, 58, 59, 60, 26, 39, 38, 27, 61, 62, 63, 64, 65, 66, 67, 68, 69, 70, 71, 37, 34, 72, 73, 74, 75, 76, 77, 78, 83, 84, 85, 86, 87, 88, 89, 90, 91, 92, 93, 94, 95, 96, 97] (by decide +kernel) (by decide +kernel)
set_option maxRecDepth 20000 in
theorem gX4_pass_X3_letPass : GoodIn wsX4_pass (wsV RX4 152 RX3 yX3_letPass wsX3_letPass) := goodIn_app (goodIn_of _ (by decide +kernel)) ggX4_pass_X3_letPass
theorem dX4_pass_0 : decode cX4_pass 0 = .ok (.iload_n 1, 1) := by decide +kernel
theorem dX4_pass_1 : decode cX4_pass 1 = .ok (.iconst 1, 1) := by decide +kernel
theorem dX4_pass_2 : decode cX4_pass 2 = .ok (.if_icmp .lt 9, 3) := by decide +kernel
theorem dX4_pass_5 : decode cX4_pass 5 = .ok (.iload_n 1, 1) := by decide +kernel
theorem dX4_pass_6 : decode cX4_pass 6 = .ok (.bipush 50, 2) := by decide +kernel
theorem dX4_pass_8 : decode cX4_pass 8 = .ok (.if_icmp .le 13, 3) := by decide +kernel
theorem dX4_pass_11 : decode cX4_pass 11 = .ok (.new 41, 3) := by decide +kernel
theorem dX4_pass_14 : decode cX4_pass 14 = .ok (.dup, 1) := by decide +kernel
theorem dX4_pass_15 : decode cX4_pass 15 = .ok (.ldc 147, 2) := by decide +kernel
theorem dX4_pass_17 : decode cX4_pass 17 = .ok (.invokespecial 45, 3) := by decide +kernel
theorem dX4_pass_20 : decode cX4_pass 20 = .ok (.athrow, 1) := by decide +kernel
theorem dX4_pass_21 : decode cX4_pass 21 = .ok (.aload_n 0, 1) := by decide +kernel
theorem dX4_pass_22 : decode cX4_pass 22 = .ok (.getfield 19, 3) := by decide +kernel
theorem dX4_pass_25 : decode cX4_pass 25 = .ok (.aload_n 0, 1) := by decide +kernel
theorem dX4_pass_26 : decode cX4_pass 26 = .ok (.getfield 10, 3) := by decide +kernel
theorem dX4_pass_29 : decode cX4_pass 29 = .ok (.invokevirtual 61, 3) := by decide +kernel
theorem dX4_pass_32 : decode cX4_pass 32 = .ok (.aload_n 0, 1) := by decide +kernel
theorem dX4_pass_33 : decode cX4_pass 33 = .ok (.getfield 10, 3) := by decide +kernel
theorem dX4_pass_36 : decode cX4_pass 36 = .ok (.getfield 149, 3) := by decide +kernel
theorem dX4_pass_39 : decode cX4_pass 39 = .ok (.istore_n 2, 1) := by decide +kernel
theorem dX4_pass_40 : decode cX4_pass 40 = .ok (.aload_n 0, 1) := by decide +kernel
theorem dX4_pass_41 : decode cX4_pass 41 = .ok (.getfield 10, 3) := by decide +kernel
theorem dX4_pass_44 : decode cX4_pass 44 = .ok (.iload_n 1, 1) := by decide +kernel
theorem dX4_pass_45 : decode cX4_pass 45 = .ok (.invokevirtual 152, 3) := by decide +kernel
theorem dX4_pass_48 : decode cX4_pass 48 = .ok (.aload_n 0, 1) := by decide +kernel
theorem dX4_pass_49 : decode cX4_pass 49 = .ok (.getfield 10, 3) := by decide +kernel
theorem dX4_pass_52 : decode cX4_pass 52 = .ok (.getfield 149, 3) := by decide +kernel
theorem dX4_pass_55 : decode cX4_pass 55 = .ok (.iload_n 2, 1) := by decide +kernel
theorem dX4_pass_56 : decode cX4_pass 56 = .ok (.isub, 1) := by decide +kernel
theorem dX4_pass_57 : decode cX4_pass 57 = .ok (.ireturn, 1) := by decide +kernel
set_option maxRecDepth 20000 in
theorem ggX4_append_X0_isFull : GoodIn wsX4_append wsX0_isFull := goodIn_r _ [11, 12, 22, 23, 24, 25, 26, 27, 28] (by decide +kernel) (by decide +kernel)
set_option maxRecDepth 20000 in
theorem gX4_append_X0_isFull : GoodIn wsX4_append (wsV RX4 157 RX0 yX0_isFull wsX0_isFull) := goodIn_app (goodIn_of _ (by decide +kernel)) ggX4_append_X0_isFull
set_option maxRecDepth 20000 in
theorem ggX4_append_X0_add : GoodIn wsX4_append wsX0_add := goodIn_r _ [16, 12, 17, 22, 23, 24, 25, 26, 27, 28] (by decide +kernel) (by decide +kernel)
set_option maxRecDepth 20000 in
theorem gX4_append_X0_add : GoodIn wsX4_append (wsV RX4 163 RX0 yX0_add wsX0_add) := goodIn_app (goodIn_of _ (by decide +kernel)) ggX4_append_X0_add
theorem dX4_append_0 : decode cX4_append 0 = .ok (.iload_n 1, 1) := by decide +kernel
theorem dX4_append_1 : decode cX4_append 1 = .ok (.bipush 33, 2) := by decide +kernel
theorem dX4_append_3 : decode cX4_append 3 = .ok (.if_icmp .lt 9, 3) := by decide +kernel
theorem dX4_append_6 : decode cX4_append 6 = .ok (.iload_n 1, 1) := by decide +kernel
theorem dX4_append_7 : decode cX4_append 7 = .ok (.bipush 126, 2) := by decide +kernel
theorem dX4_append_9 : decode cX4_append 9 = .ok (.if_icmp .le 13, 3) := by decide +kernel
theorem dX4_append_12 : decode cX4_append 12 = .ok (.new 41, 3) := by decide +kernel
theorem dX4_append_15 : decode cX4_append 15 = .ok (.dup, 1) := by decide +kernel
theorem dX4_append_16 : decode cX4_append 16 = .ok (.ldc 155, 2) := by decide +kernel
theorem dX4_append_18 : decode cX4_append 18 = .ok (.invokespecial 45, 3) := by decide +kernel
theorem dX4_append_21 : decode cX4_append 21 = .ok (.athrow, 1) := by decide +kernel
theorem dX4_append_22 : decode cX4_append 22 = .ok (.aload_n 0, 1) := by decide +kernel
theorem dX4_append_23 : decode cX4_append 23 = .ok (.getfield 33, 3) := by decide +kernel
theorem dX4_append_26 : decode cX4_append 26 = .ok (.invokevirtual 157, 3) := by decide +kernel
theorem dX4_append_29 : decode cX4_append 29 = .ok (.ifCond .eq 13, 3) := by decide +kernel
theorem dX4_append_32 : decode cX4_append 32 = .ok (.new 56, 3) := by decide +kernel
theorem dX4_append_35 : decode cX4_append 35 = .ok (.dup, 1) := by decide +kernel
theorem dX4_append_36 : decode cX4_append 36 = .ok (.ldc 161, 2) := by decide +kernel
theorem dX4_append_38 : decode cX4_append 38 = .ok (.invokespecial 60, 3) := by decide +kernel
theorem dX4_append_41 : decode cX4_append 41 = .ok (.athrow, 1) := by decide +kernel
theorem dX4_append_42 : decode cX4_append 42 = .ok (.aload_n 0, 1) := by decide +kernel
theorem dX4_append_43 : decode cX4_append 43 = .ok (.getfield 33, 3) := by decide +kernel
theorem dX4_append_46 : decode cX4_append 46 = .ok (.iload_n 1, 1) := by decide +kernel
theorem dX4_append_47 : decode cX4_append 47 = .ok (.invokevirtual 163, 3) := by decide +kernel
theorem dX4_append_50 : decode cX4_append 50 = .ok (.aload_n 0, 1) := by decide +kernel
theorem dX4_append_51 : decode cX4_append 51 = .ok (.getfield 33, 3) := by decide +kernel
theorem dX4_append_54 : decode cX4_append 54 = .ok (.getfield 166, 3) := by decide +kernel
theorem dX4_append_57 : decode cX4_append 57 = .ok (.ireturn, 1) := by decide +kernel
theorem dX4_clearBuffer_0 : decode cX4_clearBuffer 0 = .ok (.aload_n 0, 1) := by decide +kernel
theorem dX4_clearBuffer_1 : decode cX4_clearBuffer 1 = .ok (.getfield 33, 3) := by decide +kernel
theorem dX4_clearBuffer_4 : decode cX4_clearBuffer 4 = .ok (.getfield 166, 3) := by decide +kernel
theorem dX4_clearBuffer_7 : decode cX4_clearBuffer 7 = .ok (.istore_n 1, 1) := by decide +kernel
theorem dX4_clearBuffer_8 : decode cX4_clearBuffer 8 = .ok (.aload_n 0, 1) := by decide +kernel
theorem dX4_clearBuffer_9 : decode cX4_clearBuffer 9 = .ok (.getfield 33, 3) := by decide +kernel
theorem dX4_clearBuffer_12 : decode cX4_clearBuffer 12 = .ok (.iconst 0, 1) := by decide +kernel
theorem dX4_clearBuffer_13 : decode cX4_clearBuffer 13 = .ok (.putfield 166, 3) := by decide +kernel
theorem dX4_clearBuffer_16 : decode cX4_clearBuffer 16 = .ok (.iload_n 1, 1) := by decide +kernel
theorem dX4_clearBuffer_17 : decode cX4_clearBuffer 17 = .ok (.ireturn, 1) := by decide +kernel
set_option maxRecDepth 20000 in
theorem ggX4_firstError_X0_errorIndex : GoodIn wsX4_firstError wsX0_errorIndex := goodIn_r _ [6, 7, 8, 9, 10, 11, 5, 12, 13, 14, 15, 16, 17, 18, 19, 20, 21, 22, 23, 24, 25, 26, 27, 28, 29, 30, 31, 32, 33, 34, 35, 36, 37, 38, 39, 40, 41, 42, 43, 44, 45, 46, 47, 48, 49, 50, 51, 52, 53, 54, 55, 56, 61, 62, 63, 64, 65, 66, 67] (by decide +kernel) (by decide +kernel)
set_option maxRecDepth 20000 in
theorem gX4_firstError_X0_errorIndex : GoodIn wsX4_firstError (wsV RX4 169 RX0 yX0_errorIndex wsX0_errorIndex) := goodIn_app (goodIn_of _ (by decide +kernel)) ggX4_firstError_X0_errorIndex
theorem dX4_firstError_0 : decode cX4_firstError 0 = .ok (.aload_n 0, 1) := by decide +kernel
theorem dX4_firstError_1 : decode cX4_firstError 1 = .ok (.getfield 33, 3) := by decide +kernel
theorem dX4_firstError_4 : decode cX4_firstError 4 = .ok (.invokevirtual 169, 3) := by decide +kernel
theorem dX4_firstError_7 : decode cX4_firstError 7 = .ok (.ireturn, 1) := by decide +kernel
set_option maxRecDepth 20000 in
theorem ggX4_run_X0_isComplete : GoodIn wsX4_run wsX0_isComplete := goodIn_r _ [11, 12, 13, 14, 15, 16, 10, 17, 18, 19, 20, 21, 22, 23, 24, 25, 26, 27, 28, 29, 30, 31, 32, 33, 34, 35, 36, 37, 38, 39, 40, 41, 42, 43, 44, 45, 46, 47, 48, 49, 50, 51, 52, 53, 54, 55, 56, 57, 58, 59, 60, 61, 62, 63, 64, 65, 223, 224, 225, 226, 227, 228, 229] (by decide +kernel) (by decide +kernel)
set_option maxRecDepth 20000 in
theorem gX4_run_X0_isComplete : GoodIn wsX4_run (wsV RX4 173 RX0 yX0_isComplete wsX0_isComplete) := goodIn_app (goodIn_of _ (by decide +kernel)) ggX4_run_X0_isComplete
set_option maxRecDepth 20000 in
theorem ggX4_run_X1_save : GoodIn wsX4_run wsX1_save := goodIn_r _ [70, 71, 72, 73, 74, 75, 69, 76, 77, 78, 79, 80, 81, 82, 83, 84, 85, 86, 87, 88, 89, 90, 91, 92, 93, 94, 95, 96, 97, 98, 99, 100, 101, 230, 231, 232, 233, 234, 235, 236, 237, 238, 239, 240, 241, 242, 243, 244, 245, 246, 247] (by decide +kernel) (by decide +kernel)
set_option maxRecDepth 20000 in
theorem gX4_run_X1_save : GoodIn wsX4_run (wsV RX4 61 RX1 yX1_save wsX1_save) := goodIn_app (goodIn_of _ (by decide +kernel)) ggX4_run_X1_save
set_option maxRecDepth 20000 in
theorem ggX4_run_X4_carryOutAll : GoodIn wsX4_run wsX4_carryOutAll := goodIn_r _ [106, 3, 107, 20, 21, 10, 22, 23, 13, 108, 109, 110, 111, 12, 18, 24, 25, 26, 27, 28, 29, 30, 31, 32, 33, 34, 35, 36, 37, 38, 39, 40, 41, 42, 43, 44, 45, 46, 47, 48, 49, 50, 51, 52, 53, 54, 55, 56, 57, 58, 59, 60, 61, 62, 63, 64, 65, 112, 113, 114, 105, 115, 116, 5, 117, 118, 119, 120, 121, 81, 122, 123, 124, 125, 126, 94, 88, 127, 128, 129, 130, 86, 131, 132, 133, 134, 83, 135, 136, 137, 138, 139, 140, 97, 141, 142, 143, 144, 145, 146, 147, 148, 149, 150, 151, 152, 153, 154, 155, 156, 157, 158, 159, 160, 161, 162, 163, 164, 165, 166, 167, 168, 169, 170, 171, 172, 98, 99, 173, 174, 175, 176, 177, 178, 179, 180, 181, 182, 183, 184, 185, 186, 187, 188, 95, 100, 101, 85, 84, 189, 190, 191, 192, 193, 194, 195, 196, 96, 93, 197, 198, 199, 200, 87, 201, 202, 203, 204, 205, 206, 207, 208, 209, 210, 211, 212, 213, 214, 215, 216, 217, 218, 219, 220, 221, 222, 223, 224, 225, 226, 227, 228, 229, 233, 234, 235, 236, 237, 238, 239, 240, 241, 242, 243, 244, 245, 246, 247] (by decide +kernel) (by decide +kernel)
set_option maxRecDepth 20000 in
theorem gX4_run_X4_carryOutAll : GoodIn wsX4_run (wsV RX4 178 RX4 yX4_carryOutAll wsX4_carryOutAll) := goodIn_app (goodIn_of _ (by decide +kernel)) ggX4_run_X4_carryOutAll
theorem dX4_run_0 : decode cX4_run 0 = .ok (.aload_n 0, 1) := by decide +kernel
theorem dX4_run_1 : decode cX4_run 1 = .ok (.getfield 33, 3) := by decide +kernel
theorem dX4_run_4 : decode cX4_run 4 = .ok (.invokevirtual 173, 3) := by decide +kernel
theorem dX4_run_7 : decode cX4_run 7 = .ok (.ifCond .ne 13, 3) := by decide +kernel
theorem dX4_run_10 : decode cX4_run 10 = .ok (.new 41, 3) := by decide +kernel
theorem dX4_run_13 : decode cX4_run 13 = .ok (.dup, 1) := by decide +kernel
theorem dX4_run_14 : decode cX4_run 14 = .ok (.ldc 176, 2) := by decide +kernel
theorem dX4_run_16 : decode cX4_run 16 = .ok (.invokespecial 45, 3) := by decide +kernel
theorem dX4_run_19 : decode cX4_run 19 = .ok (.athrow, 1) := by decide +kernel
theorem dX4_run_20 : decode cX4_run 20 = .ok (.aload_n 0, 1) := by decide +kernel
theorem dX4_run_21 : decode cX4_run 21 = .ok (.getfield 19, 3) := by decide +kernel
theorem dX4_run_24 : decode cX4_run 24 = .ok (.aload_n 0, 1) := by decide +kernel
theorem dX4_run_25 : decode cX4_run 25 = .ok (.getfield 10, 3) := by decide +kernel
theorem dX4_run_28 : decode cX4_run 28 = .ok (.invokevirtual 61, 3) := by decide +kernel
theorem dX4_run_31 : decode cX4_run 31 = .ok (.aload_n 0, 1) := by decide +kernel
theorem dX4_run_32 : decode cX4_run 32 = .ok (.invokevirtual 178, 3) := by decide +kernel
theorem dX4_run_35 : decode cX4_run 35 = .ok (.istore_n 1, 1) := by decide +kernel
theorem dX4_run_36 : decode cX4_run 36 = .ok (.aload_n 0, 1) := by decide +kernel
theorem dX4_run_37 : decode cX4_run 37 = .ok (.getfield 33, 3) := by decide +kernel
theorem dX4_run_40 : decode cX4_run 40 = .ok (.iconst 0, 1) := by decide +kernel
theorem dX4_run_41 : decode cX4_run 41 = .ok (.putfield 166, 3) := by decide +kernel
theorem dX4_run_44 : decode cX4_run 44 = .ok (.iload_n 1, 1) := by decide +kernel
theorem dX4_run_45 : decode cX4_run 45 = .ok (.ireturn, 1) := by decide +kernel
set_option maxRecDepth 20000 in
theorem ggX4_undo_X1_restore : GoodIn wsX4_undo wsX1_restore := goodIn_r _ [10, 11, 12, 13, 14, 9, 15, 16, 17, 18, 19, 20, 21, 22, 23, 24, 25, 26, 27, 28, 29, 30, 31, 32, 33, 34, 35, 36, 37, 38, 39, 40, 41, 46, 47, 48, 49, 50, 51, 52, 53, 54, 55, 56, 57, 58, 59, 60, 61, 62, 63] (by decide +kernel) (by decide +kernel)
set_option maxRecDepth 20000 in
theorem gX4_undo_X1_restore : GoodIn wsX4_undo (wsV RX4 186 RX1 yX1_restore wsX1_restore) := goodIn_app (goodIn_of _ (by decide +kernel)) ggX4_undo_X1_restore
theorem dX4_undo_0 : decode cX4_undo 0 = .ok (.aload_n 0, 1) := by decide +kernel
theorem dX4_undo_1 : decode cX4_undo 1 = .ok (.getfield 19, 3) := by decide +kernel
theorem dX4_undo_4 : decode cX4_undo 4 = .ok (.getfield 181, 3) := by decide +kernel
theorem dX4_undo_7 : decode cX4_undo 7 = .ok (.ifCond .ne 13, 3) := by decide +kernel
theorem dX4_undo_10 : decode cX4_undo 10 = .ok (.new 56, 3) := by decide +kernel
theorem dX4_undo_13 : decode cX4_undo 13 = .ok (.dup, 1) := by decide +kernel
theorem dX4_undo_14 : decode cX4_undo 14 = .ok (.ldc 184, 2) := by decide +kernel
theorem dX4_undo_16 : decode cX4_undo 16 = .ok (.invokespecial 60, 3) := by decide +kernel
theorem dX4_undo_19 : decode cX4_undo 19 = .ok (.athrow, 1) := by decide +kernel
theorem dX4_undo_20 : decode cX4_undo 20 = .ok (.aload_n 0, 1) := by decide +kernel
theorem dX4_undo_21 : decode cX4_undo 21 = .ok (.getfield 19, 3) := by decide +kernel
theorem dX4_undo_24 : decode cX4_undo 24 = .ok (.aload_n 0, 1) := by decide +kernel
theorem dX4_undo_25 : decode cX4_undo 25 = .ok (.getfield 10, 3) := by decide +kernel
theorem dX4_undo_28 : decode cX4_undo 28 = .ok (.invokevirtual 186, 3) := by decide +kernel
theorem dX4_undo_31 : decode cX4_undo 31 = .ok (.aload_n 0, 1) := by decide +kernel
theorem dX4_undo_32 : decode cX4_undo 32 = .ok (.getfield 19, 3) := by decide +kernel
theorem dX4_undo_35 : decode cX4_undo 35 = .ok (.getfield 181, 3) := by decide +kernel
theorem dX4_undo_38 : decode cX4_undo 38 = .ok (.ireturn, 1) := by decide +kernel
set_option maxRecDepth 20000 in
theorem ggX4_eats_X4_needPerson : GoodIn wsX4_eats wsX4_needPerson := goodIn_ca (goodIn_r _ [5, 6, 7] (by decide +kernel) (by decide +kernel)) (goodIn_sub (fun _ h => List.mem_cons_of_mem _ (List.mem_append_right _ h)) (by decide +kernel))
set_option maxRecDepth 20000 in
theorem gX4_eats_X4_needPerson : GoodIn wsX4_eats (va_wsS RX4 129 yX4_needPerson wsX4_needPerson) := goodIn_app (goodIn_of _ (by decide +kernel)) ggX4_eats_X4_needPerson
set_option maxRecDepth 20000 in
theorem ggX4_eats_X4_needBread : GoodIn wsX4_eats wsX4_needBread := goodIn_ca (goodIn_r _ [11, 6, 7, 1, 12, 13, 14, 15, 16, 17, 49, 50, 51, 52, 53, 54, 55, 56, 57, 58, 59, 60, 61, 62, 63, 64, 65, 66, 67] (by decide +kernel) (by decide +kernel)) (goodIn_sub (fun _ h => List.mem_cons_of_mem _ (List.mem_append_right _ h)) (by decide +kernel))
set_option maxRecDepth 20000 in
theorem gX4_eats_X4_needBread : GoodIn wsX4_eats (wsV RX4 69 RX4 yX4_needBread wsX4_needBread) := goodIn_app (goodIn_of _ (by decide +kernel)) ggX4_eats_X4_needBread
set_option maxRecDepth 20000 in
theorem ggX4_eats_X3_saltOf : GoodIn wsX4_eats wsX3_saltOf := goodIn_r _ [21, 22, 23, 24, 25, 4, 26, 53, 54, 55, 56, 57, 58, 59, 60, 61, 62, 63, 64, 65, 66, 67] (by decide +kernel) (by decide +kernel)
set_option maxRecDepth 20000 in
theorem gX4_eats_X3_saltOf : GoodIn wsX4_eats (wsV RX4 189 RX3 yX3_saltOf wsX3_saltOf) := goodIn_app (goodIn_of _ (by decide +kernel)) ggX4_eats_X3_saltOf
set_option maxRecDepth 20000 in
theorem ggX4_eats_X3_reasonBy : GoodIn wsX4_eats wsX3_reasonBy := goodIn_r _ [30, 31, 32, 33, 34, 35, 36, 4, 37, 38, 39, 40, 41, 42, 43, 44, 45, 15, 46, 22, 47, 48, 53, 54, 55, 56, 57, 58, 59, 60, 61, 62, 63, 64, 65, 66, 67] (by decide +kernel) (by decide +kernel)
set_option maxRecDepth 20000 in
theorem gX4_eats_X3_reasonBy : GoodIn wsX4_eats (wsV RX4 192 RX3 yX3_reasonBy wsX3_reasonBy) := goodIn_app (goodIn_of _ (by decide +kernel)) ggX4_eats_X3_reasonBy
theorem dX4_eats_0 : decode cX4_eats 0 = .ok (.iload_n 1, 1) := by decide +kernel
theorem dX4_eats_1 : decode cX4_eats 1 = .ok (.invokestatic 129, 3) := by decide +kernel
theorem dX4_eats_4 : decode cX4_eats 4 = .ok (.aload_n 0, 1) := by decide +kernel
theorem dX4_eats_5 : decode cX4_eats 5 = .ok (.iload_n 2, 1) := by decide +kernel
theorem dX4_eats_6 : decode cX4_eats 6 = .ok (.invokevirtual 69, 3) := by decide +kernel
theorem dX4_eats_9 : decode cX4_eats 9 = .ok (.aload_n 0, 1) := by decide +kernel
theorem dX4_eats_10 : decode cX4_eats 10 = .ok (.getfield 10, 3) := by decide +kernel
theorem dX4_eats_13 : decode cX4_eats 13 = .ok (.iload_n 1, 1) := by decide +kernel
theorem dX4_eats_14 : decode cX4_eats 14 = .ok (.iload_n 2, 1) := by decide +kernel
theorem dX4_eats_15 : decode cX4_eats 15 = .ok (.aload_n 0, 1) := by decide +kernel
theorem dX4_eats_16 : decode cX4_eats 16 = .ok (.getfield 10, 3) := by decide +kernel
theorem dX4_eats_19 : decode cX4_eats 19 = .ok (.iload_n 2, 1) := by decide +kernel
theorem dX4_eats_20 : decode cX4_eats 20 = .ok (.invokevirtual 189, 3) := by decide +kernel
theorem dX4_eats_23 : decode cX4_eats 23 = .ok (.invokevirtual 192, 3) := by decide +kernel
theorem dX4_eats_26 : decode cX4_eats 26 = .ok (.ireturn, 1) := by decide +kernel
set_option maxRecDepth 20000 in
theorem ggX4_bucket_X4_needPerson : GoodIn wsX4_bucket wsX4_needPerson := goodIn_ca (goodIn_r _ [5, 6, 7] (by decide +kernel) (by decide +kernel)) (goodIn_sub (fun _ h => List.mem_cons_of_mem _ (List.mem_append_right _ h)) (by decide +kernel))
set_option maxRecDepth 20000 in
theorem gX4_bucket_X4_needPerson : GoodIn wsX4_bucket (va_wsS RX4 129 yX4_needPerson wsX4_needPerson) := goodIn_app (goodIn_of _ (by decide +kernel)) ggX4_bucket_X4_needPerson
set_option maxRecDepth 20000 in
theorem ggX4_bucket_X4_needBread : GoodIn wsX4_bucket wsX4_needBread := goodIn_ca (goodIn_r _ [11, 6, 7, 1, 12, 13, 14, 15, 16, 17, 35, 36, 37, 38, 39, 40, 41, 42, 43, 44, 45, 46, 47, 48, 49, 50, 51, 52, 53] (by decide +kernel) (by decide +kernel)) (goodIn_sub (fun _ h => List.mem_cons_of_mem _ (List.mem_append_right _ h)) (by decide +kernel))
set_option maxRecDepth 20000 in
theorem gX4_bucket_X4_needBread : GoodIn wsX4_bucket (wsV RX4 69 RX4 yX4_needBread wsX4_needBread) := goodIn_app (goodIn_of _ (by decide +kernel)) ggX4_bucket_X4_needBread
set_option maxRecDepth 20000 in
theorem ggX4_bucket_X3_saltOf : GoodIn wsX4_bucket wsX3_saltOf := goodIn_r _ [21, 22, 23, 24, 25, 4, 26, 39, 40, 41, 42, 43, 44, 45, 46, 47, 48, 49, 50, 51, 52, 53] (by decide +kernel) (by decide +kernel)
set_option maxRecDepth 20000 in
theorem gX4_bucket_X3_saltOf : GoodIn wsX4_bucket (wsV RX4 189 RX3 yX3_saltOf wsX3_saltOf) := goodIn_app (goodIn_of _ (by decide +kernel)) ggX4_bucket_X3_saltOf
set_option maxRecDepth 20000 in
theorem ggX4_bucket_X4_bucketBy : GoodIn wsX4_bucket wsX4_bucketBy := goodIn_r _ [29, 30, 31, 32, 33, 34] (by decide +kernel) (by decide +kernel)
set_option maxRecDepth 20000 in
theorem gX4_bucket_X4_bucketBy : GoodIn wsX4_bucket (va_wsS RX4 196 yX4_bucketBy wsX4_bucketBy) := goodIn_app (goodIn_of _ (by decide +kernel)) ggX4_bucket_X4_bucketBy
theorem dX4_bucket_0 : decode cX4_bucket 0 = .ok (.iload_n 1, 1) := by decide +kernel
theorem dX4_bucket_1 : decode cX4_bucket 1 = .ok (.invokestatic 129, 3) := by decide +kernel
theorem dX4_bucket_4 : decode cX4_bucket 4 = .ok (.aload_n 0, 1) := by decide +kernel
theorem dX4_bucket_5 : decode cX4_bucket 5 = .ok (.iload_n 2, 1) := by decide +kernel
theorem dX4_bucket_6 : decode cX4_bucket 6 = .ok (.invokevirtual 69, 3) := by decide +kernel
theorem dX4_bucket_9 : decode cX4_bucket 9 = .ok (.iload_n 1, 1) := by decide +kernel
theorem dX4_bucket_10 : decode cX4_bucket 10 = .ok (.aload_n 0, 1) := by decide +kernel
theorem dX4_bucket_11 : decode cX4_bucket 11 = .ok (.getfield 10, 3) := by decide +kernel
theorem dX4_bucket_14 : decode cX4_bucket 14 = .ok (.iload_n 2, 1) := by decide +kernel
theorem dX4_bucket_15 : decode cX4_bucket 15 = .ok (.invokevirtual 189, 3) := by decide +kernel
theorem dX4_bucket_18 : decode cX4_bucket 18 = .ok (.invokestatic 196, 3) := by decide +kernel
theorem dX4_bucket_21 : decode cX4_bucket 21 = .ok (.ireturn, 1) := by decide +kernel
set_option maxRecDepth 20000 in
theorem ggX4_bread_X4_needBread : GoodIn wsX4_bread wsX4_needBread := goodIn_ca (goodIn_r _ [8, 9, 10, 3, 11, 12, 13, 14, 15, 16, 73, 74, 75, 76, 77, 78, 79, 80, 81, 82, 83, 84, 85, 86, 87, 88, 89, 90, 91] (by decide +kernel) (by decide +kernel)) (goodIn_sub (fun _ h => List.mem_cons_of_mem _ (List.mem_append_right _ h)) (by decide +kernel))
set_option maxRecDepth 20000 in
theorem gX4_bread_X4_needBread : GoodIn wsX4_bread (wsV RX4 69 RX4 yX4_needBread wsX4_needBread) := goodIn_app (goodIn_of _ (by decide +kernel)) ggX4_bread_X4_needBread
set_option maxRecDepth 20000 in
theorem ggX4_bread_X3_breadProperty : GoodIn wsX4_bread wsX3_breadProperty := goodIn_r _ [20, 21, 22, 23, 24, 25, 26, 27, 28, 29, 30, 31, 14, 32, 33, 34, 35, 7, 36, 37, 38, 39, 40, 41, 42, 43, 44, 45, 46, 47, 48, 49, 50, 51, 52, 53, 54, 55, 56, 57, 58, 59, 60, 61, 62, 63, 64, 65, 66, 67, 68, 69, 70, 71, 72, 77, 78, 79, 80, 81, 82, 83, 84, 85, 86, 87, 88, 89, 90, 91] (by decide +kernel) (by decide +kernel)
set_option maxRecDepth 20000 in
theorem gX4_bread_X3_breadProperty : GoodIn wsX4_bread (wsV RX4 201 RX3 yX3_breadProperty wsX3_breadProperty) := goodIn_app (goodIn_of _ (by decide +kernel)) ggX4_bread_X3_breadProperty
theorem dX4_bread_0 : decode cX4_bread 0 = .ok (.aload_n 0, 1) := by decide +kernel
theorem dX4_bread_1 : decode cX4_bread 1 = .ok (.iload_n 1, 1) := by decide +kernel
theorem dX4_bread_2 : decode cX4_bread 2 = .ok (.invokevirtual 69, 3) := by decide +kernel
theorem dX4_bread_5 : decode cX4_bread 5 = .ok (.iload_n 2, 1) := by decide +kernel
theorem dX4_bread_6 : decode cX4_bread 6 = .ok (.ifCond .lt 9, 3) := by decide +kernel
theorem dX4_bread_9 : decode cX4_bread 9 = .ok (.iload_n 2, 1) := by decide +kernel
theorem dX4_bread_10 : decode cX4_bread 10 = .ok (.bipush 11, 2) := by decide +kernel
theorem dX4_bread_12 : decode cX4_bread 12 = .ok (.if_icmp .le 13, 3) := by decide +kernel
theorem dX4_bread_15 : decode cX4_bread 15 = .ok (.new 41, 3) := by decide +kernel
theorem dX4_bread_18 : decode cX4_bread 18 = .ok (.dup, 1) := by decide +kernel
theorem dX4_bread_19 : decode cX4_bread 19 = .ok (.ldc 199, 2) := by decide +kernel
theorem dX4_bread_21 : decode cX4_bread 21 = .ok (.invokespecial 45, 3) := by decide +kernel
theorem dX4_bread_24 : decode cX4_bread 24 = .ok (.athrow, 1) := by decide +kernel
theorem dX4_bread_25 : decode cX4_bread 25 = .ok (.aload_n 0, 1) := by decide +kernel
theorem dX4_bread_26 : decode cX4_bread 26 = .ok (.getfield 10, 3) := by decide +kernel
theorem dX4_bread_29 : decode cX4_bread 29 = .ok (.iload_n 1, 1) := by decide +kernel
theorem dX4_bread_30 : decode cX4_bread 30 = .ok (.iload_n 2, 1) := by decide +kernel
theorem dX4_bread_31 : decode cX4_bread 31 = .ok (.invokevirtual 201, 3) := by decide +kernel
theorem dX4_bread_34 : decode cX4_bread 34 = .ok (.ireturn, 1) := by decide +kernel
set_option maxRecDepth 20000 in
theorem ggX4_person_X4_needPerson : GoodIn wsX4_person wsX4_needPerson := goodIn_ca (goodIn_r _ [7, 8, 9] (by decide +kernel) (by decide +kernel)) (goodIn_sub (fun _ h => List.mem_cons_of_mem _ (List.mem_append_right _ h)) (by decide +kernel))
set_option maxRecDepth 20000 in
theorem gX4_person_X4_needPerson : GoodIn wsX4_person (va_wsS RX4 129 yX4_needPerson wsX4_needPerson) := goodIn_app (goodIn_of _ (by decide +kernel)) ggX4_person_X4_needPerson
set_option maxRecDepth 20000 in
theorem ggX4_person_X3_personProperty : GoodIn wsX4_person wsX3_personProperty := goodIn_r _ [14, 15, 16, 17, 18, 19, 20, 21, 13, 22, 23, 24, 25, 26, 27, 28, 29, 30, 6, 31, 32, 33, 34, 35, 36, 37, 38, 39, 40, 41, 42, 43, 44, 45, 46, 47, 48, 49, 50, 55, 56, 57, 58, 59, 60, 61, 62, 63, 64, 65, 66, 67, 68, 69] (by decide +kernel) (by decide +kernel)
set_option maxRecDepth 20000 in
theorem gX4_person_X3_personProperty : GoodIn wsX4_person (wsV RX4 206 RX3 yX3_personProperty wsX3_personProperty) := goodIn_app (goodIn_of _ (by decide +kernel)) ggX4_person_X3_personProperty
theorem dX4_person_0 : decode cX4_person 0 = .ok (.iload_n 1, 1) := by decide +kernel
theorem dX4_person_1 : decode cX4_person 1 = .ok (.invokestatic 129, 3) := by decide +kernel
theorem dX4_person_4 : decode cX4_person 4 = .ok (.iload_n 2, 1) := by decide +kernel
theorem dX4_person_5 : decode cX4_person 5 = .ok (.ifCond .lt 8, 3) := by decide +kernel
theorem dX4_person_8 : decode cX4_person 8 = .ok (.iload_n 2, 1) := by decide +kernel
theorem dX4_person_9 : decode cX4_person 9 = .ok (.iconst 4, 1) := by decide +kernel
theorem dX4_person_10 : decode cX4_person 10 = .ok (.if_icmp .le 13, 3) := by decide +kernel
theorem dX4_person_13 : decode cX4_person 13 = .ok (.new 41, 3) := by decide +kernel
theorem dX4_person_16 : decode cX4_person 16 = .ok (.dup, 1) := by decide +kernel
theorem dX4_person_17 : decode cX4_person 17 = .ok (.ldc 204, 2) := by decide +kernel
theorem dX4_person_19 : decode cX4_person 19 = .ok (.invokespecial 45, 3) := by decide +kernel
theorem dX4_person_22 : decode cX4_person 22 = .ok (.athrow, 1) := by decide +kernel
theorem dX4_person_23 : decode cX4_person 23 = .ok (.aload_n 0, 1) := by decide +kernel
theorem dX4_person_24 : decode cX4_person 24 = .ok (.getfield 10, 3) := by decide +kernel
theorem dX4_person_27 : decode cX4_person 27 = .ok (.iload_n 1, 1) := by decide +kernel
theorem dX4_person_28 : decode cX4_person 28 = .ok (.iload_n 2, 1) := by decide +kernel
theorem dX4_person_29 : decode cX4_person 29 = .ok (.invokevirtual 206, 3) := by decide +kernel
theorem dX4_person_32 : decode cX4_person 32 = .ok (.ireturn, 1) := by decide +kernel
set_option maxRecDepth 20000 in
theorem ggX4_owner_X4_needGroup : GoodIn wsX4_owner wsX4_needGroup := goodIn_ca (goodIn_r _ [8, 1, 2, 9, 10, 7, 11] (by decide +kernel) (by decide +kernel)) (goodIn_sub (fun _ h => List.mem_cons_of_mem _ (List.mem_append_right _ h)) (by decide +kernel))
set_option maxRecDepth 20000 in
theorem gX4_owner_X4_needGroup : GoodIn wsX4_owner (va_wsS RX4 123 yX4_needGroup wsX4_needGroup) := goodIn_app (goodIn_of _ (by decide +kernel)) ggX4_owner_X4_needGroup
theorem dX4_owner_0 : decode cX4_owner 0 = .ok (.iload_n 1, 1) := by decide +kernel
theorem dX4_owner_1 : decode cX4_owner 1 = .ok (.invokestatic 123, 3) := by decide +kernel
theorem dX4_owner_4 : decode cX4_owner 4 = .ok (.iload_n 2, 1) := by decide +kernel
theorem dX4_owner_5 : decode cX4_owner 5 = .ok (.ifCond .lt 9, 3) := by decide +kernel
theorem dX4_owner_8 : decode cX4_owner 8 = .ok (.iload_n 2, 1) := by decide +kernel
theorem dX4_owner_9 : decode cX4_owner 9 = .ok (.bipush 100, 2) := by decide +kernel
theorem dX4_owner_11 : decode cX4_owner 11 = .ok (.if_icmp .lt 13, 3) := by decide +kernel
theorem dX4_owner_14 : decode cX4_owner 14 = .ok (.new 209, 3) := by decide +kernel
theorem dX4_owner_17 : decode cX4_owner 17 = .ok (.dup, 1) := by decide +kernel
theorem dX4_owner_18 : decode cX4_owner 18 = .ok (.ldc 211, 2) := by decide +kernel
theorem dX4_owner_20 : decode cX4_owner 20 = .ok (.invokespecial 213, 3) := by decide +kernel
theorem dX4_owner_23 : decode cX4_owner 23 = .ok (.athrow, 1) := by decide +kernel
theorem dX4_owner_24 : decode cX4_owner 24 = .ok (.aload_n 0, 1) := by decide +kernel
theorem dX4_owner_25 : decode cX4_owner 25 = .ok (.getfield 10, 3) := by decide +kernel
theorem dX4_owner_28 : decode cX4_owner 28 = .ok (.getfield 214, 3) := by decide +kernel
theorem dX4_owner_31 : decode cX4_owner 31 = .ok (.iload_n 1, 1) := by decide +kernel
theorem dX4_owner_32 : decode cX4_owner 32 = .ok (.bipush 100, 2) := by decide +kernel
theorem dX4_owner_34 : decode cX4_owner 34 = .ok (.imul, 1) := by decide +kernel
theorem dX4_owner_35 : decode cX4_owner 35 = .ok (.iload_n 2, 1) := by decide +kernel
theorem dX4_owner_36 : decode cX4_owner 36 = .ok (.iadd, 1) := by decide +kernel
theorem dX4_owner_37 : decode cX4_owner 37 = .ok (.iaload, 1) := by decide +kernel
theorem dX4_owner_38 : decode cX4_owner 38 = .ok (.ireturn, 1) := by decide +kernel
set_option maxRecDepth 20000 in
theorem ggX4_count_X4_isCounted : GoodIn wsX4_count wsX4_isCounted := goodIn_r _ [6] (by decide +kernel) (by decide +kernel)
set_option maxRecDepth 20000 in
theorem gX4_count_X4_isCounted : GoodIn wsX4_count (va_wsS RX4 217 yX4_isCounted wsX4_isCounted) := goodIn_app (goodIn_of _ (by decide +kernel)) ggX4_count_X4_isCounted
set_option maxRecDepth 20000 in
theorem ggX4_count_X4_numberOf : GoodIn wsX4_count wsX4_numberOf := goodIn_r _ [10, 11, 12, 13, 14, 15, 16, 5, 17, 18, 19, 20, 21, 22, 23, 24, 25, 26, 27, 28, 29, 30, 31, 32, 33, 34, 35, 36, 37, 38, 39, 40, 41, 42, 43, 44, 45, 46, 47, 48, 49, 50, 51, 52, 53, 54, 55, 56, 57, 58, 59, 60, 61, 62, 63, 64, 65, 66, 67, 68, 69, 70, 71, 72, 73, 74, 75, 76, 77, 78, 79, 80, 81, 82, 83, 84, 85, 86, 87, 88, 89, 90, 91, 92, 93, 94, 95, 96, 97, 98, 99, 100, 101, 102, 103, 104, 105, 106, 107, 108, 109, 110, 111, 112, 113, 114, 115] (by decide +kernel) (by decide +kernel)
set_option maxRecDepth 20000 in
theorem gX4_count_X4_numberOf : GoodIn wsX4_count (wsV RX4 222 RX4 yX4_numberOf wsX4_numberOf) := goodIn_app (goodIn_of _ (by decide +kernel)) ggX4_count_X4_numberOf
theorem dX4_count_0 : decode cX4_count 0 = .ok (.iload_n 1, 1) := by decide +kernel
theorem dX4_count_1 : decode cX4_count 1 = .ok (.invokestatic 217, 3) := by decide +kernel
theorem dX4_count_4 : decode cX4_count 4 = .ok (.ifCond .ne 13, 3) := by decide +kernel
theorem dX4_count_7 : decode cX4_count 7 = .ok (.new 41, 3) := by decide +kernel
theorem dX4_count_10 : decode cX4_count 10 = .ok (.dup, 1) := by decide +kernel
theorem dX4_count_11 : decode cX4_count 11 = .ok (.ldc 220, 2) := by decide +kernel
theorem dX4_count_13 : decode cX4_count 13 = .ok (.invokespecial 45, 3) := by decide +kernel
theorem dX4_count_16 : decode cX4_count 16 = .ok (.athrow, 1) := by decide +kernel
theorem dX4_count_17 : decode cX4_count 17 = .ok (.aload_n 0, 1) := by decide +kernel
theorem dX4_count_18 : decode cX4_count 18 = .ok (.iload_n 1, 1) := by decide +kernel
theorem dX4_count_19 : decode cX4_count 19 = .ok (.invokevirtual 222, 3) := by decide +kernel
theorem dX4_count_22 : decode cX4_count 22 = .ok (.ireturn, 1) := by decide +kernel
set_option maxRecDepth 20000 in
theorem ggX4_overlap_X4_needBread : GoodIn wsX4_overlap wsX4_needBread := goodIn_ca (goodIn_r _ [6, 7, 8, 1, 9, 10, 11, 12, 13, 14, 54, 55, 56, 57, 58, 59, 60, 61, 62, 63, 64, 65, 66, 67, 68, 69, 70, 71, 72] (by decide +kernel) (by decide +kernel)) (goodIn_sub (fun _ h => List.mem_cons_of_mem _ (List.mem_append_right _ h)) (by decide +kernel))
set_option maxRecDepth 20000 in
theorem gX4_overlap_X4_needBread : GoodIn wsX4_overlap (wsV RX4 69 RX4 yX4_needBread wsX4_needBread) := goodIn_app (goodIn_of _ (by decide +kernel)) ggX4_overlap_X4_needBread
set_option maxRecDepth 20000 in
theorem ggX4_overlap_X3_eatersOfBoth : GoodIn wsX4_overlap wsX3_eatersOfBoth := goodIn_r _ [18, 19, 20, 21, 12, 22, 23, 24, 25, 26, 27, 28, 29, 30, 5, 31, 32, 33, 34, 35, 36, 37, 38, 39, 40, 41, 42, 43, 44, 45, 46, 47, 48, 49, 50, 51, 52, 53, 58, 59, 60, 61, 62, 63, 64, 65, 66, 67, 68, 69, 70, 71, 72] (by decide +kernel) (by decide +kernel)
set_option maxRecDepth 20000 in
theorem gX4_overlap_X3_eatersOfBoth : GoodIn wsX4_overlap (wsV RX4 225 RX3 yX3_eatersOfBoth wsX3_eatersOfBoth) := goodIn_app (goodIn_of _ (by decide +kernel)) ggX4_overlap_X3_eatersOfBoth
theorem dX4_overlap_0 : decode cX4_overlap 0 = .ok (.aload_n 0, 1) := by decide +kernel
theorem dX4_overlap_1 : decode cX4_overlap 1 = .ok (.iload_n 1, 1) := by decide +kernel
theorem dX4_overlap_2 : decode cX4_overlap 2 = .ok (.invokevirtual 69, 3) := by decide +kernel
theorem dX4_overlap_5 : decode cX4_overlap 5 = .ok (.aload_n 0, 1) := by decide +kernel
theorem dX4_overlap_6 : decode cX4_overlap 6 = .ok (.iload_n 2, 1) := by decide +kernel
theorem dX4_overlap_7 : decode cX4_overlap 7 = .ok (.invokevirtual 69, 3) := by decide +kernel
theorem dX4_overlap_10 : decode cX4_overlap 10 = .ok (.aload_n 0, 1) := by decide +kernel
theorem dX4_overlap_11 : decode cX4_overlap 11 = .ok (.getfield 10, 3) := by decide +kernel
theorem dX4_overlap_14 : decode cX4_overlap 14 = .ok (.iload_n 1, 1) := by decide +kernel
theorem dX4_overlap_15 : decode cX4_overlap 15 = .ok (.iload_n 2, 1) := by decide +kernel
theorem dX4_overlap_16 : decode cX4_overlap 16 = .ok (.invokevirtual 225, 3) := by decide +kernel
theorem dX4_overlap_19 : decode cX4_overlap 19 = .ok (.ireturn, 1) := by decide +kernel
set_option maxRecDepth 20000 in
theorem ggX4_ifShare_X4_needBread : GoodIn wsX4_ifShare wsX4_needBread := goodIn_ca (goodIn_r _ [7, 8, 9, 2, 10, 11, 12, 13, 14, 15, 90, 91, 92, 93, 94, 95, 96, 97, 98, 99, 100, 101, 102, 103, 104, 105, 106, 107, 108] (by decide +kernel) (by decide +kernel)) (goodIn_sub (fun _ h => List.mem_cons_of_mem _ (List.mem_append_left _ (List.mem_append_right _ h))) (by decide +kernel))
set_option maxRecDepth 20000 in
theorem gX4_ifShare_X4_needBread : GoodIn wsX4_ifShare (wsV RX4 69 RX4 yX4_needBread wsX4_needBread) := goodIn_app (goodIn_of _ (by decide +kernel)) ggX4_ifShare_X4_needBread
set_option maxRecDepth 20000 in
theorem ggX4_ifShare_X4_needShare : GoodIn wsX4_ifShare wsX4_needShare := goodIn_ca (goodIn_r _ [18, 19, 20] (by decide +kernel) (by decide +kernel)) (goodIn_sub (fun _ h => List.mem_cons_of_mem _ (List.mem_append_right _ h)) (by decide +kernel))
set_option maxRecDepth 20000 in
theorem gX4_ifShare_X4_needShare : GoodIn wsX4_ifShare (va_wsS RX4 86 yX4_needShare wsX4_needShare) := goodIn_app (goodIn_of _ (by decide +kernel)) ggX4_ifShare_X4_needShare
set_option maxRecDepth 20000 in
theorem ggX4_ifShare_X2_eatersAt : GoodIn wsX4_ifShare wsX2_eatersAt := goodIn_r _ [25, 26, 27, 28, 29, 30, 31, 32, 13, 33, 34, 35, 11, 12, 14, 15, 36, 37, 38, 24, 39, 40, 41, 42, 43, 44, 45, 46, 47, 48, 49, 50, 51, 52, 53, 54, 55, 56, 57, 58, 6, 59, 60, 61, 62, 63, 64, 65, 66, 67, 68, 69, 70, 71, 72, 73, 74, 75, 76, 77, 78, 79, 80, 81, 82, 83, 84, 85, 86, 87, 88, 89, 109, 110, 111, 112, 113, 94, 95, 96, 97, 98, 99, 100, 101, 102, 103, 104, 105, 106, 107, 108] (by decide +kernel) (by decide +kernel)
set_option maxRecDepth 20000 in
theorem gX4_ifShare_X2_eatersAt : GoodIn wsX4_ifShare (wsV RX4 228 RX2 yX2_eatersAt wsX2_eatersAt) := goodIn_app (goodIn_of _ (by decide +kernel)) ggX4_ifShare_X2_eatersAt
theorem dX4_ifShare_0 : decode cX4_ifShare 0 = .ok (.aload_n 0, 1) := by decide +kernel
theorem dX4_ifShare_1 : decode cX4_ifShare 1 = .ok (.iload_n 1, 1) := by decide +kernel
theorem dX4_ifShare_2 : decode cX4_ifShare 2 = .ok (.invokevirtual 69, 3) := by decide +kernel
theorem dX4_ifShare_5 : decode cX4_ifShare 5 = .ok (.iload_n 2, 1) := by decide +kernel
theorem dX4_ifShare_6 : decode cX4_ifShare 6 = .ok (.invokestatic 86, 3) := by decide +kernel
theorem dX4_ifShare_9 : decode cX4_ifShare 9 = .ok (.aload_n 0, 1) := by decide +kernel
theorem dX4_ifShare_10 : decode cX4_ifShare 10 = .ok (.getfield 26, 3) := by decide +kernel
theorem dX4_ifShare_13 : decode cX4_ifShare 13 = .ok (.aload_n 0, 1) := by decide +kernel
theorem dX4_ifShare_14 : decode cX4_ifShare 14 = .ok (.getfield 10, 3) := by decide +kernel
theorem dX4_ifShare_17 : decode cX4_ifShare 17 = .ok (.iload_n 1, 1) := by decide +kernel
theorem dX4_ifShare_18 : decode cX4_ifShare 18 = .ok (.iload_n 2, 1) := by decide +kernel
theorem dX4_ifShare_19 : decode cX4_ifShare 19 = .ok (.invokevirtual 228, 3) := by decide +kernel
theorem dX4_ifShare_22 : decode cX4_ifShare 22 = .ok (.ireturn, 1) := by decide +kernel
set_option maxRecDepth 20000 in
theorem ggX4_shareFor_X4_needBread : GoodIn wsX4_shareFor wsX4_needBread := goodIn_ca (goodIn_r _ [9, 10, 11, 4, 12, 13, 14, 15, 16, 17, 87, 88, 89, 90, 91, 92, 93, 94, 95, 96, 97, 98, 99, 100, 101, 102, 103, 104, 105] (by decide +kernel) (by decide +kernel)) (goodIn_sub (fun _ h => List.mem_cons_of_mem _ (List.mem_append_right _ h)) (by decide +kernel))
set_option maxRecDepth 20000 in
theorem gX4_shareFor_X4_needBread : GoodIn wsX4_shareFor (wsV RX4 69 RX4 yX4_needBread wsX4_needBread) := goodIn_app (goodIn_of _ (by decide +kernel)) ggX4_shareFor_X4_needBread
set_option maxRecDepth 20000 in
theorem ggX4_shareFor_X2_leastShare : GoodIn wsX4_shareFor wsX2_leastShare := goodIn_r _ [22, 23, 24, 25, 26, 27, 28, 29, 15, 30, 31, 32, 13, 14, 16, 17, 33, 34, 35, 21, 36, 37, 38, 39, 40, 41, 42, 43, 44, 45, 46, 47, 48, 49, 50, 51, 52, 53, 54, 55, 8, 56, 57, 58, 59, 60, 61, 62, 63, 64, 65, 66, 67, 68, 69, 70, 71, 72, 73, 74, 75, 76, 77, 78, 79, 80, 81, 82, 83, 84, 85, 86, 106, 107, 108, 109, 110, 91, 92, 93, 94, 95, 96, 97, 98, 99, 100, 101, 102, 103, 104, 105] (by decide +kernel) (by decide +kernel)
set_option maxRecDepth 20000 in
theorem gX4_shareFor_X2_leastShare : GoodIn wsX4_shareFor (wsV RX4 234 RX2 yX2_leastShare wsX2_leastShare) := goodIn_app (goodIn_of _ (by decide +kernel)) ggX4_shareFor_X2_leastShare
theorem dX4_shareFor_0 : decode cX4_shareFor 0 = .ok (.aload_n 0, 1) := by decide +kernel
theorem dX4_shareFor_1 : decode cX4_shareFor 1 = .ok (.iload_n 1, 1) := by decide +kernel
theorem dX4_shareFor_2 : decode cX4_shareFor 2 = .ok (.invokevirtual 69, 3) := by decide +kernel
theorem dX4_shareFor_5 : decode cX4_shareFor 5 = .ok (.iload_n 2, 1) := by decide +kernel
theorem dX4_shareFor_6 : decode cX4_shareFor 6 = .ok (.ifCond .lt 10, 3) := by decide +kernel
theorem dX4_shareFor_9 : decode cX4_shareFor 9 = .ok (.iload_n 2, 1) := by decide +kernel
theorem dX4_shareFor_10 : decode cX4_shareFor 10 = .ok (.sipush 150, 3) := by decide +kernel
theorem dX4_shareFor_13 : decode cX4_shareFor 13 = .ok (.if_icmp .le 13, 3) := by decide +kernel
theorem dX4_shareFor_16 : decode cX4_shareFor 16 = .ok (.new 41, 3) := by decide +kernel
theorem dX4_shareFor_19 : decode cX4_shareFor 19 = .ok (.dup, 1) := by decide +kernel
theorem dX4_shareFor_20 : decode cX4_shareFor 20 = .ok (.ldc 232, 2) := by decide +kernel
theorem dX4_shareFor_22 : decode cX4_shareFor 22 = .ok (.invokespecial 45, 3) := by decide +kernel
theorem dX4_shareFor_25 : decode cX4_shareFor 25 = .ok (.athrow, 1) := by decide +kernel
theorem dX4_shareFor_26 : decode cX4_shareFor 26 = .ok (.aload_n 0, 1) := by decide +kernel
theorem dX4_shareFor_27 : decode cX4_shareFor 27 = .ok (.getfield 26, 3) := by decide +kernel
theorem dX4_shareFor_30 : decode cX4_shareFor 30 = .ok (.aload_n 0, 1) := by decide +kernel
theorem dX4_shareFor_31 : decode cX4_shareFor 31 = .ok (.getfield 10, 3) := by decide +kernel
theorem dX4_shareFor_34 : decode cX4_shareFor 34 = .ok (.iload_n 1, 1) := by decide +kernel
theorem dX4_shareFor_35 : decode cX4_shareFor 35 = .ok (.iload_n 2, 1) := by decide +kernel
theorem dX4_shareFor_36 : decode cX4_shareFor 36 = .ok (.invokevirtual 234, 3) := by decide +kernel
theorem dX4_shareFor_39 : decode cX4_shareFor 39 = .ok (.ireturn, 1) := by decide +kernel
set_option maxRecDepth 20000 in
theorem ggX4_bestSalt_X4_needBread : GoodIn wsX4_bestSalt wsX4_needBread := goodIn_ca (goodIn_r _ [5, 6, 7, 8, 9, 10, 11, 12, 13, 14, 62, 63, 64, 65, 66, 67, 68, 69, 70, 71, 72, 73, 74, 75, 76, 77, 78, 79, 80] (by decide +kernel) (by decide +kernel)) (goodIn_sub (fun _ h => List.mem_cons_of_mem _ (List.mem_append_left _ (List.mem_append_right _ h))) (by decide +kernel))
set_option maxRecDepth 20000 in
theorem gX4_bestSalt_X4_needBread : GoodIn wsX4_bestSalt (wsV RX4 69 RX4 yX4_needBread wsX4_needBread) := goodIn_app (goodIn_of _ (by decide +kernel)) ggX4_bestSalt_X4_needBread
set_option maxRecDepth 20000 in
theorem ggX4_bestSalt_X4_needSalt : GoodIn wsX4_bestSalt wsX4_needSalt := goodIn_ca (goodIn_r _ [17, 18, 19] (by decide +kernel) (by decide +kernel)) (goodIn_sub (fun _ h => List.mem_cons_of_mem _ (List.mem_append_right _ h)) (by decide +kernel))
set_option maxRecDepth 20000 in
theorem gX4_bestSalt_X4_needSalt : GoodIn wsX4_bestSalt (va_wsS RX4 48 yX4_needSalt wsX4_needSalt) := goodIn_app (goodIn_of _ (by decide +kernel)) ggX4_bestSalt_X4_needSalt
set_option maxRecDepth 20000 in
theorem ggX4_bestSalt_X4_bestSaltFrom : GoodIn wsX4_bestSalt wsX4_bestSaltFrom := goodIn_r _ [23, 8, 24, 25, 26, 12, 27, 28, 29, 10, 11, 13, 14, 30, 31, 32, 33, 34, 35, 4, 36, 37, 38, 39, 40, 41, 42, 43, 44, 45, 46, 47, 48, 49, 50, 51, 52, 53, 54, 55, 56, 57, 58, 59, 60, 61, 62, 63, 64, 65, 66, 67, 68, 69, 70, 71, 72, 73, 74, 75, 76, 77, 78, 79, 80] (by decide +kernel) (by decide +kernel)
set_option maxRecDepth 20000 in
theorem gX4_bestSalt_X4_bestSaltFrom : GoodIn wsX4_bestSalt (wsV RX4 237 RX4 yX4_bestSaltFrom wsX4_bestSaltFrom) := goodIn_app (goodIn_of _ (by decide +kernel)) ggX4_bestSalt_X4_bestSaltFrom
theorem dX4_bestSalt_0 : decode cX4_bestSalt 0 = .ok (.aload_n 0, 1) := by decide +kernel
theorem dX4_bestSalt_1 : decode cX4_bestSalt 1 = .ok (.iload_n 1, 1) := by decide +kernel
theorem dX4_bestSalt_2 : decode cX4_bestSalt 2 = .ok (.invokevirtual 69, 3) := by decide +kernel
theorem dX4_bestSalt_5 : decode cX4_bestSalt 5 = .ok (.iload_n 2, 1) := by decide +kernel
theorem dX4_bestSalt_6 : decode cX4_bestSalt 6 = .ok (.invokestatic 48, 3) := by decide +kernel
theorem dX4_bestSalt_9 : decode cX4_bestSalt 9 = .ok (.aload_n 0, 1) := by decide +kernel
theorem dX4_bestSalt_10 : decode cX4_bestSalt 10 = .ok (.iload_n 1, 1) := by decide +kernel
theorem dX4_bestSalt_11 : decode cX4_bestSalt 11 = .ok (.iload_n 2, 1) := by decide +kernel
theorem dX4_bestSalt_12 : decode cX4_bestSalt 12 = .ok (.invokevirtual 237, 3) := by decide +kernel
theorem dX4_bestSalt_15 : decode cX4_bestSalt 15 = .ok (.ireturn, 1) := by decide +kernel
set_option maxRecDepth 20000 in
theorem ggX4_nextEater_X4_needBread : GoodIn wsX4_nextEater wsX4_needBread := goodIn_ca (goodIn_r _ [7, 8, 9, 2, 10, 11, 12, 13, 14, 15, 85, 86, 87, 88, 89, 90, 91, 92, 93, 94, 95, 96, 97, 98, 99, 100, 101, 102, 103] (by decide +kernel) (by decide +kernel)) (goodIn_sub (fun _ h => List.mem_cons_of_mem _ (List.mem_append_right _ h)) (by decide +kernel))
set_option maxRecDepth 20000 in
theorem gX4_nextEater_X4_needBread : GoodIn wsX4_nextEater (wsV RX4 69 RX4 yX4_needBread wsX4_needBread) := goodIn_app (goodIn_of _ (by decide +kernel)) ggX4_nextEater_X4_needBread
set_option maxRecDepth 20000 in
theorem ggX4_nextEater_X2_firstNewcomer : GoodIn wsX4_nextEater wsX2_firstNewcomer := goodIn_r _ [20, 21, 22, 23, 24, 25, 26, 27, 28, 13, 29, 30, 31, 11, 12, 14, 15, 32, 33, 34, 19, 35, 36, 37, 38, 39, 40, 41, 42, 43, 44, 45, 46, 47, 48, 49, 50, 51, 52, 53, 6, 54, 55, 56, 57, 58, 59, 60, 61, 62, 63, 64, 65, 66, 67, 68, 69, 70, 71, 72, 73, 74, 75, 76, 77, 78, 79, 80, 81, 82, 83, 84, 89, 90, 91, 92, 93, 94, 95, 96, 97, 98, 99, 100, 101, 102, 103, 104, 105, 106, 107, 108] (by decide +kernel) (by decide +kernel)
set_option maxRecDepth 20000 in
theorem gX4_nextEater_X2_firstNewcomer : GoodIn wsX4_nextEater (wsV RX4 240 RX2 yX2_firstNewcomer wsX2_firstNewcomer) := goodIn_app (goodIn_of _ (by decide +kernel)) ggX4_nextEater_X2_firstNewcomer
theorem dX4_nextEater_0 : decode cX4_nextEater 0 = .ok (.aload_n 0, 1) := by decide +kernel
theorem dX4_nextEater_1 : decode cX4_nextEater 1 = .ok (.iload_n 1, 1) := by decide +kernel
theorem dX4_nextEater_2 : decode cX4_nextEater 2 = .ok (.invokevirtual 69, 3) := by decide +kernel
theorem dX4_nextEater_5 : decode cX4_nextEater 5 = .ok (.aload_n 0, 1) := by decide +kernel
theorem dX4_nextEater_6 : decode cX4_nextEater 6 = .ok (.getfield 26, 3) := by decide +kernel
theorem dX4_nextEater_9 : decode cX4_nextEater 9 = .ok (.aload_n 0, 1) := by decide +kernel
theorem dX4_nextEater_10 : decode cX4_nextEater 10 = .ok (.getfield 10, 3) := by decide +kernel
theorem dX4_nextEater_13 : decode cX4_nextEater 13 = .ok (.iload_n 1, 1) := by decide +kernel
theorem dX4_nextEater_14 : decode cX4_nextEater 14 = .ok (.invokevirtual 240, 3) := by decide +kernel
theorem dX4_nextEater_17 : decode cX4_nextEater 17 = .ok (.ireturn, 1) := by decide +kernel
set_option maxRecDepth 20000 in
theorem ggX4_part_X4_needBread : GoodIn wsX4_part wsX4_needBread := goodIn_ca (goodIn_r _ [5, 6, 7, 8, 9, 10, 11, 12, 13, 14, 59, 60, 61, 62, 63, 64, 65, 66, 67, 68, 69, 70, 71, 72, 73, 74, 75, 76, 77] (by decide +kernel) (by decide +kernel)) (goodIn_sub (fun _ h => List.mem_cons_of_mem _ (List.mem_append_right _ h)) (by decide +kernel))
set_option maxRecDepth 20000 in
theorem gX4_part_X4_needBread : GoodIn wsX4_part (wsV RX4 69 RX4 yX4_needBread wsX4_needBread) := goodIn_app (goodIn_of _ (by decide +kernel)) ggX4_part_X4_needBread
set_option maxRecDepth 20000 in
theorem ggX4_part_X4_partOf : GoodIn wsX4_part wsX4_partOf := goodIn_r _ [18, 8, 19, 20, 21, 22, 12, 23, 24, 25, 26, 27, 28, 29, 30, 31, 4, 32, 33, 34, 35, 36, 37, 38, 39, 40, 41, 42, 43, 44, 45, 46, 47, 48, 49, 50, 51, 52, 53, 54, 55, 56, 57, 58, 59, 60, 61, 62, 63, 64, 65, 66, 67, 68, 69, 70, 71, 72, 73, 74, 75, 76, 77] (by decide +kernel) (by decide +kernel)
set_option maxRecDepth 20000 in
theorem gX4_part_X4_partOf : GoodIn wsX4_part (wsV RX4 244 RX4 yX4_partOf wsX4_partOf) := goodIn_app (goodIn_of _ (by decide +kernel)) ggX4_part_X4_partOf
theorem dX4_part_0 : decode cX4_part 0 = .ok (.aload_n 0, 1) := by decide +kernel
theorem dX4_part_1 : decode cX4_part 1 = .ok (.iload_n 1, 1) := by decide +kernel
theorem dX4_part_2 : decode cX4_part 2 = .ok (.invokevirtual 69, 3) := by decide +kernel
theorem dX4_part_5 : decode cX4_part 5 = .ok (.aload_n 0, 1) := by decide +kernel
theorem dX4_part_6 : decode cX4_part 6 = .ok (.iload_n 1, 1) := by decide +kernel
theorem dX4_part_7 : decode cX4_part 7 = .ok (.invokevirtual 244, 3) := by decide +kernel
theorem dX4_part_10 : decode cX4_part 10 = .ok (.dreturn, 1) := by decide +kernel
set_option maxRecDepth 20000 in
theorem ggX4_digest_X4_isCounted : GoodIn wsX4_digest wsX4_isCounted := goodIn_r _ [12] (by decide +kernel) (by decide +kernel)
set_option maxRecDepth 20000 in
theorem gX4_digest_X4_isCounted : GoodIn wsX4_digest (va_wsS RX4 217 yX4_isCounted wsX4_isCounted) := goodIn_app (goodIn_of _ (by decide +kernel)) ggX4_digest_X4_isCounted
set_option maxRecDepth 20000 in
theorem ggX4_digest_X4_numberOf : GoodIn wsX4_digest wsX4_numberOf := goodIn_r _ [16, 17, 18, 3, 19, 20, 21, 11, 22, 23, 24, 25, 26, 27, 28, 29, 30, 31, 32, 33, 34, 35, 36, 37, 38, 39, 40, 41, 42, 43, 44, 45, 46, 47, 48, 49, 50, 51, 52, 53, 54, 55, 56, 57, 58, 59, 60, 61, 62, 63, 64, 65, 66, 67, 68, 69, 70, 71, 72, 73, 74, 75, 76, 77, 78, 79, 80, 81, 82, 83, 84, 85, 86, 87, 88, 89, 90, 91, 92, 93, 94, 95, 96, 97, 98, 225, 226, 227, 228, 251, 252, 253, 229, 230, 231, 232, 233, 234, 235, 236, 237, 238, 239, 240, 241, 242, 243] (by decide +kernel) (by decide +kernel)
set_option maxRecDepth 20000 in
theorem gX4_digest_X4_numberOf : GoodIn wsX4_digest (wsV RX4 222 RX4 yX4_numberOf wsX4_numberOf) := goodIn_app (goodIn_of _ (by decide +kernel)) ggX4_digest_X4_numberOf
set_option maxRecDepth 20000 in
theorem ggX4_digest_X4_hashWithBread : GoodIn wsX4_digest wsX4_hashWithBread := goodIn_r _ [102, 2, 3, 103, 104, 105, 106, 26, 107, 34, 56, 78, 65, 66, 108, 64, 63, 52, 53, 54, 55, 57, 58, 21, 11, 22, 109, 110, 111, 112, 113, 114, 115, 116, 59, 60, 61, 62, 67, 68, 69, 70, 71, 72, 73, 74, 75, 76, 77, 28, 117, 118, 119, 120, 121, 122, 123, 124, 125, 126, 127, 128, 129, 130, 131, 132, 133, 134, 135, 136, 137, 138, 139, 140, 141, 142, 143, 144, 145, 146, 147, 148, 149, 150, 151, 152, 153, 33, 154, 155, 156, 157, 158, 159, 160, 161, 162, 163, 164, 165, 166, 167, 168, 169, 170, 171, 172, 173, 174, 175, 176, 177, 178, 179, 180, 181, 182, 183, 184, 185, 186, 187, 188, 189, 190, 191, 192, 193, 194, 195, 196, 197, 198, 199, 200, 201, 202, 203, 204, 205, 206, 207, 208, 209, 210, 211, 212, 213, 214, 215, 225, 226, 227, 228, 229, 230, 231, 232, 233, 234, 235, 236, 237, 238, 239, 240, 241, 242, 243, 254, 255, 256, 257, 258] (by decide +kernel) (by decide +kernel)
set_option maxRecDepth 20000 in
theorem gX4_digest_X4_hashWithBread : GoodIn wsX4_digest (wsV RX4 252 RX4 yX4_hashWithBread wsX4_hashWithBread) := goodIn_app (goodIn_of _ (by decide +kernel)) ggX4_digest_X4_hashWithBread
set_option maxRecDepth 20000 in
theorem ggX4_digest_X4_hashWithPersons : GoodIn wsX4_digest wsX4_hashWithPersons := goodIn_r _ [219, 2, 3, 220, 221, 222, 26, 223, 66, 64, 63, 224, 48, 49, 50, 51, 52, 53, 54, 55, 56, 57, 58, 21, 11, 22, 59, 60, 61, 62, 34, 65, 67, 68, 69, 70, 71, 72, 73, 74, 75, 76, 77, 28, 78, 225, 226, 227, 228, 229, 230, 231, 232, 233, 234, 235, 236, 237, 238, 239, 240, 241, 242, 243] (by decide +kernel) (by decide +kernel)
set_option maxRecDepth 20000 in
theorem gX4_digest_X4_hashWithPersons : GoodIn wsX4_digest (wsV RX4 256 RX4 yX4_hashWithPersons wsX4_hashWithPersons) := goodIn_app (goodIn_of _ (by decide +kernel)) ggX4_digest_X4_hashWithPersons
theorem dX4_digest_0 : decode cX4_digest 0 = .ok (.ldc2_w 248, 3) := by decide +kernel
theorem dX4_digest_3 : decode cX4_digest 3 = .ok (.lstore_n 1, 1) := by decide +kernel
theorem dX4_digest_4 : decode cX4_digest 4 = .ok (.iconst 0, 1) := by decide +kernel
theorem dX4_digest_5 : decode cX4_digest 5 = .ok (.istore_n 3, 1) := by decide +kernel
theorem dX4_digest_6 : decode cX4_digest 6 = .ok (.iload_n 3, 1) := by decide +kernel
theorem dX4_digest_7 : decode cX4_digest 7 = .ok (.bipush 22, 2) := by decide +kernel
theorem dX4_digest_9 : decode cX4_digest 9 = .ok (.if_icmp .gt 29, 3) := by decide +kernel
theorem dX4_digest_12 : decode cX4_digest 12 = .ok (.iload_n 3, 1) := by decide +kernel
theorem dX4_digest_13 : decode cX4_digest 13 = .ok (.invokestatic 217, 3) := by decide +kernel
theorem dX4_digest_16 : decode cX4_digest 16 = .ok (.ifCond .eq 16, 3) := by decide +kernel
theorem dX4_digest_19 : decode cX4_digest 19 = .ok (.ldc2_w 250, 3) := by decide +kernel
theorem dX4_digest_22 : decode cX4_digest 22 = .ok (.lload_n 1, 1) := by decide +kernel
theorem dX4_digest_23 : decode cX4_digest 23 = .ok (.lmul, 1) := by decide +kernel
theorem dX4_digest_24 : decode cX4_digest 24 = .ok (.aload_n 0, 1) := by decide +kernel
theorem dX4_digest_25 : decode cX4_digest 25 = .ok (.iload_n 3, 1) := by decide +kernel
theorem dX4_digest_26 : decode cX4_digest 26 = .ok (.invokevirtual 222, 3) := by decide +kernel
theorem dX4_digest_29 : decode cX4_digest 29 = .ok (.i2l, 1) := by decide +kernel
theorem dX4_digest_30 : decode cX4_digest 30 = .ok (.ladd, 1) := by decide +kernel
theorem dX4_digest_31 : decode cX4_digest 31 = .ok (.lstore_n 1, 1) := by decide +kernel
theorem dX4_digest_32 : decode cX4_digest 32 = .ok (.iinc 3 1, 3) := by decide +kernel
theorem dX4_digest_35 : decode cX4_digest 35 = .ok (.goto (-29), 3) := by decide +kernel
theorem dX4_digest_38 : decode cX4_digest 38 = .ok (.iconst 0, 1) := by decide +kernel
theorem dX4_digest_39 : decode cX4_digest 39 = .ok (.istore_n 3, 1) := by decide +kernel
theorem dX4_digest_40 : decode cX4_digest 40 = .ok (.iload_n 3, 1) := by decide +kernel
theorem dX4_digest_41 : decode cX4_digest 41 = .ok (.aload_n 0, 1) := by decide +kernel
theorem dX4_digest_42 : decode cX4_digest 42 = .ok (.getfield 10, 3) := by decide +kernel
theorem dX4_digest_45 : decode cX4_digest 45 = .ok (.getfield 52, 3) := by decide +kernel
theorem dX4_digest_48 : decode cX4_digest 48 = .ok (.if_icmp .ge 22, 3) := by decide +kernel
theorem dX4_digest_51 : decode cX4_digest 51 = .ok (.iload_n 3, 1) := by decide +kernel
theorem dX4_digest_52 : decode cX4_digest 52 = .ok (.bipush 8, 2) := by decide +kernel
theorem dX4_digest_54 : decode cX4_digest 54 = .ok (.if_icmp .ge 16, 3) := by decide +kernel
theorem dX4_digest_57 : decode cX4_digest 57 = .ok (.aload_n 0, 1) := by decide +kernel
theorem dX4_digest_58 : decode cX4_digest 58 = .ok (.lload_n 1, 1) := by decide +kernel
theorem dX4_digest_59 : decode cX4_digest 59 = .ok (.iload_n 3, 1) := by decide +kernel
theorem dX4_digest_60 : decode cX4_digest 60 = .ok (.invokevirtual 252, 3) := by decide +kernel
theorem dX4_digest_63 : decode cX4_digest 63 = .ok (.lstore_n 1, 1) := by decide +kernel
theorem dX4_digest_64 : decode cX4_digest 64 = .ok (.iinc 3 1, 3) := by decide +kernel
theorem dX4_digest_67 : decode cX4_digest 67 = .ok (.goto (-27), 3) := by decide +kernel
theorem dX4_digest_70 : decode cX4_digest 70 = .ok (.aload_n 0, 1) := by decide +kernel
theorem dX4_digest_71 : decode cX4_digest 71 = .ok (.lload_n 1, 1) := by decide +kernel
theorem dX4_digest_72 : decode cX4_digest 72 = .ok (.invokevirtual 256, 3) := by decide +kernel
theorem dX4_digest_75 : decode cX4_digest 75 = .ok (.lstore_n 1, 1) := by decide +kernel
theorem dX4_digest_76 : decode cX4_digest 76 = .ok (.iconst 0, 1) := by decide +kernel
theorem dX4_digest_77 : decode cX4_digest 77 = .ok (.istore_n 3, 1) := by decide +kernel
theorem dX4_digest_78 : decode cX4_digest 78 = .ok (.iload_n 3, 1) := by decide +kernel
theorem dX4_digest_79 : decode cX4_digest 79 = .ok (.sipush 300, 3) := by decide +kernel
theorem dX4_digest_82 : decode cX4_digest 82 = .ok (.if_icmp .ge 26, 3) := by decide +kernel
theorem dX4_digest_85 : decode cX4_digest 85 = .ok (.ldc2_w 250, 3) := by decide +kernel
theorem dX4_digest_88 : decode cX4_digest 88 = .ok (.lload_n 1, 1) := by decide +kernel
theorem dX4_digest_89 : decode cX4_digest 89 = .ok (.lmul, 1) := by decide +kernel
theorem dX4_digest_90 : decode cX4_digest 90 = .ok (.aload_n 0, 1) := by decide +kernel
theorem dX4_digest_91 : decode cX4_digest 91 = .ok (.getfield 10, 3) := by decide +kernel
theorem dX4_digest_94 : decode cX4_digest 94 = .ok (.getfield 214, 3) := by decide +kernel
theorem dX4_digest_97 : decode cX4_digest 97 = .ok (.iload_n 3, 1) := by decide +kernel
theorem dX4_digest_98 : decode cX4_digest 98 = .ok (.iaload, 1) := by decide +kernel
theorem dX4_digest_99 : decode cX4_digest 99 = .ok (.i2l, 1) := by decide +kernel
theorem dX4_digest_100 : decode cX4_digest 100 = .ok (.ladd, 1) := by decide +kernel
theorem dX4_digest_101 : decode cX4_digest 101 = .ok (.lstore_n 1, 1) := by decide +kernel
theorem dX4_digest_102 : decode cX4_digest 102 = .ok (.iinc 3 1, 3) := by decide +kernel
theorem dX4_digest_105 : decode cX4_digest 105 = .ok (.goto (-27), 3) := by decide +kernel
theorem dX4_digest_108 : decode cX4_digest 108 = .ok (.ldc2_w 250, 3) := by decide +kernel
theorem dX4_digest_111 : decode cX4_digest 111 = .ok (.lload_n 1, 1) := by decide +kernel
theorem dX4_digest_112 : decode cX4_digest 112 = .ok (.lmul, 1) := by decide +kernel
theorem dX4_digest_113 : decode cX4_digest 113 = .ok (.aload_n 0, 1) := by decide +kernel
theorem dX4_digest_114 : decode cX4_digest 114 = .ok (.getfield 33, 3) := by decide +kernel
theorem dX4_digest_117 : decode cX4_digest 117 = .ok (.getfield 166, 3) := by decide +kernel
theorem dX4_digest_120 : decode cX4_digest 120 = .ok (.i2l, 1) := by decide +kernel
theorem dX4_digest_121 : decode cX4_digest 121 = .ok (.ladd, 1) := by decide +kernel
theorem dX4_digest_122 : decode cX4_digest 122 = .ok (.lstore_n 1, 1) := by decide +kernel
theorem dX4_digest_123 : decode cX4_digest 123 = .ok (.iconst 0, 1) := by decide +kernel
theorem dX4_digest_124 : decode cX4_digest 124 = .ok (.istore_n 3, 1) := by decide +kernel
theorem dX4_digest_125 : decode cX4_digest 125 = .ok (.iload_n 3, 1) := by decide +kernel
theorem dX4_digest_126 : decode cX4_digest 126 = .ok (.aload_n 0, 1) := by decide +kernel
theorem dX4_digest_127 : decode cX4_digest 127 = .ok (.getfield 33, 3) := by decide +kernel
theorem dX4_digest_130 : decode cX4_digest 130 = .ok (.getfield 166, 3) := by decide +kernel
theorem dX4_digest_133 : decode cX4_digest 133 = .ok (.if_icmp .ge 32, 3) := by decide +kernel
theorem dX4_digest_136 : decode cX4_digest 136 = .ok (.iload_n 3, 1) := by decide +kernel
theorem dX4_digest_137 : decode cX4_digest 137 = .ok (.bipush 60, 2) := by decide +kernel
theorem dX4_digest_139 : decode cX4_digest 139 = .ok (.if_icmp .ge 26, 3) := by decide +kernel
theorem dX4_digest_142 : decode cX4_digest 142 = .ok (.ldc2_w 250, 3) := by decide +kernel
theorem dX4_digest_145 : decode cX4_digest 145 = .ok (.lload_n 1, 1) := by decide +kernel
theorem dX4_digest_146 : decode cX4_digest 146 = .ok (.lmul, 1) := by decide +kernel
theorem dX4_digest_147 : decode cX4_digest 147 = .ok (.aload_n 0, 1) := by decide +kernel
theorem dX4_digest_148 : decode cX4_digest 148 = .ok (.getfield 33, 3) := by decide +kernel
theorem dX4_digest_151 : decode cX4_digest 151 = .ok (.getfield 260, 3) := by decide +kernel
theorem dX4_digest_154 : decode cX4_digest 154 = .ok (.iload_n 3, 1) := by decide +kernel
theorem dX4_digest_155 : decode cX4_digest 155 = .ok (.iaload, 1) := by decide +kernel
theorem dX4_digest_156 : decode cX4_digest 156 = .ok (.i2l, 1) := by decide +kernel
theorem dX4_digest_157 : decode cX4_digest 157 = .ok (.ladd, 1) := by decide +kernel
theorem dX4_digest_158 : decode cX4_digest 158 = .ok (.lstore_n 1, 1) := by decide +kernel
theorem dX4_digest_159 : decode cX4_digest 159 = .ok (.iinc 3 1, 3) := by decide +kernel
theorem dX4_digest_162 : decode cX4_digest 162 = .ok (.goto (-37), 3) := by decide +kernel
theorem dX4_digest_165 : decode cX4_digest 165 = .ok (.lload_n 1, 1) := by decide +kernel
theorem dX4_digest_166 : decode cX4_digest 166 = .ok (.lreturn, 1) := by decide +kernel
set_option maxRecDepth 20000 in
theorem ggX4_needBread_X3_hasBread : GoodIn wsX4_needBread wsX3_hasBread := goodIn_r _ [8, 9, 14, 15, 16, 17, 18, 19, 20, 21, 22, 23, 24, 25, 26, 27, 28] (by decide +kernel) (by decide +kernel)
set_option maxRecDepth 20000 in
theorem gX4_needBread_X3_hasBread : GoodIn wsX4_needBread (wsV RX4 263 RX3 yX3_hasBread wsX3_hasBread) := goodIn_app (goodIn_of _ (by decide +kernel)) ggX4_needBread_X3_hasBread
theorem dX4_needBread_0 : decode cX4_needBread 0 = .ok (.aload_n 0, 1) := by decide +kernel
theorem dX4_needBread_1 : decode cX4_needBread 1 = .ok (.getfield 10, 3) := by decide +kernel
theorem dX4_needBread_4 : decode cX4_needBread 4 = .ok (.iload_n 1, 1) := by decide +kernel
theorem dX4_needBread_5 : decode cX4_needBread 5 = .ok (.invokevirtual 263, 3) := by decide +kernel
theorem dX4_needBread_8 : decode cX4_needBread 8 = .ok (.ifCond .ne 14, 3) := by decide +kernel
theorem dX4_needBread_11 : decode cX4_needBread 11 = .ok (.new 209, 3) := by decide +kernel
theorem dX4_needBread_14 : decode cX4_needBread 14 = .ok (.dup, 1) := by decide +kernel
theorem dX4_needBread_15 : decode cX4_needBread 15 = .ok (.ldc_w 266, 3) := by decide +kernel
theorem dX4_needBread_18 : decode cX4_needBread 18 = .ok (.invokespecial 213, 3) := by decide +kernel
theorem dX4_needBread_21 : decode cX4_needBread 21 = .ok (.athrow, 1) := by decide +kernel
theorem dX4_needBread_22 : decode cX4_needBread 22 = .ok (.return_, 1) := by decide +kernel
set_option maxRecDepth 20000 in
theorem ggX4_needOpen_X3_isOpenBread : GoodIn wsX4_needOpen wsX3_isOpenBread := goodIn_r _ [8, 9, 10, 11, 12, 7, 13, 14, 19, 20, 21, 22, 23, 24, 25, 26, 27, 28, 29, 30, 31, 32, 33] (by decide +kernel) (by decide +kernel)
set_option maxRecDepth 20000 in
theorem gX4_needOpen_X3_isOpenBread : GoodIn wsX4_needOpen (wsV RX4 268 RX3 yX3_isOpenBread wsX3_isOpenBread) := goodIn_app (goodIn_of _ (by decide +kernel)) ggX4_needOpen_X3_isOpenBread
theorem dX4_needOpen_0 : decode cX4_needOpen 0 = .ok (.aload_n 0, 1) := by decide +kernel
theorem dX4_needOpen_1 : decode cX4_needOpen 1 = .ok (.getfield 10, 3) := by decide +kernel
theorem dX4_needOpen_4 : decode cX4_needOpen 4 = .ok (.iload_n 1, 1) := by decide +kernel
theorem dX4_needOpen_5 : decode cX4_needOpen 5 = .ok (.invokevirtual 268, 3) := by decide +kernel
theorem dX4_needOpen_8 : decode cX4_needOpen 8 = .ok (.ifCond .ne 14, 3) := by decide +kernel
theorem dX4_needOpen_11 : decode cX4_needOpen 11 = .ok (.new 56, 3) := by decide +kernel
theorem dX4_needOpen_14 : decode cX4_needOpen 14 = .ok (.dup, 1) := by decide +kernel
theorem dX4_needOpen_15 : decode cX4_needOpen 15 = .ok (.ldc_w 271, 3) := by decide +kernel
theorem dX4_needOpen_18 : decode cX4_needOpen 18 = .ok (.invokespecial 60, 3) := by decide +kernel
theorem dX4_needOpen_21 : decode cX4_needOpen 21 = .ok (.athrow, 1) := by decide +kernel
theorem dX4_needOpen_22 : decode cX4_needOpen 22 = .ok (.return_, 1) := by decide +kernel
theorem dX4_needPerson_0 : decode cX4_needPerson 0 = .ok (.iload_n 0, 1) := by decide +kernel
theorem dX4_needPerson_1 : decode cX4_needPerson 1 = .ok (.ifCond .lt 10, 3) := by decide +kernel
theorem dX4_needPerson_4 : decode cX4_needPerson 4 = .ok (.iload_n 0, 1) := by decide +kernel
theorem dX4_needPerson_5 : decode cX4_needPerson 5 = .ok (.sipush 150, 3) := by decide +kernel
theorem dX4_needPerson_8 : decode cX4_needPerson 8 = .ok (.if_icmp .lt 14, 3) := by decide +kernel
theorem dX4_needPerson_11 : decode cX4_needPerson 11 = .ok (.new 209, 3) := by decide +kernel
theorem dX4_needPerson_14 : decode cX4_needPerson 14 = .ok (.dup, 1) := by decide +kernel
theorem dX4_needPerson_15 : decode cX4_needPerson 15 = .ok (.ldc_w 273, 3) := by decide +kernel
theorem dX4_needPerson_18 : decode cX4_needPerson 18 = .ok (.invokespecial 213, 3) := by decide +kernel
theorem dX4_needPerson_21 : decode cX4_needPerson 21 = .ok (.athrow, 1) := by decide +kernel
theorem dX4_needPerson_22 : decode cX4_needPerson 22 = .ok (.return_, 1) := by decide +kernel
set_option maxRecDepth 20000 in
theorem ggX4_needGroup_X4_isGroup : GoodIn wsX4_needGroup wsX4_isGroup := goodIn_r _ [6] (by decide +kernel) (by decide +kernel)
set_option maxRecDepth 20000 in
theorem gX4_needGroup_X4_isGroup : GoodIn wsX4_needGroup (va_wsS RX4 37 yX4_isGroup wsX4_isGroup) := goodIn_app (goodIn_of _ (by decide +kernel)) ggX4_needGroup_X4_isGroup
theorem dX4_needGroup_0 : decode cX4_needGroup 0 = .ok (.iload_n 0, 1) := by decide +kernel
theorem dX4_needGroup_1 : decode cX4_needGroup 1 = .ok (.invokestatic 37, 3) := by decide +kernel
theorem dX4_needGroup_4 : decode cX4_needGroup 4 = .ok (.ifCond .ne 13, 3) := by decide +kernel
theorem dX4_needGroup_7 : decode cX4_needGroup 7 = .ok (.new 209, 3) := by decide +kernel
theorem dX4_needGroup_10 : decode cX4_needGroup 10 = .ok (.dup, 1) := by decide +kernel
theorem dX4_needGroup_11 : decode cX4_needGroup 11 = .ok (.ldc 43, 2) := by decide +kernel
theorem dX4_needGroup_13 : decode cX4_needGroup 13 = .ok (.invokespecial 213, 3) := by decide +kernel
theorem dX4_needGroup_16 : decode cX4_needGroup 16 = .ok (.athrow, 1) := by decide +kernel
theorem dX4_needGroup_17 : decode cX4_needGroup 17 = .ok (.return_, 1) := by decide +kernel
theorem dX4_needSalt_0 : decode cX4_needSalt 0 = .ok (.iload_n 0, 1) := by decide +kernel
theorem dX4_needSalt_1 : decode cX4_needSalt 1 = .ok (.ifCond .lt 10, 3) := by decide +kernel
theorem dX4_needSalt_4 : decode cX4_needSalt 4 = .ok (.iload_n 0, 1) := by decide +kernel
theorem dX4_needSalt_5 : decode cX4_needSalt 5 = .ok (.sipush 9999, 3) := by decide +kernel
theorem dX4_needSalt_8 : decode cX4_needSalt 8 = .ok (.if_icmp .le 14, 3) := by decide +kernel
theorem dX4_needSalt_11 : decode cX4_needSalt 11 = .ok (.new 41, 3) := by decide +kernel
theorem dX4_needSalt_14 : decode cX4_needSalt 14 = .ok (.dup, 1) := by decide +kernel
theorem dX4_needSalt_15 : decode cX4_needSalt 15 = .ok (.ldc_w 275, 3) := by decide +kernel
theorem dX4_needSalt_18 : decode cX4_needSalt 18 = .ok (.invokespecial 45, 3) := by decide +kernel
theorem dX4_needSalt_21 : decode cX4_needSalt 21 = .ok (.athrow, 1) := by decide +kernel
theorem dX4_needSalt_22 : decode cX4_needSalt 22 = .ok (.return_, 1) := by decide +kernel
theorem dX4_needShare_0 : decode cX4_needShare 0 = .ok (.iload_n 0, 1) := by decide +kernel
theorem dX4_needShare_1 : decode cX4_needShare 1 = .ok (.ifCond .lt 9, 3) := by decide +kernel
theorem dX4_needShare_4 : decode cX4_needShare 4 = .ok (.iload_n 0, 1) := by decide +kernel
theorem dX4_needShare_5 : decode cX4_needShare 5 = .ok (.bipush 100, 2) := by decide +kernel
theorem dX4_needShare_7 : decode cX4_needShare 7 = .ok (.if_icmp .le 14, 3) := by decide +kernel
theorem dX4_needShare_10 : decode cX4_needShare 10 = .ok (.new 41, 3) := by decide +kernel
theorem dX4_needShare_13 : decode cX4_needShare 13 = .ok (.dup, 1) := by decide +kernel
theorem dX4_needShare_14 : decode cX4_needShare 14 = .ok (.ldc_w 277, 3) := by decide +kernel
theorem dX4_needShare_17 : decode cX4_needShare 17 = .ok (.invokespecial 45, 3) := by decide +kernel
theorem dX4_needShare_20 : decode cX4_needShare 20 = .ok (.athrow, 1) := by decide +kernel
theorem dX4_needShare_21 : decode cX4_needShare 21 = .ok (.return_, 1) := by decide +kernel
theorem dX4_isGroup_0 : decode cX4_isGroup 0 = .ok (.iload_n 0, 1) := by decide +kernel
theorem dX4_isGroup_1 : decode cX4_isGroup 1 = .ok (.ifCond .lt 12, 3) := by decide +kernel
theorem dX4_isGroup_4 : decode cX4_isGroup 4 = .ok (.iload_n 0, 1) := by decide +kernel
theorem dX4_isGroup_5 : decode cX4_isGroup 5 = .ok (.iconst 3, 1) := by decide +kernel
theorem dX4_isGroup_6 : decode cX4_isGroup 6 = .ok (.if_icmp .ge 7, 3) := by decide +kernel
theorem dX4_isGroup_9 : decode cX4_isGroup 9 = .ok (.iconst 1, 1) := by decide +kernel
theorem dX4_isGroup_10 : decode cX4_isGroup 10 = .ok (.goto 4, 3) := by decide +kernel
theorem dX4_isGroup_13 : decode cX4_isGroup 13 = .ok (.iconst 0, 1) := by decide +kernel
theorem dX4_isGroup_14 : decode cX4_isGroup 14 = .ok (.ireturn, 1) := by decide +kernel
theorem dX4_isCounted_0 : decode cX4_isCounted 0 = .ok (.iload_n 0, 1) := by decide +kernel
theorem dX4_isCounted_1 : decode cX4_isCounted 1 = .ok (.ifCond .lt 9, 3) := by decide +kernel
theorem dX4_isCounted_4 : decode cX4_isCounted 4 = .ok (.iload_n 0, 1) := by decide +kernel
theorem dX4_isCounted_5 : decode cX4_isCounted 5 = .ok (.bipush 8, 2) := by decide +kernel
theorem dX4_isCounted_7 : decode cX4_isCounted 7 = .ok (.if_icmp .le 27, 3) := by decide +kernel
theorem dX4_isCounted_10 : decode cX4_isCounted 10 = .ok (.iload_n 0, 1) := by decide +kernel
theorem dX4_isCounted_11 : decode cX4_isCounted 11 = .ok (.bipush 10, 2) := by decide +kernel
theorem dX4_isCounted_13 : decode cX4_isCounted 13 = .ok (.if_icmp .lt 9, 3) := by decide +kernel
theorem dX4_isCounted_16 : decode cX4_isCounted 16 = .ok (.iload_n 0, 1) := by decide +kernel
theorem dX4_isCounted_17 : decode cX4_isCounted 17 = .ok (.bipush 12, 2) := by decide +kernel
theorem dX4_isCounted_19 : decode cX4_isCounted 19 = .ok (.if_icmp .le 15, 3) := by decide +kernel
theorem dX4_isCounted_22 : decode cX4_isCounted 22 = .ok (.iload_n 0, 1) := by decide +kernel
theorem dX4_isCounted_23 : decode cX4_isCounted 23 = .ok (.bipush 20, 2) := by decide +kernel
theorem dX4_isCounted_25 : decode cX4_isCounted 25 = .ok (.if_icmp .lt 13, 3) := by decide +kernel
theorem dX4_isCounted_28 : decode cX4_isCounted 28 = .ok (.iload_n 0, 1) := by decide +kernel
theorem dX4_isCounted_29 : decode cX4_isCounted 29 = .ok (.bipush 22, 2) := by decide +kernel
theorem dX4_isCounted_31 : decode cX4_isCounted 31 = .ok (.if_icmp .gt 7, 3) := by decide +kernel
theorem dX4_isCounted_34 : decode cX4_isCounted 34 = .ok (.iconst 1, 1) := by decide +kernel
theorem dX4_isCounted_35 : decode cX4_isCounted 35 = .ok (.goto 4, 3) := by decide +kernel
theorem dX4_isCounted_38 : decode cX4_isCounted 38 = .ok (.iconst 0, 1) := by decide +kernel
theorem dX4_isCounted_39 : decode cX4_isCounted 39 = .ok (.ireturn, 1) := by decide +kernel
theorem dX4_bucketBy_0 : decode cX4_bucketBy 0 = .ok (.iload_n 0, 1) := by decide +kernel
theorem dX4_bucketBy_1 : decode cX4_bucketBy 1 = .ok (.ldc_w 279, 3) := by decide +kernel
theorem dX4_bucketBy_4 : decode cX4_bucketBy 4 = .ok (.imul, 1) := by decide +kernel
theorem dX4_bucketBy_5 : decode cX4_bucketBy 5 = .ok (.iload_n 1, 1) := by decide +kernel
theorem dX4_bucketBy_6 : decode cX4_bucketBy 6 = .ok (.ldc_w 280, 3) := by decide +kernel
theorem dX4_bucketBy_9 : decode cX4_bucketBy 9 = .ok (.imul, 1) := by decide +kernel
theorem dX4_bucketBy_10 : decode cX4_bucketBy 10 = .ok (.iadd, 1) := by decide +kernel
theorem dX4_bucketBy_11 : decode cX4_bucketBy 11 = .ok (.istore_n 2, 1) := by decide +kernel
theorem dX4_bucketBy_12 : decode cX4_bucketBy 12 = .ok (.iload_n 2, 1) := by decide +kernel
theorem dX4_bucketBy_13 : decode cX4_bucketBy 13 = .ok (.iload_n 2, 1) := by decide +kernel
theorem dX4_bucketBy_14 : decode cX4_bucketBy 14 = .ok (.bipush 15, 2) := by decide +kernel
theorem dX4_bucketBy_16 : decode cX4_bucketBy 16 = .ok (.iushr, 1) := by decide +kernel
theorem dX4_bucketBy_17 : decode cX4_bucketBy 17 = .ok (.ixor, 1) := by decide +kernel
theorem dX4_bucketBy_18 : decode cX4_bucketBy 18 = .ok (.istore_n 2, 1) := by decide +kernel
theorem dX4_bucketBy_19 : decode cX4_bucketBy 19 = .ok (.iload_n 2, 1) := by decide +kernel
theorem dX4_bucketBy_20 : decode cX4_bucketBy 20 = .ok (.ldc_w 281, 3) := by decide +kernel
theorem dX4_bucketBy_23 : decode cX4_bucketBy 23 = .ok (.imul, 1) := by decide +kernel
theorem dX4_bucketBy_24 : decode cX4_bucketBy 24 = .ok (.istore_n 2, 1) := by decide +kernel
theorem dX4_bucketBy_25 : decode cX4_bucketBy 25 = .ok (.iload_n 2, 1) := by decide +kernel
theorem dX4_bucketBy_26 : decode cX4_bucketBy 26 = .ok (.iload_n 2, 1) := by decide +kernel
theorem dX4_bucketBy_27 : decode cX4_bucketBy 27 = .ok (.bipush 13, 2) := by decide +kernel
theorem dX4_bucketBy_29 : decode cX4_bucketBy 29 = .ok (.iushr, 1) := by decide +kernel
theorem dX4_bucketBy_30 : decode cX4_bucketBy 30 = .ok (.ixor, 1) := by decide +kernel
theorem dX4_bucketBy_31 : decode cX4_bucketBy 31 = .ok (.istore_n 2, 1) := by decide +kernel
theorem dX4_bucketBy_32 : decode cX4_bucketBy 32 = .ok (.iload_n 2, 1) := by decide +kernel
theorem dX4_bucketBy_33 : decode cX4_bucketBy 33 = .ok (.ldc_w 282, 3) := by decide +kernel
theorem dX4_bucketBy_36 : decode cX4_bucketBy 36 = .ok (.imul, 1) := by decide +kernel
theorem dX4_bucketBy_37 : decode cX4_bucketBy 37 = .ok (.istore_n 2, 1) := by decide +kernel
theorem dX4_bucketBy_38 : decode cX4_bucketBy 38 = .ok (.iload_n 2, 1) := by decide +kernel
theorem dX4_bucketBy_39 : decode cX4_bucketBy 39 = .ok (.iload_n 2, 1) := by decide +kernel
theorem dX4_bucketBy_40 : decode cX4_bucketBy 40 = .ok (.bipush 16, 2) := by decide +kernel
theorem dX4_bucketBy_42 : decode cX4_bucketBy 42 = .ok (.iushr, 1) := by decide +kernel
theorem dX4_bucketBy_43 : decode cX4_bucketBy 43 = .ok (.ixor, 1) := by decide +kernel
theorem dX4_bucketBy_44 : decode cX4_bucketBy 44 = .ok (.istore_n 2, 1) := by decide +kernel
theorem dX4_bucketBy_45 : decode cX4_bucketBy 45 = .ok (.iload_n 2, 1) := by decide +kernel
theorem dX4_bucketBy_46 : decode cX4_bucketBy 46 = .ok (.ldc_w 283, 3) := by decide +kernel
theorem dX4_bucketBy_49 : decode cX4_bucketBy 49 = .ok (.iand, 1) := by decide +kernel
theorem dX4_bucketBy_50 : decode cX4_bucketBy 50 = .ok (.bipush 100, 2) := by decide +kernel
theorem dX4_bucketBy_52 : decode cX4_bucketBy 52 = .ok (.irem, 1) := by decide +kernel
theorem dX4_bucketBy_53 : decode cX4_bucketBy 53 = .ok (.ireturn, 1) := by decide +kernel
set_option maxRecDepth 20000 in
theorem ggX4_carryOutAll_X0_restart : GoodIn wsX4_carryOutAll wsX0_restart := goodIn_r _ [6, 7, 8, 186, 187, 188, 189, 190, 191, 192] (by decide +kernel) (by decide +kernel)
set_option maxRecDepth 20000 in
theorem gX4_carryOutAll_X0_restart : GoodIn wsX4_carryOutAll (wsV RX4 284 RX0 yX0_restart wsX0_restart) := goodIn_app (goodIn_of _ (by decide +kernel)) ggX4_carryOutAll_X0_restart
set_option maxRecDepth 20000 in
theorem ggX4_carryOutAll_X0_readCommand : GoodIn wsX4_carryOutAll wsX0_readCommand := goodIn_r _ [12, 7, 13, 14, 15, 16, 17, 5, 18, 8, 19, 20, 21, 22, 23, 24, 25, 26, 27, 28, 29, 30, 31, 32, 33, 34, 35, 36, 37, 38, 39, 40, 41, 42, 43, 44, 45, 46, 47, 48, 49, 50, 51, 52, 53, 54, 55, 56, 186, 187, 188, 189, 190, 191, 192] (by decide +kernel) (by decide +kernel)
set_option maxRecDepth 20000 in
theorem gX4_carryOutAll_X0_readCommand : GoodIn wsX4_carryOutAll (wsV RX4 287 RX0 yX0_readCommand wsX0_readCommand) := goodIn_app (goodIn_of _ (by decide +kernel)) ggX4_carryOutAll_X0_readCommand
set_option maxRecDepth 20000 in
theorem ggX4_carryOutAll_X4_carryOut : GoodIn wsX4_carryOutAll wsX4_carryOut := goodIn_r _ [61, 1, 62, 63, 64, 65, 66, 67, 68, 69, 70, 71, 72, 73, 74, 75, 76, 77, 78, 79, 80, 81, 82, 83, 84, 85, 86, 87, 60, 88, 89, 90, 91, 92, 93, 94, 95, 96, 97, 98, 99, 100, 101, 102, 103, 104, 105, 106, 107, 108, 109, 110, 111, 112, 113, 114, 115, 116, 117, 118, 119, 120, 121, 122, 123, 124, 125, 126, 127, 128, 129, 130, 131, 132, 133, 134, 135, 136, 137, 138, 139, 140, 141, 142, 143, 144, 145, 146, 147, 148, 149, 150, 151, 152, 153, 154, 155, 156, 157, 158, 159, 160, 161, 162, 163, 164, 165, 166, 167, 168, 169, 170, 171, 172, 173, 174, 175, 176, 177, 178, 179, 180, 181, 182, 183, 184, 185, 186, 187, 188, 189, 190, 191, 192, 193, 194, 195, 196, 197, 198, 199, 200, 201, 202, 203, 204, 205, 206, 207] (by decide +kernel) (by decide +kernel)
set_option maxRecDepth 20000 in
theorem gX4_carryOutAll_X4_carryOut : GoodIn wsX4_carryOutAll (wsV RX4 290 RX4 yX4_carryOut wsX4_carryOut) := goodIn_app (goodIn_of _ (by decide +kernel)) ggX4_carryOutAll_X4_carryOut
theorem dX4_carryOutAll_0 : decode cX4_carryOutAll 0 = .ok (.aload_n 0, 1) := by decide +kernel
theorem dX4_carryOutAll_1 : decode cX4_carryOutAll 1 = .ok (.getfield 33, 3) := by decide +kernel
theorem dX4_carryOutAll_4 : decode cX4_carryOutAll 4 = .ok (.invokevirtual 284, 3) := by decide +kernel
theorem dX4_carryOutAll_7 : decode cX4_carryOutAll 7 = .ok (.iconst 0, 1) := by decide +kernel
theorem dX4_carryOutAll_8 : decode cX4_carryOutAll 8 = .ok (.istore_n 1, 1) := by decide +kernel
theorem dX4_carryOutAll_9 : decode cX4_carryOutAll 9 = .ok (.iload_n 1, 1) := by decide +kernel
theorem dX4_carryOutAll_10 : decode cX4_carryOutAll 10 = .ok (.bipush 60, 2) := by decide +kernel
theorem dX4_carryOutAll_12 : decode cX4_carryOutAll 12 = .ok (.if_icmp .ge 26, 3) := by decide +kernel
theorem dX4_carryOutAll_15 : decode cX4_carryOutAll 15 = .ok (.aload_n 0, 1) := by decide +kernel
theorem dX4_carryOutAll_16 : decode cX4_carryOutAll 16 = .ok (.getfield 33, 3) := by decide +kernel
theorem dX4_carryOutAll_19 : decode cX4_carryOutAll 19 = .ok (.invokevirtual 287, 3) := by decide +kernel
theorem dX4_carryOutAll_22 : decode cX4_carryOutAll 22 = .ok (.ifCond .eq 16, 3) := by decide +kernel
theorem dX4_carryOutAll_25 : decode cX4_carryOutAll 25 = .ok (.aload_n 0, 1) := by decide +kernel
theorem dX4_carryOutAll_26 : decode cX4_carryOutAll 26 = .ok (.invokevirtual 290, 3) := by decide +kernel
theorem dX4_carryOutAll_29 : decode cX4_carryOutAll 29 = .ok (.ifCond .eq 9, 3) := by decide +kernel
theorem dX4_carryOutAll_32 : decode cX4_carryOutAll 32 = .ok (.iinc 1 1, 3) := by decide +kernel
theorem dX4_carryOutAll_35 : decode cX4_carryOutAll 35 = .ok (.goto (-26), 3) := by decide +kernel
theorem dX4_carryOutAll_38 : decode cX4_carryOutAll 38 = .ok (.iload_n 1, 1) := by decide +kernel
theorem dX4_carryOutAll_39 : decode cX4_carryOutAll 39 = .ok (.ireturn, 1) := by decide +kernel
set_option maxRecDepth 20000 in
theorem ggX4_carryOut_X3_tryRaise : GoodIn wsX4_carryOut wsX3_tryRaise := goodIn_r _ [10, 11, 12, 13, 9, 14, 15, 16, 17, 18, 19, 20, 21, 22, 23, 24, 25, 26, 27, 28, 29, 30, 31, 32, 33, 34, 35, 36, 37, 38, 39, 40, 41, 42, 134, 135, 136, 137, 138, 139, 140, 141, 142, 143, 144, 145, 146, 147, 148] (by decide +kernel) (by decide +kernel)
set_option maxRecDepth 20000 in
theorem gX4_carryOut_X3_tryRaise : GoodIn wsX4_carryOut (wsV RX4 302 RX3 yX3_tryRaise wsX3_tryRaise) := goodIn_app (goodIn_of _ (by decide +kernel)) ggX4_carryOut_X3_tryRaise
set_option maxRecDepth 20000 in
theorem ggX4_carryOut_X3_tryLower : GoodIn wsX4_carryOut wsX3_tryLower := goodIn_r _ [46, 47, 48, 49, 9, 50, 15, 17, 18, 19, 20, 21, 22, 23, 24, 25, 26, 51, 52, 53, 54, 16, 27, 28, 29, 55, 56, 57, 58, 34, 134, 135, 136, 137, 138, 139, 140, 141, 142, 143, 144, 145, 146, 147, 148] (by decide +kernel) (by decide +kernel)
set_option maxRecDepth 20000 in
theorem gX4_carryOut_X3_tryLower : GoodIn wsX4_carryOut (wsV RX4 305 RX3 yX3_tryLower wsX3_tryLower) := goodIn_app (goodIn_of _ (by decide +kernel)) ggX4_carryOut_X3_tryLower
set_option maxRecDepth 20000 in
theorem ggX4_carryOut_X3_tryHold : GoodIn wsX4_carryOut wsX3_tryHold := goodIn_r _ [62, 17, 18, 19, 9, 20, 21, 22, 23, 24, 25, 26, 63, 64, 65, 66, 67, 68, 69, 70, 71, 72, 134, 135, 136, 137, 138, 139, 140, 141, 142, 143, 144, 145, 146, 147, 148] (by decide +kernel) (by decide +kernel)
set_option maxRecDepth 20000 in
theorem gX4_carryOut_X3_tryHold : GoodIn wsX4_carryOut (wsV RX4 308 RX3 yX3_tryHold wsX3_tryHold) := goodIn_app (goodIn_of _ (by decide +kernel)) ggX4_carryOut_X3_tryHold
set_option maxRecDepth 20000 in
theorem ggX4_carryOut_X3_tryClose : GoodIn wsX4_carryOut wsX3_tryClose := goodIn_r _ [76, 17, 18, 19, 9, 20, 21, 22, 23, 24, 25, 26, 77, 78, 79, 80, 51, 52, 53, 54, 16, 15, 27, 28, 29, 55, 56, 57, 58, 34, 134, 135, 136, 137, 138, 139, 140, 141, 142, 143, 144, 145, 146, 147, 148] (by decide +kernel) (by decide +kernel)
set_option maxRecDepth 20000 in
theorem gX4_carryOut_X3_tryClose : GoodIn wsX4_carryOut (wsV RX4 312 RX3 yX3_tryClose wsX3_tryClose) := goodIn_app (goodIn_of _ (by decide +kernel)) ggX4_carryOut_X3_tryClose
set_option maxRecDepth 20000 in
theorem ggX4_carryOut_X3_letPass : GoodIn wsX4_carryOut wsX3_letPass := goodIn_r _ [84, 85, 86, 87, 88, 89, 90, 91, 92, 9, 93, 94, 95, 96, 97, 16, 98, 99, 27, 28, 29, 100, 101, 102, 103, 21, 68, 67, 104, 105, 106, 107, 108, 109, 110, 111, 112, 113, 114, 115, 34, 15, 116, 117, 118, 119, 120, 121, 122, 134, 135, 136, 137, 138, 139, 140, 141, 142, 143, 144, 145, 146, 147, 148] (by decide +kernel) (by decide +kernel)
set_option maxRecDepth 20000 in
theorem gX4_carryOut_X3_letPass : GoodIn wsX4_carryOut (wsV RX4 152 RX3 yX3_letPass wsX3_letPass) := goodIn_app (goodIn_of _ (by decide +kernel)) ggX4_carryOut_X3_letPass
theorem dX4_carryOut_0 : decode cX4_carryOut 0 = .ok (.aload_n 0, 1) := by decide +kernel
theorem dX4_carryOut_1 : decode cX4_carryOut 1 = .ok (.getfield 33, 3) := by decide +kernel
theorem dX4_carryOut_4 : decode cX4_carryOut 4 = .ok (.getfield 293, 3) := by decide +kernel
theorem dX4_carryOut_7 : decode cX4_carryOut 7 = .ok (.lookupswitch 178 #[(43, 57), (45, 79), (100, 162), (105, 101), (111, 124), (120, 147)], 57) := by decide +kernel
theorem dX4_carryOut_64 : decode cX4_carryOut 64 = .ok (.aload_n 0, 1) := by decide +kernel
theorem dX4_carryOut_65 : decode cX4_carryOut 65 = .ok (.getfield 10, 3) := by decide +kernel
theorem dX4_carryOut_68 : decode cX4_carryOut 68 = .ok (.aload_n 0, 1) := by decide +kernel
theorem dX4_carryOut_69 : decode cX4_carryOut 69 = .ok (.getfield 33, 3) := by decide +kernel
theorem dX4_carryOut_72 : decode cX4_carryOut 72 = .ok (.getfield 296, 3) := by decide +kernel
theorem dX4_carryOut_75 : decode cX4_carryOut 75 = .ok (.aload_n 0, 1) := by decide +kernel
theorem dX4_carryOut_76 : decode cX4_carryOut 76 = .ok (.getfield 33, 3) := by decide +kernel
theorem dX4_carryOut_79 : decode cX4_carryOut 79 = .ok (.getfield 299, 3) := by decide +kernel
theorem dX4_carryOut_82 : decode cX4_carryOut 82 = .ok (.invokevirtual 302, 3) := by decide +kernel
theorem dX4_carryOut_85 : decode cX4_carryOut 85 = .ok (.ireturn, 1) := by decide +kernel
theorem dX4_carryOut_86 : decode cX4_carryOut 86 = .ok (.aload_n 0, 1) := by decide +kernel
theorem dX4_carryOut_87 : decode cX4_carryOut 87 = .ok (.getfield 10, 3) := by decide +kernel
theorem dX4_carryOut_90 : decode cX4_carryOut 90 = .ok (.aload_n 0, 1) := by decide +kernel
theorem dX4_carryOut_91 : decode cX4_carryOut 91 = .ok (.getfield 33, 3) := by decide +kernel
theorem dX4_carryOut_94 : decode cX4_carryOut 94 = .ok (.getfield 296, 3) := by decide +kernel
theorem dX4_carryOut_97 : decode cX4_carryOut 97 = .ok (.aload_n 0, 1) := by decide +kernel
theorem dX4_carryOut_98 : decode cX4_carryOut 98 = .ok (.getfield 33, 3) := by decide +kernel
theorem dX4_carryOut_101 : decode cX4_carryOut 101 = .ok (.getfield 299, 3) := by decide +kernel
theorem dX4_carryOut_104 : decode cX4_carryOut 104 = .ok (.invokevirtual 305, 3) := by decide +kernel
theorem dX4_carryOut_107 : decode cX4_carryOut 107 = .ok (.ireturn, 1) := by decide +kernel
theorem dX4_carryOut_108 : decode cX4_carryOut 108 = .ok (.aload_n 0, 1) := by decide +kernel
theorem dX4_carryOut_109 : decode cX4_carryOut 109 = .ok (.getfield 10, 3) := by decide +kernel
theorem dX4_carryOut_112 : decode cX4_carryOut 112 = .ok (.aload_n 0, 1) := by decide +kernel
theorem dX4_carryOut_113 : decode cX4_carryOut 113 = .ok (.getfield 33, 3) := by decide +kernel
theorem dX4_carryOut_116 : decode cX4_carryOut 116 = .ok (.getfield 299, 3) := by decide +kernel
theorem dX4_carryOut_119 : decode cX4_carryOut 119 = .ok (.aload_n 0, 1) := by decide +kernel
theorem dX4_carryOut_120 : decode cX4_carryOut 120 = .ok (.getfield 33, 3) := by decide +kernel
theorem dX4_carryOut_123 : decode cX4_carryOut 123 = .ok (.getfield 296, 3) := by decide +kernel
theorem dX4_carryOut_126 : decode cX4_carryOut 126 = .ok (.iconst 1, 1) := by decide +kernel
theorem dX4_carryOut_127 : decode cX4_carryOut 127 = .ok (.invokevirtual 308, 3) := by decide +kernel
theorem dX4_carryOut_130 : decode cX4_carryOut 130 = .ok (.ireturn, 1) := by decide +kernel
theorem dX4_carryOut_131 : decode cX4_carryOut 131 = .ok (.aload_n 0, 1) := by decide +kernel
theorem dX4_carryOut_132 : decode cX4_carryOut 132 = .ok (.getfield 10, 3) := by decide +kernel
theorem dX4_carryOut_135 : decode cX4_carryOut 135 = .ok (.aload_n 0, 1) := by decide +kernel
theorem dX4_carryOut_136 : decode cX4_carryOut 136 = .ok (.getfield 33, 3) := by decide +kernel
theorem dX4_carryOut_139 : decode cX4_carryOut 139 = .ok (.getfield 299, 3) := by decide +kernel
theorem dX4_carryOut_142 : decode cX4_carryOut 142 = .ok (.aload_n 0, 1) := by decide +kernel
theorem dX4_carryOut_143 : decode cX4_carryOut 143 = .ok (.getfield 33, 3) := by decide +kernel
theorem dX4_carryOut_146 : decode cX4_carryOut 146 = .ok (.getfield 296, 3) := by decide +kernel
theorem dX4_carryOut_149 : decode cX4_carryOut 149 = .ok (.iconst 0, 1) := by decide +kernel
theorem dX4_carryOut_150 : decode cX4_carryOut 150 = .ok (.invokevirtual 308, 3) := by decide +kernel
theorem dX4_carryOut_153 : decode cX4_carryOut 153 = .ok (.ireturn, 1) := by decide +kernel
theorem dX4_carryOut_154 : decode cX4_carryOut 154 = .ok (.aload_n 0, 1) := by decide +kernel
theorem dX4_carryOut_155 : decode cX4_carryOut 155 = .ok (.getfield 10, 3) := by decide +kernel
theorem dX4_carryOut_158 : decode cX4_carryOut 158 = .ok (.aload_n 0, 1) := by decide +kernel
theorem dX4_carryOut_159 : decode cX4_carryOut 159 = .ok (.getfield 33, 3) := by decide +kernel
theorem dX4_carryOut_162 : decode cX4_carryOut 162 = .ok (.getfield 296, 3) := by decide +kernel
theorem dX4_carryOut_165 : decode cX4_carryOut 165 = .ok (.invokevirtual 312, 3) := by decide +kernel
theorem dX4_carryOut_168 : decode cX4_carryOut 168 = .ok (.ireturn, 1) := by decide +kernel
theorem dX4_carryOut_169 : decode cX4_carryOut 169 = .ok (.aload_n 0, 1) := by decide +kernel
theorem dX4_carryOut_170 : decode cX4_carryOut 170 = .ok (.getfield 10, 3) := by decide +kernel
theorem dX4_carryOut_173 : decode cX4_carryOut 173 = .ok (.aload_n 0, 1) := by decide +kernel
theorem dX4_carryOut_174 : decode cX4_carryOut 174 = .ok (.getfield 33, 3) := by decide +kernel
theorem dX4_carryOut_177 : decode cX4_carryOut 177 = .ok (.getfield 299, 3) := by decide +kernel
theorem dX4_carryOut_180 : decode cX4_carryOut 180 = .ok (.invokevirtual 152, 3) := by decide +kernel
theorem dX4_carryOut_183 : decode cX4_carryOut 183 = .ok (.iconst 1, 1) := by decide +kernel
theorem dX4_carryOut_184 : decode cX4_carryOut 184 = .ok (.ireturn, 1) := by decide +kernel
theorem dX4_carryOut_185 : decode cX4_carryOut 185 = .ok (.iconst 0, 1) := by decide +kernel
theorem dX4_carryOut_186 : decode cX4_carryOut 186 = .ok (.ireturn, 1) := by decide +kernel
set_option maxRecDepth 20000 in
theorem ggX4_numberOf_X4_isGroup : GoodIn wsX4_numberOf wsX4_isGroup := goodIn_r _ [8] (by decide +kernel) (by decide +kernel)
set_option maxRecDepth 20000 in
theorem gX4_numberOf_X4_isGroup : GoodIn wsX4_numberOf (va_wsS RX4 37 yX4_isGroup wsX4_isGroup) := goodIn_app (goodIn_of _ (by decide +kernel)) ggX4_numberOf_X4_isGroup
set_option maxRecDepth 20000 in
theorem ggX4_numberOf_X3_freeBuckets : GoodIn wsX4_numberOf wsX3_freeBuckets := goodIn_r _ [13, 14, 92, 93, 94, 95, 96, 97, 98, 99, 100, 101, 102, 103, 104, 105, 106] (by decide +kernel) (by decide +kernel)
set_option maxRecDepth 20000 in
theorem gX4_numberOf_X3_freeBuckets : GoodIn wsX4_numberOf (wsV RX4 315 RX3 yX3_freeBuckets wsX3_freeBuckets) := goodIn_app (goodIn_of _ (by decide +kernel)) ggX4_numberOf_X3_freeBuckets
set_option maxRecDepth 20000 in
theorem ggX4_numberOf_X3_number : GoodIn wsX4_numberOf wsX3_number := goodIn_r _ [18, 19, 20, 21, 22, 23, 24, 25, 26, 27, 28, 29, 30, 31, 32, 12, 33, 34, 35, 36, 37, 38, 39, 40, 41, 42, 43, 44, 6, 7, 8, 45, 46, 47, 48, 49, 50, 51, 52, 53, 54, 55, 56, 57, 58, 59, 60, 61, 62, 63, 14, 64, 65, 66, 67, 68, 69, 70, 71, 72, 73, 74, 75, 76, 77, 78, 79, 80, 81, 82, 83, 84, 92, 93, 94, 95, 96, 97, 98, 99, 100, 101, 102, 103, 104, 105, 106] (by decide +kernel) (by decide +kernel)
set_option maxRecDepth 20000 in
theorem gX4_numberOf_X3_number : GoodIn wsX4_numberOf (wsV RX4 318 RX3 yX3_number wsX3_number) := goodIn_app (goodIn_of _ (by decide +kernel)) ggX4_numberOf_X3_number
theorem dX4_numberOf_0 : decode cX4_numberOf 0 = .ok (.iload_n 1, 1) := by decide +kernel
theorem dX4_numberOf_1 : decode cX4_numberOf 1 = .ok (.bipush 8, 2) := by decide +kernel
theorem dX4_numberOf_3 : decode cX4_numberOf 3 = .ok (.if_icmp .ne 11, 3) := by decide +kernel
theorem dX4_numberOf_6 : decode cX4_numberOf 6 = .ok (.aload_n 0, 1) := by decide +kernel
theorem dX4_numberOf_7 : decode cX4_numberOf 7 = .ok (.getfield 19, 3) := by decide +kernel
theorem dX4_numberOf_10 : decode cX4_numberOf 10 = .ok (.getfield 181, 3) := by decide +kernel
theorem dX4_numberOf_13 : decode cX4_numberOf 13 = .ok (.ireturn, 1) := by decide +kernel
theorem dX4_numberOf_14 : decode cX4_numberOf 14 = .ok (.iload_n 1, 1) := by decide +kernel
theorem dX4_numberOf_15 : decode cX4_numberOf 15 = .ok (.bipush 10, 2) := by decide +kernel
theorem dX4_numberOf_17 : decode cX4_numberOf 17 = .ok (.isub, 1) := by decide +kernel
theorem dX4_numberOf_18 : decode cX4_numberOf 18 = .ok (.invokestatic 37, 3) := by decide +kernel
theorem dX4_numberOf_21 : decode cX4_numberOf 21 = .ok (.ifCond .eq 16, 3) := by decide +kernel
theorem dX4_numberOf_24 : decode cX4_numberOf 24 = .ok (.aload_n 0, 1) := by decide +kernel
theorem dX4_numberOf_25 : decode cX4_numberOf 25 = .ok (.getfield 10, 3) := by decide +kernel
theorem dX4_numberOf_28 : decode cX4_numberOf 28 = .ok (.getfield 126, 3) := by decide +kernel
theorem dX4_numberOf_31 : decode cX4_numberOf 31 = .ok (.iload_n 1, 1) := by decide +kernel
theorem dX4_numberOf_32 : decode cX4_numberOf 32 = .ok (.bipush 10, 2) := by decide +kernel
theorem dX4_numberOf_34 : decode cX4_numberOf 34 = .ok (.isub, 1) := by decide +kernel
theorem dX4_numberOf_35 : decode cX4_numberOf 35 = .ok (.iaload, 1) := by decide +kernel
theorem dX4_numberOf_36 : decode cX4_numberOf 36 = .ok (.ireturn, 1) := by decide +kernel
theorem dX4_numberOf_37 : decode cX4_numberOf 37 = .ok (.iload_n 1, 1) := by decide +kernel
theorem dX4_numberOf_38 : decode cX4_numberOf 38 = .ok (.bipush 20, 2) := by decide +kernel
theorem dX4_numberOf_40 : decode cX4_numberOf 40 = .ok (.isub, 1) := by decide +kernel
theorem dX4_numberOf_41 : decode cX4_numberOf 41 = .ok (.invokestatic 37, 3) := by decide +kernel
theorem dX4_numberOf_44 : decode cX4_numberOf 44 = .ok (.ifCond .eq 15, 3) := by decide +kernel
theorem dX4_numberOf_47 : decode cX4_numberOf 47 = .ok (.aload_n 0, 1) := by decide +kernel
theorem dX4_numberOf_48 : decode cX4_numberOf 48 = .ok (.getfield 10, 3) := by decide +kernel
theorem dX4_numberOf_51 : decode cX4_numberOf 51 = .ok (.iload_n 1, 1) := by decide +kernel
theorem dX4_numberOf_52 : decode cX4_numberOf 52 = .ok (.bipush 20, 2) := by decide +kernel
theorem dX4_numberOf_54 : decode cX4_numberOf 54 = .ok (.isub, 1) := by decide +kernel
theorem dX4_numberOf_55 : decode cX4_numberOf 55 = .ok (.invokevirtual 315, 3) := by decide +kernel
theorem dX4_numberOf_58 : decode cX4_numberOf 58 = .ok (.ireturn, 1) := by decide +kernel
theorem dX4_numberOf_59 : decode cX4_numberOf 59 = .ok (.aload_n 0, 1) := by decide +kernel
theorem dX4_numberOf_60 : decode cX4_numberOf 60 = .ok (.getfield 10, 3) := by decide +kernel
theorem dX4_numberOf_63 : decode cX4_numberOf 63 = .ok (.iload_n 1, 1) := by decide +kernel
theorem dX4_numberOf_64 : decode cX4_numberOf 64 = .ok (.invokevirtual 318, 3) := by decide +kernel
theorem dX4_numberOf_67 : decode cX4_numberOf 67 = .ok (.ireturn, 1) := by decide +kernel
set_option maxRecDepth 20000 in
theorem ggX4_bestSaltFrom_X3_isOpenBread : GoodIn wsX4_bestSaltFrom wsX3_isOpenBread := goodIn_r _ [6, 7, 8, 9, 10, 5, 11, 12, 50, 51, 52, 53, 54, 55, 56, 57, 58, 59, 60, 61, 62, 63, 64] (by decide +kernel) (by decide +kernel)
set_option maxRecDepth 20000 in
theorem gX4_bestSaltFrom_X3_isOpenBread : GoodIn wsX4_bestSaltFrom (wsV RX4 268 RX3 yX3_isOpenBread wsX3_isOpenBread) := goodIn_app (goodIn_of _ (by decide +kernel)) ggX4_bestSaltFrom_X3_isOpenBread
set_option maxRecDepth 20000 in
theorem ggX4_bestSaltFrom_X3_isInGroup : GoodIn wsX4_bestSaltFrom wsX3_isInGroup := goodIn_r _ [16, 17, 18, 19, 20, 50, 51, 52, 53, 54, 55, 56, 57, 58, 59, 60, 61, 62, 63, 64] (by decide +kernel) (by decide +kernel)
set_option maxRecDepth 20000 in
theorem gX4_bestSaltFrom_X3_isInGroup : GoodIn wsX4_bestSaltFrom (wsV RX4 111 RX3 yX3_isInGroup wsX3_isInGroup) := goodIn_app (goodIn_of _ (by decide +kernel)) ggX4_bestSaltFrom_X3_isInGroup
set_option maxRecDepth 20000 in
theorem ggX4_bestSaltFrom_X3_eatersBy : GoodIn wsX4_bestSaltFrom wsX3_eatersBy := goodIn_r _ [24, 25, 26, 27, 5, 28, 7, 29, 30, 31, 32, 33, 19, 34, 35, 36, 37, 38, 39, 40, 41, 42, 43, 17, 44, 45, 50, 51, 52, 53, 54, 55, 56, 57, 58, 59, 60, 61, 62, 63, 64] (by decide +kernel) (by decide +kernel)
set_option maxRecDepth 20000 in
theorem gX4_bestSaltFrom_X3_eatersBy : GoodIn wsX4_bestSaltFrom (wsV RX4 320 RX3 yX3_eatersBy wsX3_eatersBy) := goodIn_app (goodIn_of _ (by decide +kernel)) ggX4_bestSaltFrom_X3_eatersBy
theorem dX4_bestSaltFrom_0 : decode cX4_bestSaltFrom 0 = .ok (.aload_n 0, 1) := by decide +kernel
theorem dX4_bestSaltFrom_1 : decode cX4_bestSaltFrom 1 = .ok (.getfield 10, 3) := by decide +kernel
theorem dX4_bestSaltFrom_4 : decode cX4_bestSaltFrom 4 = .ok (.iload_n 1, 1) := by decide +kernel
theorem dX4_bestSaltFrom_5 : decode cX4_bestSaltFrom 5 = .ok (.invokevirtual 268, 3) := by decide +kernel
theorem dX4_bestSaltFrom_8 : decode cX4_bestSaltFrom 8 = .ok (.ifCond .eq 14, 3) := by decide +kernel
theorem dX4_bestSaltFrom_11 : decode cX4_bestSaltFrom 11 = .ok (.aload_n 0, 1) := by decide +kernel
theorem dX4_bestSaltFrom_12 : decode cX4_bestSaltFrom 12 = .ok (.getfield 10, 3) := by decide +kernel
theorem dX4_bestSaltFrom_15 : decode cX4_bestSaltFrom 15 = .ok (.iload_n 1, 1) := by decide +kernel
theorem dX4_bestSaltFrom_16 : decode cX4_bestSaltFrom 16 = .ok (.invokevirtual 111, 3) := by decide +kernel
theorem dX4_bestSaltFrom_19 : decode cX4_bestSaltFrom 19 = .ok (.ifCond .eq 5, 3) := by decide +kernel
theorem dX4_bestSaltFrom_22 : decode cX4_bestSaltFrom 22 = .ok (.iconst (-1), 1) := by decide +kernel
theorem dX4_bestSaltFrom_23 : decode cX4_bestSaltFrom 23 = .ok (.ireturn, 1) := by decide +kernel
theorem dX4_bestSaltFrom_24 : decode cX4_bestSaltFrom 24 = .ok (.iconst (-1), 1) := by decide +kernel
theorem dX4_bestSaltFrom_25 : decode cX4_bestSaltFrom 25 = .ok (.istore_n 3, 1) := by decide +kernel
theorem dX4_bestSaltFrom_26 : decode cX4_bestSaltFrom 26 = .ok (.iconst (-1), 1) := by decide +kernel
theorem dX4_bestSaltFrom_27 : decode cX4_bestSaltFrom 27 = .ok (.istore 4, 2) := by decide +kernel
theorem dX4_bestSaltFrom_29 : decode cX4_bestSaltFrom 29 = .ok (.iload_n 2, 1) := by decide +kernel
theorem dX4_bestSaltFrom_30 : decode cX4_bestSaltFrom 30 = .ok (.istore 5, 2) := by decide +kernel
theorem dX4_bestSaltFrom_32 : decode cX4_bestSaltFrom 32 = .ok (.iload 5, 2) := by decide +kernel
theorem dX4_bestSaltFrom_34 : decode cX4_bestSaltFrom 34 = .ok (.iload_n 2, 1) := by decide +kernel
theorem dX4_bestSaltFrom_35 : decode cX4_bestSaltFrom 35 = .ok (.bipush 20, 2) := by decide +kernel
theorem dX4_bestSaltFrom_37 : decode cX4_bestSaltFrom 37 = .ok (.iadd, 1) := by decide +kernel
theorem dX4_bestSaltFrom_38 : decode cX4_bestSaltFrom 38 = .ok (.if_icmp .ge 43, 3) := by decide +kernel
theorem dX4_bestSaltFrom_41 : decode cX4_bestSaltFrom 41 = .ok (.iload 5, 2) := by decide +kernel
theorem dX4_bestSaltFrom_43 : decode cX4_bestSaltFrom 43 = .ok (.sipush 9999, 3) := by decide +kernel
theorem dX4_bestSaltFrom_46 : decode cX4_bestSaltFrom 46 = .ok (.if_icmp .gt 35, 3) := by decide +kernel
theorem dX4_bestSaltFrom_49 : decode cX4_bestSaltFrom 49 = .ok (.aload_n 0, 1) := by decide +kernel
theorem dX4_bestSaltFrom_50 : decode cX4_bestSaltFrom 50 = .ok (.getfield 10, 3) := by decide +kernel
theorem dX4_bestSaltFrom_53 : decode cX4_bestSaltFrom 53 = .ok (.iload_n 1, 1) := by decide +kernel
theorem dX4_bestSaltFrom_54 : decode cX4_bestSaltFrom 54 = .ok (.iload 5, 2) := by decide +kernel
theorem dX4_bestSaltFrom_56 : decode cX4_bestSaltFrom 56 = .ok (.invokevirtual 320, 3) := by decide +kernel
theorem dX4_bestSaltFrom_59 : decode cX4_bestSaltFrom 59 = .ok (.istore 6, 2) := by decide +kernel
theorem dX4_bestSaltFrom_61 : decode cX4_bestSaltFrom 61 = .ok (.iload 6, 2) := by decide +kernel
theorem dX4_bestSaltFrom_63 : decode cX4_bestSaltFrom 63 = .ok (.iload 4, 2) := by decide +kernel
theorem dX4_bestSaltFrom_65 : decode cX4_bestSaltFrom 65 = .ok (.if_icmp .le 10, 3) := by decide +kernel
theorem dX4_bestSaltFrom_68 : decode cX4_bestSaltFrom 68 = .ok (.iload 6, 2) := by decide +kernel
theorem dX4_bestSaltFrom_70 : decode cX4_bestSaltFrom 70 = .ok (.istore 4, 2) := by decide +kernel
theorem dX4_bestSaltFrom_72 : decode cX4_bestSaltFrom 72 = .ok (.iload 5, 2) := by decide +kernel
theorem dX4_bestSaltFrom_74 : decode cX4_bestSaltFrom 74 = .ok (.istore_n 3, 1) := by decide +kernel
theorem dX4_bestSaltFrom_75 : decode cX4_bestSaltFrom 75 = .ok (.iinc 5 1, 3) := by decide +kernel
theorem dX4_bestSaltFrom_78 : decode cX4_bestSaltFrom 78 = .ok (.goto (-46), 3) := by decide +kernel
theorem dX4_bestSaltFrom_81 : decode cX4_bestSaltFrom 81 = .ok (.iload_n 3, 1) := by decide +kernel
theorem dX4_bestSaltFrom_82 : decode cX4_bestSaltFrom 82 = .ok (.ireturn, 1) := by decide +kernel
set_option maxRecDepth 20000 in
theorem ggX4_partOf_X3_eaters : GoodIn wsX4_partOf wsX3_eaters := goodIn_r _ [7, 8, 9, 10, 6, 11, 12, 13, 14, 15, 16, 17, 18, 19, 20, 21, 22, 23, 24, 25, 26, 27, 28, 29, 30, 31, 32, 33, 34, 35, 36, 37, 38, 39, 40, 41, 42, 43, 48, 49, 50, 51, 52, 53, 54, 55, 56, 57, 58, 59, 60, 61, 62] (by decide +kernel) (by decide +kernel)
set_option maxRecDepth 20000 in
theorem gX4_partOf_X3_eaters : GoodIn wsX4_partOf (wsV RX4 95 RX3 yX3_eaters wsX3_eaters) := goodIn_app (goodIn_of _ (by decide +kernel)) ggX4_partOf_X3_eaters
theorem dX4_partOf_0 : decode cX4_partOf 0 = .ok (.aload_n 0, 1) := by decide +kernel
theorem dX4_partOf_1 : decode cX4_partOf 1 = .ok (.getfield 10, 3) := by decide +kernel
theorem dX4_partOf_4 : decode cX4_partOf 4 = .ok (.iload_n 1, 1) := by decide +kernel
theorem dX4_partOf_5 : decode cX4_partOf 5 = .ok (.invokevirtual 95, 3) := by decide +kernel
theorem dX4_partOf_8 : decode cX4_partOf 8 = .ok (.i2d, 1) := by decide +kernel
theorem dX4_partOf_9 : decode cX4_partOf 9 = .ok (.ldc2_w 323, 3) := by decide +kernel
theorem dX4_partOf_12 : decode cX4_partOf 12 = .ok (.ddiv, 1) := by decide +kernel
theorem dX4_partOf_13 : decode cX4_partOf 13 = .ok (.dreturn, 1) := by decide +kernel
set_option maxRecDepth 20000 in
theorem ggX4_hashWithBread_X3_breadProperty : GoodIn wsX4_hashWithBread wsX3_breadProperty := goodIn_r _ [8, 9, 10, 11, 12, 13, 14, 15, 16, 17, 18, 19, 7, 20, 21, 22, 23, 24, 25, 26, 27, 28, 29, 30, 31, 32, 33, 34, 35, 36, 37, 38, 39, 40, 41, 42, 43, 44, 45, 46, 47, 48, 49, 50, 51, 52, 53, 54, 55, 56, 57, 58, 59, 60, 61, 154, 155, 156, 157, 158, 159, 160, 161, 162, 163, 164, 165, 166, 167, 168] (by decide +kernel) (by decide +kernel)
set_option maxRecDepth 20000 in
theorem gX4_hashWithBread_X3_breadProperty : GoodIn wsX4_hashWithBread (wsV RX4 201 RX3 yX3_breadProperty wsX3_breadProperty) := goodIn_app (goodIn_of _ (by decide +kernel)) ggX4_hashWithBread_X3_breadProperty
set_option maxRecDepth 20000 in
theorem ggX4_hashWithBread_X3_eatersOfBoth : GoodIn wsX4_hashWithBread wsX3_eatersOfBoth := goodIn_r _ [65, 66, 67, 68, 7, 69, 17, 18, 19, 20, 10, 21, 22, 23, 24, 25, 34, 35, 36, 37, 9, 16, 15, 12, 13, 38, 39, 40, 41, 42, 43, 44, 45, 46, 47, 48, 49, 11, 154, 155, 156, 157, 158, 159, 160, 161, 162, 163, 164, 165, 166, 167, 168] (by decide +kernel) (by decide +kernel)
set_option maxRecDepth 20000 in
theorem gX4_hashWithBread_X3_eatersOfBoth : GoodIn wsX4_hashWithBread (wsV RX4 225 RX3 yX3_eatersOfBoth wsX3_eatersOfBoth) := goodIn_app (goodIn_of _ (by decide +kernel)) ggX4_hashWithBread_X3_eatersOfBoth
set_option maxRecDepth 20000 in
theorem ggX4_hashWithBread_X2_eatersAt : GoodIn wsX4_hashWithBread wsX2_eatersAt := goodIn_r _ [74, 75, 76, 77, 78, 79, 80, 81, 7, 82, 9, 83, 84, 85, 86, 87, 88, 89, 90, 73, 91, 92, 93, 94, 95, 96, 97, 98, 99, 46, 47, 48, 10, 49, 11, 100, 101, 102, 103, 23, 24, 25, 104, 105, 106, 107, 108, 109, 18, 19, 20, 21, 22, 110, 111, 112, 113, 16, 15, 12, 13, 114, 115, 116, 117, 38, 39, 40, 41, 42, 43, 44, 169, 170, 171, 172, 173, 154, 155, 156, 157, 158, 159, 160, 161, 162, 163, 164, 165, 166, 167, 168] (by decide +kernel) (by decide +kernel)
set_option maxRecDepth 20000 in
theorem gX4_hashWithBread_X2_eatersAt : GoodIn wsX4_hashWithBread (wsV RX4 228 RX2 yX2_eatersAt wsX2_eatersAt) := goodIn_app (goodIn_of _ (by decide +kernel)) ggX4_hashWithBread_X2_eatersAt
set_option maxRecDepth 20000 in
theorem ggX4_hashWithBread_X2_leastShare : GoodIn wsX4_hashWithBread wsX2_leastShare := goodIn_r _ [121, 76, 75, 77, 78, 79, 80, 81, 7, 82, 9, 83, 84, 85, 86, 87, 88, 89, 90, 73, 91, 92, 93, 94, 95, 96, 97, 98, 99, 46, 47, 48, 10, 49, 11, 100, 101, 102, 103, 23, 24, 25, 104, 105, 106, 107, 108, 109, 18, 19, 20, 21, 22, 110, 111, 112, 113, 16, 15, 12, 13, 114, 115, 116, 117, 38, 39, 40, 41, 42, 43, 44, 169, 170, 171, 172, 173, 154, 155, 156, 157, 158, 159, 160, 161, 162, 163, 164, 165, 166, 167, 168] (by decide +kernel) (by decide +kernel)
set_option maxRecDepth 20000 in
theorem gX4_hashWithBread_X2_leastShare : GoodIn wsX4_hashWithBread (wsV RX4 234 RX2 yX2_leastShare wsX2_leastShare) := goodIn_app (goodIn_of _ (by decide +kernel)) ggX4_hashWithBread_X2_leastShare
set_option maxRecDepth 20000 in
theorem ggX4_hashWithBread_X4_bestSaltFrom : GoodIn wsX4_hashWithBread wsX4_bestSaltFrom := goodIn_r _ [125, 2, 126, 80, 81, 7, 82, 9, 83, 84, 85, 86, 87, 127, 128, 129, 130, 10, 23, 24, 25, 131, 31, 32, 33, 34, 35, 36, 37, 16, 15, 12, 13, 38, 39, 40, 41, 42, 43, 44, 45, 46, 47, 48, 49, 11, 150, 151, 152, 153, 154, 155, 156, 157, 158, 159, 160, 161, 162, 163, 164, 165, 166, 167, 168] (by decide +kernel) (by decide +kernel)
set_option maxRecDepth 20000 in
theorem gX4_hashWithBread_X4_bestSaltFrom : GoodIn wsX4_hashWithBread (wsV RX4 237 RX4 yX4_bestSaltFrom wsX4_bestSaltFrom) := goodIn_app (goodIn_of _ (by decide +kernel)) ggX4_hashWithBread_X4_bestSaltFrom
set_option maxRecDepth 20000 in
theorem ggX4_hashWithBread_X2_firstNewcomer : GoodIn wsX4_hashWithBread wsX2_firstNewcomer := goodIn_r _ [135, 98, 75, 77, 78, 108, 79, 80, 81, 7, 82, 9, 83, 84, 85, 86, 87, 88, 89, 90, 73, 91, 92, 93, 94, 95, 96, 97, 99, 46, 47, 48, 10, 49, 11, 100, 101, 102, 103, 23, 24, 25, 104, 105, 106, 107, 76, 109, 18, 19, 20, 21, 22, 110, 111, 112, 113, 16, 15, 12, 13, 114, 115, 116, 117, 38, 39, 40, 41, 42, 43, 44, 154, 155, 156, 157, 158, 159, 160, 161, 162, 163, 164, 165, 166, 167, 168, 169, 170, 171, 172, 173] (by decide +kernel) (by decide +kernel)
set_option maxRecDepth 20000 in
theorem gX4_hashWithBread_X2_firstNewcomer : GoodIn wsX4_hashWithBread (wsV RX4 240 RX2 yX2_firstNewcomer wsX2_firstNewcomer) := goodIn_app (goodIn_of _ (by decide +kernel)) ggX4_hashWithBread_X2_firstNewcomer
set_option maxRecDepth 20000 in
theorem ggX4_hashWithBread_X4_partOf : GoodIn wsX4_hashWithBread wsX4_partOf := goodIn_r _ [139, 2, 140, 141, 27, 28, 7, 29, 17, 18, 19, 20, 10, 21, 22, 23, 24, 25, 30, 31, 32, 33, 34, 35, 36, 37, 9, 16, 15, 12, 13, 38, 39, 40, 41, 42, 43, 44, 45, 46, 47, 48, 49, 11, 150, 151, 152, 153, 154, 155, 156, 157, 158, 159, 160, 161, 162, 163, 164, 165, 166, 167, 168] (by decide +kernel) (by decide +kernel)
set_option maxRecDepth 20000 in
theorem gX4_hashWithBread_X4_partOf : GoodIn wsX4_hashWithBread (wsV RX4 244 RX4 yX4_partOf wsX4_partOf) := goodIn_app (goodIn_of _ (by decide +kernel)) ggX4_hashWithBread_X4_partOf
set_option maxRecDepth 20000 in
theorem ggX4_hashWithBread_X4_bitsOf : GoodIn wsX4_hashWithBread wsX4_bitsOf := goodIn_r _ [144, 145, 146, 147] (by decide +kernel) (by decide +kernel)
set_option maxRecDepth 20000 in
theorem gX4_hashWithBread_X4_bitsOf : GoodIn wsX4_hashWithBread (va_wsS RX4 325 yX4_bitsOf wsX4_bitsOf) := goodIn_app (goodIn_of _ (by decide +kernel)) ggX4_hashWithBread_X4_bitsOf
set_option maxRecDepth 20000 in
theorem ggX4_hashWithBread_X3_saltOf : GoodIn wsX4_hashWithBread wsX3_saltOf := goodIn_r _ [20, 10, 21, 22, 23, 24, 25, 154, 155, 156, 157, 158, 159, 160, 161, 162, 163, 164, 165, 166, 167, 168] (by decide +kernel) (by decide +kernel)
set_option maxRecDepth 20000 in
theorem gX4_hashWithBread_X3_saltOf : GoodIn wsX4_hashWithBread (wsV RX4 189 RX3 yX3_saltOf wsX3_saltOf) := goodIn_app (goodIn_of _ (by decide +kernel)) ggX4_hashWithBread_X3_saltOf
set_option maxRecDepth 20000 in
theorem ggX4_hashWithBread_X3_reasonBy : GoodIn wsX4_hashWithBread wsX3_reasonBy := goodIn_r _ [37, 9, 16, 15, 12, 13, 38, 24, 39, 40, 41, 42, 43, 44, 45, 46, 47, 7, 48, 10, 49, 11, 154, 155, 156, 157, 158, 159, 160, 161, 162, 163, 164, 165, 166, 167, 168] (by decide +kernel) (by decide +kernel)
set_option maxRecDepth 20000 in
theorem gX4_hashWithBread_X3_reasonBy : GoodIn wsX4_hashWithBread (wsV RX4 192 RX3 yX3_reasonBy wsX3_reasonBy) := goodIn_app (goodIn_of _ (by decide +kernel)) ggX4_hashWithBread_X3_reasonBy
theorem dX4_hashWithBread_0 : decode cX4_hashWithBread 0 = .ok (.lload_n 1, 1) := by decide +kernel
theorem dX4_hashWithBread_1 : decode cX4_hashWithBread 1 = .ok (.lstore 4, 2) := by decide +kernel
theorem dX4_hashWithBread_3 : decode cX4_hashWithBread 3 = .ok (.iconst 0, 1) := by decide +kernel
theorem dX4_hashWithBread_4 : decode cX4_hashWithBread 4 = .ok (.istore 6, 2) := by decide +kernel
theorem dX4_hashWithBread_6 : decode cX4_hashWithBread 6 = .ok (.iload 6, 2) := by decide +kernel
theorem dX4_hashWithBread_8 : decode cX4_hashWithBread 8 = .ok (.bipush 11, 2) := by decide +kernel
theorem dX4_hashWithBread_10 : decode cX4_hashWithBread 10 = .ok (.if_icmp .gt 29, 3) := by decide +kernel
theorem dX4_hashWithBread_13 : decode cX4_hashWithBread 13 = .ok (.ldc2_w 250, 3) := by decide +kernel
theorem dX4_hashWithBread_16 : decode cX4_hashWithBread 16 = .ok (.lload 4, 2) := by decide +kernel
theorem dX4_hashWithBread_18 : decode cX4_hashWithBread 18 = .ok (.lmul, 1) := by decide +kernel
theorem dX4_hashWithBread_19 : decode cX4_hashWithBread 19 = .ok (.aload_n 0, 1) := by decide +kernel
theorem dX4_hashWithBread_20 : decode cX4_hashWithBread 20 = .ok (.getfield 10, 3) := by decide +kernel
theorem dX4_hashWithBread_23 : decode cX4_hashWithBread 23 = .ok (.iload_n 3, 1) := by decide +kernel
theorem dX4_hashWithBread_24 : decode cX4_hashWithBread 24 = .ok (.iload 6, 2) := by decide +kernel
theorem dX4_hashWithBread_26 : decode cX4_hashWithBread 26 = .ok (.invokevirtual 201, 3) := by decide +kernel
theorem dX4_hashWithBread_29 : decode cX4_hashWithBread 29 = .ok (.i2l, 1) := by decide +kernel
theorem dX4_hashWithBread_30 : decode cX4_hashWithBread 30 = .ok (.ladd, 1) := by decide +kernel
theorem dX4_hashWithBread_31 : decode cX4_hashWithBread 31 = .ok (.lstore 4, 2) := by decide +kernel
theorem dX4_hashWithBread_33 : decode cX4_hashWithBread 33 = .ok (.iinc 6 1, 3) := by decide +kernel
theorem dX4_hashWithBread_36 : decode cX4_hashWithBread 36 = .ok (.goto (-30), 3) := by decide +kernel
theorem dX4_hashWithBread_39 : decode cX4_hashWithBread 39 = .ok (.ldc2_w 250, 3) := by decide +kernel
theorem dX4_hashWithBread_42 : decode cX4_hashWithBread 42 = .ok (.lload 4, 2) := by decide +kernel
theorem dX4_hashWithBread_44 : decode cX4_hashWithBread 44 = .ok (.lmul, 1) := by decide +kernel
theorem dX4_hashWithBread_45 : decode cX4_hashWithBread 45 = .ok (.aload_n 0, 1) := by decide +kernel
theorem dX4_hashWithBread_46 : decode cX4_hashWithBread 46 = .ok (.getfield 10, 3) := by decide +kernel
theorem dX4_hashWithBread_49 : decode cX4_hashWithBread 49 = .ok (.iload_n 3, 1) := by decide +kernel
theorem dX4_hashWithBread_50 : decode cX4_hashWithBread 50 = .ok (.iconst 0, 1) := by decide +kernel
theorem dX4_hashWithBread_51 : decode cX4_hashWithBread 51 = .ok (.invokevirtual 225, 3) := by decide +kernel
theorem dX4_hashWithBread_54 : decode cX4_hashWithBread 54 = .ok (.i2l, 1) := by decide +kernel
theorem dX4_hashWithBread_55 : decode cX4_hashWithBread 55 = .ok (.ladd, 1) := by decide +kernel
theorem dX4_hashWithBread_56 : decode cX4_hashWithBread 56 = .ok (.lstore 4, 2) := by decide +kernel
theorem dX4_hashWithBread_58 : decode cX4_hashWithBread 58 = .ok (.ldc2_w 250, 3) := by decide +kernel
theorem dX4_hashWithBread_61 : decode cX4_hashWithBread 61 = .ok (.lload 4, 2) := by decide +kernel
theorem dX4_hashWithBread_63 : decode cX4_hashWithBread 63 = .ok (.lmul, 1) := by decide +kernel
theorem dX4_hashWithBread_64 : decode cX4_hashWithBread 64 = .ok (.aload_n 0, 1) := by decide +kernel
theorem dX4_hashWithBread_65 : decode cX4_hashWithBread 65 = .ok (.getfield 26, 3) := by decide +kernel
theorem dX4_hashWithBread_68 : decode cX4_hashWithBread 68 = .ok (.aload_n 0, 1) := by decide +kernel
theorem dX4_hashWithBread_69 : decode cX4_hashWithBread 69 = .ok (.getfield 10, 3) := by decide +kernel
theorem dX4_hashWithBread_72 : decode cX4_hashWithBread 72 = .ok (.iload_n 3, 1) := by decide +kernel
theorem dX4_hashWithBread_73 : decode cX4_hashWithBread 73 = .ok (.bipush 50, 2) := by decide +kernel
theorem dX4_hashWithBread_75 : decode cX4_hashWithBread 75 = .ok (.invokevirtual 228, 3) := by decide +kernel
theorem dX4_hashWithBread_78 : decode cX4_hashWithBread 78 = .ok (.i2l, 1) := by decide +kernel
theorem dX4_hashWithBread_79 : decode cX4_hashWithBread 79 = .ok (.ladd, 1) := by decide +kernel
theorem dX4_hashWithBread_80 : decode cX4_hashWithBread 80 = .ok (.lstore 4, 2) := by decide +kernel
theorem dX4_hashWithBread_82 : decode cX4_hashWithBread 82 = .ok (.ldc2_w 250, 3) := by decide +kernel
theorem dX4_hashWithBread_85 : decode cX4_hashWithBread 85 = .ok (.lload 4, 2) := by decide +kernel
theorem dX4_hashWithBread_87 : decode cX4_hashWithBread 87 = .ok (.lmul, 1) := by decide +kernel
theorem dX4_hashWithBread_88 : decode cX4_hashWithBread 88 = .ok (.aload_n 0, 1) := by decide +kernel
theorem dX4_hashWithBread_89 : decode cX4_hashWithBread 89 = .ok (.getfield 26, 3) := by decide +kernel
theorem dX4_hashWithBread_92 : decode cX4_hashWithBread 92 = .ok (.aload_n 0, 1) := by decide +kernel
theorem dX4_hashWithBread_93 : decode cX4_hashWithBread 93 = .ok (.getfield 10, 3) := by decide +kernel
theorem dX4_hashWithBread_96 : decode cX4_hashWithBread 96 = .ok (.iload_n 3, 1) := by decide +kernel
theorem dX4_hashWithBread_97 : decode cX4_hashWithBread 97 = .ok (.bipush 75, 2) := by decide +kernel
theorem dX4_hashWithBread_99 : decode cX4_hashWithBread 99 = .ok (.invokevirtual 234, 3) := by decide +kernel
theorem dX4_hashWithBread_102 : decode cX4_hashWithBread 102 = .ok (.i2l, 1) := by decide +kernel
theorem dX4_hashWithBread_103 : decode cX4_hashWithBread 103 = .ok (.ladd, 1) := by decide +kernel
theorem dX4_hashWithBread_104 : decode cX4_hashWithBread 104 = .ok (.lstore 4, 2) := by decide +kernel
theorem dX4_hashWithBread_106 : decode cX4_hashWithBread 106 = .ok (.ldc2_w 250, 3) := by decide +kernel
theorem dX4_hashWithBread_109 : decode cX4_hashWithBread 109 = .ok (.lload 4, 2) := by decide +kernel
theorem dX4_hashWithBread_111 : decode cX4_hashWithBread 111 = .ok (.lmul, 1) := by decide +kernel
theorem dX4_hashWithBread_112 : decode cX4_hashWithBread 112 = .ok (.aload_n 0, 1) := by decide +kernel
theorem dX4_hashWithBread_113 : decode cX4_hashWithBread 113 = .ok (.iload_n 3, 1) := by decide +kernel
theorem dX4_hashWithBread_114 : decode cX4_hashWithBread 114 = .ok (.bipush 100, 2) := by decide +kernel
theorem dX4_hashWithBread_116 : decode cX4_hashWithBread 116 = .ok (.invokevirtual 237, 3) := by decide +kernel
theorem dX4_hashWithBread_119 : decode cX4_hashWithBread 119 = .ok (.i2l, 1) := by decide +kernel
theorem dX4_hashWithBread_120 : decode cX4_hashWithBread 120 = .ok (.ladd, 1) := by decide +kernel
theorem dX4_hashWithBread_121 : decode cX4_hashWithBread 121 = .ok (.lstore 4, 2) := by decide +kernel
theorem dX4_hashWithBread_123 : decode cX4_hashWithBread 123 = .ok (.ldc2_w 250, 3) := by decide +kernel
theorem dX4_hashWithBread_126 : decode cX4_hashWithBread 126 = .ok (.lload 4, 2) := by decide +kernel
theorem dX4_hashWithBread_128 : decode cX4_hashWithBread 128 = .ok (.lmul, 1) := by decide +kernel
theorem dX4_hashWithBread_129 : decode cX4_hashWithBread 129 = .ok (.aload_n 0, 1) := by decide +kernel
theorem dX4_hashWithBread_130 : decode cX4_hashWithBread 130 = .ok (.getfield 26, 3) := by decide +kernel
theorem dX4_hashWithBread_133 : decode cX4_hashWithBread 133 = .ok (.aload_n 0, 1) := by decide +kernel
theorem dX4_hashWithBread_134 : decode cX4_hashWithBread 134 = .ok (.getfield 10, 3) := by decide +kernel
theorem dX4_hashWithBread_137 : decode cX4_hashWithBread 137 = .ok (.iload_n 3, 1) := by decide +kernel
theorem dX4_hashWithBread_138 : decode cX4_hashWithBread 138 = .ok (.invokevirtual 240, 3) := by decide +kernel
theorem dX4_hashWithBread_141 : decode cX4_hashWithBread 141 = .ok (.i2l, 1) := by decide +kernel
theorem dX4_hashWithBread_142 : decode cX4_hashWithBread 142 = .ok (.ladd, 1) := by decide +kernel
theorem dX4_hashWithBread_143 : decode cX4_hashWithBread 143 = .ok (.lstore 4, 2) := by decide +kernel
theorem dX4_hashWithBread_145 : decode cX4_hashWithBread 145 = .ok (.ldc2_w 250, 3) := by decide +kernel
theorem dX4_hashWithBread_148 : decode cX4_hashWithBread 148 = .ok (.lload 4, 2) := by decide +kernel
theorem dX4_hashWithBread_150 : decode cX4_hashWithBread 150 = .ok (.lmul, 1) := by decide +kernel
theorem dX4_hashWithBread_151 : decode cX4_hashWithBread 151 = .ok (.aload_n 0, 1) := by decide +kernel
theorem dX4_hashWithBread_152 : decode cX4_hashWithBread 152 = .ok (.iload_n 3, 1) := by decide +kernel
theorem dX4_hashWithBread_153 : decode cX4_hashWithBread 153 = .ok (.invokevirtual 244, 3) := by decide +kernel
theorem dX4_hashWithBread_156 : decode cX4_hashWithBread 156 = .ok (.invokestatic 325, 3) := by decide +kernel
theorem dX4_hashWithBread_159 : decode cX4_hashWithBread 159 = .ok (.ladd, 1) := by decide +kernel
theorem dX4_hashWithBread_160 : decode cX4_hashWithBread 160 = .ok (.lstore 4, 2) := by decide +kernel
theorem dX4_hashWithBread_162 : decode cX4_hashWithBread 162 = .ok (.aload_n 0, 1) := by decide +kernel
theorem dX4_hashWithBread_163 : decode cX4_hashWithBread 163 = .ok (.getfield 10, 3) := by decide +kernel
theorem dX4_hashWithBread_166 : decode cX4_hashWithBread 166 = .ok (.iload_n 3, 1) := by decide +kernel
theorem dX4_hashWithBread_167 : decode cX4_hashWithBread 167 = .ok (.invokevirtual 189, 3) := by decide +kernel
theorem dX4_hashWithBread_170 : decode cX4_hashWithBread 170 = .ok (.istore 6, 2) := by decide +kernel
theorem dX4_hashWithBread_172 : decode cX4_hashWithBread 172 = .ok (.iconst 0, 1) := by decide +kernel
theorem dX4_hashWithBread_173 : decode cX4_hashWithBread 173 = .ok (.istore 7, 2) := by decide +kernel
theorem dX4_hashWithBread_175 : decode cX4_hashWithBread 175 = .ok (.iload 7, 2) := by decide +kernel
theorem dX4_hashWithBread_177 : decode cX4_hashWithBread 177 = .ok (.sipush 150, 3) := by decide +kernel
theorem dX4_hashWithBread_180 : decode cX4_hashWithBread 180 = .ok (.if_icmp .ge 31, 3) := by decide +kernel
theorem dX4_hashWithBread_183 : decode cX4_hashWithBread 183 = .ok (.ldc2_w 250, 3) := by decide +kernel
theorem dX4_hashWithBread_186 : decode cX4_hashWithBread 186 = .ok (.lload 4, 2) := by decide +kernel
theorem dX4_hashWithBread_188 : decode cX4_hashWithBread 188 = .ok (.lmul, 1) := by decide +kernel
theorem dX4_hashWithBread_189 : decode cX4_hashWithBread 189 = .ok (.aload_n 0, 1) := by decide +kernel
theorem dX4_hashWithBread_190 : decode cX4_hashWithBread 190 = .ok (.getfield 10, 3) := by decide +kernel
theorem dX4_hashWithBread_193 : decode cX4_hashWithBread 193 = .ok (.iload 7, 2) := by decide +kernel
theorem dX4_hashWithBread_195 : decode cX4_hashWithBread 195 = .ok (.iload_n 3, 1) := by decide +kernel
theorem dX4_hashWithBread_196 : decode cX4_hashWithBread 196 = .ok (.iload 6, 2) := by decide +kernel
theorem dX4_hashWithBread_198 : decode cX4_hashWithBread 198 = .ok (.invokevirtual 192, 3) := by decide +kernel
theorem dX4_hashWithBread_201 : decode cX4_hashWithBread 201 = .ok (.i2l, 1) := by decide +kernel
theorem dX4_hashWithBread_202 : decode cX4_hashWithBread 202 = .ok (.ladd, 1) := by decide +kernel
theorem dX4_hashWithBread_203 : decode cX4_hashWithBread 203 = .ok (.lstore 4, 2) := by decide +kernel
theorem dX4_hashWithBread_205 : decode cX4_hashWithBread 205 = .ok (.iinc 7 1, 3) := by decide +kernel
theorem dX4_hashWithBread_208 : decode cX4_hashWithBread 208 = .ok (.goto (-33), 3) := by decide +kernel
theorem dX4_hashWithBread_211 : decode cX4_hashWithBread 211 = .ok (.lload 4, 2) := by decide +kernel
theorem dX4_hashWithBread_213 : decode cX4_hashWithBread 213 = .ok (.lreturn, 1) := by decide +kernel
set_option maxRecDepth 20000 in
theorem ggX4_hashWithPersons_X3_personProperty : GoodIn wsX4_hashWithPersons wsX3_personProperty := goodIn_r _ [7, 8, 9, 10, 11, 12, 13, 14, 6, 15, 16, 17, 18, 19, 20, 21, 22, 23, 24, 25, 26, 27, 28, 29, 30, 31, 32, 33, 34, 35, 36, 37, 38, 39, 40, 41, 42, 43, 44, 49, 50, 51, 52, 53, 54, 55, 56, 57, 58, 59, 60, 61, 62, 63] (by decide +kernel) (by decide +kernel)
set_option maxRecDepth 20000 in
theorem gX4_hashWithPersons_X3_personProperty : GoodIn wsX4_hashWithPersons (wsV RX4 206 RX3 yX3_personProperty wsX3_personProperty) := goodIn_app (goodIn_of _ (by decide +kernel)) ggX4_hashWithPersons_X3_personProperty
theorem dX4_hashWithPersons_0 : decode cX4_hashWithPersons 0 = .ok (.lload_n 1, 1) := by decide +kernel
theorem dX4_hashWithPersons_1 : decode cX4_hashWithPersons 1 = .ok (.lstore_n 3, 1) := by decide +kernel
theorem dX4_hashWithPersons_2 : decode cX4_hashWithPersons 2 = .ok (.iconst 0, 1) := by decide +kernel
theorem dX4_hashWithPersons_3 : decode cX4_hashWithPersons 3 = .ok (.istore 5, 2) := by decide +kernel
theorem dX4_hashWithPersons_5 : decode cX4_hashWithPersons 5 = .ok (.iload 5, 2) := by decide +kernel
theorem dX4_hashWithPersons_7 : decode cX4_hashWithPersons 7 = .ok (.sipush 150, 3) := by decide +kernel
theorem dX4_hashWithPersons_10 : decode cX4_hashWithPersons 10 = .ok (.if_icmp .ge 43, 3) := by decide +kernel
theorem dX4_hashWithPersons_13 : decode cX4_hashWithPersons 13 = .ok (.iconst 0, 1) := by decide +kernel
theorem dX4_hashWithPersons_14 : decode cX4_hashWithPersons 14 = .ok (.istore 6, 2) := by decide +kernel
theorem dX4_hashWithPersons_16 : decode cX4_hashWithPersons 16 = .ok (.iload 6, 2) := by decide +kernel
theorem dX4_hashWithPersons_18 : decode cX4_hashWithPersons 18 = .ok (.iconst 4, 1) := by decide +kernel
theorem dX4_hashWithPersons_19 : decode cX4_hashWithPersons 19 = .ok (.if_icmp .gt 28, 3) := by decide +kernel
theorem dX4_hashWithPersons_22 : decode cX4_hashWithPersons 22 = .ok (.ldc2_w 250, 3) := by decide +kernel
theorem dX4_hashWithPersons_25 : decode cX4_hashWithPersons 25 = .ok (.lload_n 3, 1) := by decide +kernel
theorem dX4_hashWithPersons_26 : decode cX4_hashWithPersons 26 = .ok (.lmul, 1) := by decide +kernel
theorem dX4_hashWithPersons_27 : decode cX4_hashWithPersons 27 = .ok (.aload_n 0, 1) := by decide +kernel
theorem dX4_hashWithPersons_28 : decode cX4_hashWithPersons 28 = .ok (.getfield 10, 3) := by decide +kernel
theorem dX4_hashWithPersons_31 : decode cX4_hashWithPersons 31 = .ok (.iload 5, 2) := by decide +kernel
theorem dX4_hashWithPersons_33 : decode cX4_hashWithPersons 33 = .ok (.iload 6, 2) := by decide +kernel
theorem dX4_hashWithPersons_35 : decode cX4_hashWithPersons 35 = .ok (.invokevirtual 206, 3) := by decide +kernel
theorem dX4_hashWithPersons_38 : decode cX4_hashWithPersons 38 = .ok (.i2l, 1) := by decide +kernel
theorem dX4_hashWithPersons_39 : decode cX4_hashWithPersons 39 = .ok (.ladd, 1) := by decide +kernel
theorem dX4_hashWithPersons_40 : decode cX4_hashWithPersons 40 = .ok (.lstore_n 3, 1) := by decide +kernel
theorem dX4_hashWithPersons_41 : decode cX4_hashWithPersons 41 = .ok (.iinc 6 1, 3) := by decide +kernel
theorem dX4_hashWithPersons_44 : decode cX4_hashWithPersons 44 = .ok (.goto (-28), 3) := by decide +kernel
theorem dX4_hashWithPersons_47 : decode cX4_hashWithPersons 47 = .ok (.iinc 5 1, 3) := by decide +kernel
theorem dX4_hashWithPersons_50 : decode cX4_hashWithPersons 50 = .ok (.goto (-45), 3) := by decide +kernel
theorem dX4_hashWithPersons_53 : decode cX4_hashWithPersons 53 = .ok (.lload_n 3, 1) := by decide +kernel
theorem dX4_hashWithPersons_54 : decode cX4_hashWithPersons 54 = .ok (.lreturn, 1) := by decide +kernel
theorem dX4_bitsOf_0 : decode cX4_bitsOf 0 = .ok (.dload_n 0, 1) := by decide +kernel
theorem dX4_bitsOf_1 : decode cX4_bitsOf 1 = .ok (.dconst 0, 1) := by decide +kernel
theorem dX4_bitsOf_2 : decode cX4_bitsOf 2 = .ok (.dcmp .g, 1) := by decide +kernel
theorem dX4_bitsOf_3 : decode cX4_bitsOf 3 = .ok (.ifCond .gt 5, 3) := by decide +kernel
theorem dX4_bitsOf_6 : decode cX4_bitsOf 6 = .ok (.lconst 0, 1) := by decide +kernel
theorem dX4_bitsOf_7 : decode cX4_bitsOf 7 = .ok (.lreturn, 1) := by decide +kernel
theorem dX4_bitsOf_8 : decode cX4_bitsOf 8 = .ok (.dload_n 0, 1) := by decide +kernel
theorem dX4_bitsOf_9 : decode cX4_bitsOf 9 = .ok (.dstore_n 2, 1) := by decide +kernel
theorem dX4_bitsOf_10 : decode cX4_bitsOf 10 = .ok (.ldc2_w 329, 3) := by decide +kernel
theorem dX4_bitsOf_13 : decode cX4_bitsOf 13 = .ok (.lstore 4, 2) := by decide +kernel
theorem dX4_bitsOf_15 : decode cX4_bitsOf 15 = .ok (.iconst 0, 1) := by decide +kernel
theorem dX4_bitsOf_16 : decode cX4_bitsOf 16 = .ok (.istore 6, 2) := by decide +kernel
theorem dX4_bitsOf_18 : decode cX4_bitsOf 18 = .ok (.iload 6, 2) := by decide +kernel
theorem dX4_bitsOf_20 : decode cX4_bitsOf 20 = .ok (.bipush 64, 2) := by decide +kernel
theorem dX4_bitsOf_22 : decode cX4_bitsOf 22 = .ok (.if_icmp .ge 27, 3) := by decide +kernel
theorem dX4_bitsOf_25 : decode cX4_bitsOf 25 = .ok (.dload_n 2, 1) := by decide +kernel
theorem dX4_bitsOf_26 : decode cX4_bitsOf 26 = .ok (.dconst 1, 1) := by decide +kernel
theorem dX4_bitsOf_27 : decode cX4_bitsOf 27 = .ok (.dcmp .g, 1) := by decide +kernel
theorem dX4_bitsOf_28 : decode cX4_bitsOf 28 = .ok (.ifCond .ge 21, 3) := by decide +kernel
theorem dX4_bitsOf_31 : decode cX4_bitsOf 31 = .ok (.dload_n 2, 1) := by decide +kernel
theorem dX4_bitsOf_32 : decode cX4_bitsOf 32 = .ok (.ldc2_w 331, 3) := by decide +kernel
theorem dX4_bitsOf_35 : decode cX4_bitsOf 35 = .ok (.dmul, 1) := by decide +kernel
theorem dX4_bitsOf_36 : decode cX4_bitsOf 36 = .ok (.dstore_n 2, 1) := by decide +kernel
theorem dX4_bitsOf_37 : decode cX4_bitsOf 37 = .ok (.lload 4, 2) := by decide +kernel
theorem dX4_bitsOf_39 : decode cX4_bitsOf 39 = .ok (.lconst 1, 1) := by decide +kernel
theorem dX4_bitsOf_40 : decode cX4_bitsOf 40 = .ok (.lsub, 1) := by decide +kernel
theorem dX4_bitsOf_41 : decode cX4_bitsOf 41 = .ok (.lstore 4, 2) := by decide +kernel
theorem dX4_bitsOf_43 : decode cX4_bitsOf 43 = .ok (.iinc 6 1, 3) := by decide +kernel
theorem dX4_bitsOf_46 : decode cX4_bitsOf 46 = .ok (.goto (-28), 3) := by decide +kernel
theorem dX4_bitsOf_49 : decode cX4_bitsOf 49 = .ok (.dload_n 2, 1) := by decide +kernel
theorem dX4_bitsOf_50 : decode cX4_bitsOf 50 = .ok (.dconst 1, 1) := by decide +kernel
theorem dX4_bitsOf_51 : decode cX4_bitsOf 51 = .ok (.dsub, 1) := by decide +kernel
theorem dX4_bitsOf_52 : decode cX4_bitsOf 52 = .ok (.ldc2_w 333, 3) := by decide +kernel
theorem dX4_bitsOf_55 : decode cX4_bitsOf 55 = .ok (.dmul, 1) := by decide +kernel
theorem dX4_bitsOf_56 : decode cX4_bitsOf 56 = .ok (.d2l, 1) := by decide +kernel
theorem dX4_bitsOf_57 : decode cX4_bitsOf 57 = .ok (.lstore 6, 2) := by decide +kernel
theorem dX4_bitsOf_59 : decode cX4_bitsOf 59 = .ok (.lload 4, 2) := by decide +kernel
theorem dX4_bitsOf_61 : decode cX4_bitsOf 61 = .ok (.bipush 52, 2) := by decide +kernel
theorem dX4_bitsOf_63 : decode cX4_bitsOf 63 = .ok (.lshl, 1) := by decide +kernel
theorem dX4_bitsOf_64 : decode cX4_bitsOf 64 = .ok (.lload 6, 2) := by decide +kernel
theorem dX4_bitsOf_66 : decode cX4_bitsOf 66 = .ok (.ladd, 1) := by decide +kernel
theorem dX4_bitsOf_67 : decode cX4_bitsOf 67 = .ok (.lreturn, 1) := by decide +kernel
