theorem dX5_init_0 : decode cX5_init 0 = .ok (.aload_n 0, 1) := by decide +kernel
theorem dX5_init_1 : decode cX5_init 1 = .ok (.invokespecial 1, 3) := by decide +kernel
theorem dX5_init_4 : decode cX5_init 4 = .ok (.aload_n 0, 1) := by decide +kernel
theorem dX5_init_5 : decode cX5_init 5 = .ok (.sipush 954, 3) := by decide +kernel
theorem dX5_init_8 : decode cX5_init 8 = .ok (.newarray .int, 2) := by decide +kernel
theorem dX5_init_10 : decode cX5_init 10 = .ok (.putfield 7, 3) := by decide +kernel
theorem dX5_init_13 : decode cX5_init 13 = .ok (.aload_n 0, 1) := by decide +kernel
theorem dX5_init_14 : decode cX5_init 14 = .ok (.sipush 5724, 3) := by decide +kernel
theorem dX5_init_17 : decode cX5_init 17 = .ok (.newarray .int, 2) := by decide +kernel
theorem dX5_init_19 : decode cX5_init 19 = .ok (.putfield 13, 3) := by decide +kernel
theorem dX5_init_22 : decode cX5_init 22 = .ok (.aload_n 0, 1) := by decide +kernel
theorem dX5_init_23 : decode cX5_init 23 = .ok (.bipush 60, 2) := by decide +kernel
theorem dX5_init_25 : decode cX5_init 25 = .ok (.newarray .int, 2) := by decide +kernel
theorem dX5_init_27 : decode cX5_init 27 = .ok (.putfield 16, 3) := by decide +kernel
theorem dX5_init_30 : decode cX5_init 30 = .ok (.aload_n 0, 1) := by decide +kernel
theorem dX5_init_31 : decode cX5_init 31 = .ok (.sipush 150, 3) := by decide +kernel
theorem dX5_init_34 : decode cX5_init 34 = .ok (.newarray .int, 2) := by decide +kernel
theorem dX5_init_36 : decode cX5_init 36 = .ok (.putfield 19, 3) := by decide +kernel
theorem dX5_init_39 : decode cX5_init 39 = .ok (.aload_n 0, 1) := by decide +kernel
theorem dX5_init_40 : decode cX5_init 40 = .ok (.bipush 72, 2) := by decide +kernel
theorem dX5_init_42 : decode cX5_init 42 = .ok (.newarray .int, 2) := by decide +kernel
theorem dX5_init_44 : decode cX5_init 44 = .ok (.putfield 22, 3) := by decide +kernel
theorem dX5_init_47 : decode cX5_init 47 = .ok (.aload_n 0, 1) := by decide +kernel
theorem dX5_init_48 : decode cX5_init 48 = .ok (.sipush 300, 3) := by decide +kernel
theorem dX5_init_51 : decode cX5_init 51 = .ok (.newarray .int, 2) := by decide +kernel
theorem dX5_init_53 : decode cX5_init 53 = .ok (.putfield 25, 3) := by decide +kernel
theorem dX5_init_56 : decode cX5_init 56 = .ok (.aload_n 0, 1) := by decide +kernel
theorem dX5_init_57 : decode cX5_init 57 = .ok (.getfield 7, 3) := by decide +kernel
theorem dX5_init_60 : decode cX5_init 60 = .ok (.iconst 2, 1) := by decide +kernel
theorem dX5_init_61 : decode cX5_init 61 = .ok (.bipush 11, 2) := by decide +kernel
theorem dX5_init_63 : decode cX5_init 63 = .ok (.iastore, 1) := by decide +kernel
theorem dX5_init_64 : decode cX5_init 64 = .ok (.aload_n 0, 1) := by decide +kernel
theorem dX5_init_65 : decode cX5_init 65 = .ok (.getfield 7, 3) := by decide +kernel
theorem dX5_init_68 : decode cX5_init 68 = .ok (.iconst 3, 1) := by decide +kernel
theorem dX5_init_69 : decode cX5_init 69 = .ok (.bipush 22, 2) := by decide +kernel
theorem dX5_init_71 : decode cX5_init 71 = .ok (.iastore, 1) := by decide +kernel
theorem dX5_init_72 : decode cX5_init 72 = .ok (.aload_n 0, 1) := by decide +kernel
theorem dX5_init_73 : decode cX5_init 73 = .ok (.getfield 7, 3) := by decide +kernel
theorem dX5_init_76 : decode cX5_init 76 = .ok (.iconst 4, 1) := by decide +kernel
theorem dX5_init_77 : decode cX5_init 77 = .ok (.bipush 33, 2) := by decide +kernel
theorem dX5_init_79 : decode cX5_init 79 = .ok (.iastore, 1) := by decide +kernel
theorem dX5_init_80 : decode cX5_init 80 = .ok (.iconst 0, 1) := by decide +kernel
theorem dX5_init_81 : decode cX5_init 81 = .ok (.istore_n 1, 1) := by decide +kernel
theorem dX5_init_82 : decode cX5_init 82 = .ok (.iload_n 1, 1) := by decide +kernel
theorem dX5_init_83 : decode cX5_init 83 = .ok (.sipush 300, 3) := by decide +kernel
theorem dX5_init_86 : decode cX5_init 86 = .ok (.if_icmp .ge 19, 3) := by decide +kernel
theorem dX5_init_89 : decode cX5_init 89 = .ok (.aload_n 0, 1) := by decide +kernel
theorem dX5_init_90 : decode cX5_init 90 = .ok (.getfield 7, 3) := by decide +kernel
theorem dX5_init_93 : decode cX5_init 93 = .ok (.bipush 53, 2) := by decide +kernel
theorem dX5_init_95 : decode cX5_init 95 = .ok (.iload_n 1, 1) := by decide +kernel
theorem dX5_init_96 : decode cX5_init 96 = .ok (.iadd, 1) := by decide +kernel
theorem dX5_init_97 : decode cX5_init 97 = .ok (.iconst (-1), 1) := by decide +kernel
theorem dX5_init_98 : decode cX5_init 98 = .ok (.iastore, 1) := by decide +kernel
theorem dX5_init_99 : decode cX5_init 99 = .ok (.iinc 1 1, 3) := by decide +kernel
theorem dX5_init_102 : decode cX5_init 102 = .ok (.goto (-20), 3) := by decide +kernel
theorem dX5_init_105 : decode cX5_init 105 = .ok (.return_, 1) := by decide +kernel
theorem dX5_thrown_0 : decode cX5_thrown 0 = .ok (.aload_n 0, 1) := by decide +kernel
theorem dX5_thrown_1 : decode cX5_thrown 1 = .ok (.getfield 28, 3) := by decide +kernel
theorem dX5_thrown_4 : decode cX5_thrown 4 = .ok (.ireturn, 1) := by decide +kernel
theorem dX5_within_0 : decode cX5_within 0 = .ok (.iload_n 0, 1) := by decide +kernel
theorem dX5_within_1 : decode cX5_within 1 = .ok (.iload_n 1, 1) := by decide +kernel
theorem dX5_within_2 : decode cX5_within 2 = .ok (.if_icmp .lt 12, 3) := by decide +kernel
theorem dX5_within_5 : decode cX5_within 5 = .ok (.iload_n 0, 1) := by decide +kernel
theorem dX5_within_6 : decode cX5_within 6 = .ok (.iload_n 2, 1) := by decide +kernel
theorem dX5_within_7 : decode cX5_within 7 = .ok (.if_icmp .gt 7, 3) := by decide +kernel
theorem dX5_within_10 : decode cX5_within 10 = .ok (.iconst 1, 1) := by decide +kernel
theorem dX5_within_11 : decode cX5_within 11 = .ok (.goto 4, 3) := by decide +kernel
theorem dX5_within_14 : decode cX5_within 14 = .ok (.iconst 0, 1) := by decide +kernel
theorem dX5_within_15 : decode cX5_within 15 = .ok (.ireturn, 1) := by decide +kernel
theorem dX5_save_0 : decode cX5_save 0 = .ok (.aload_n 0, 1) := by decide +kernel
theorem dX5_save_1 : decode cX5_save 1 = .ok (.getfield 32, 3) := by decide +kernel
theorem dX5_save_4 : decode cX5_save 4 = .ok (.bipush 6, 2) := by decide +kernel
theorem dX5_save_6 : decode cX5_save 6 = .ok (.if_icmp .ne 46, 3) := by decide +kernel
theorem dX5_save_9 : decode cX5_save 9 = .ok (.sipush 954, 3) := by decide +kernel
theorem dX5_save_12 : decode cX5_save 12 = .ok (.istore_n 1, 1) := by decide +kernel
theorem dX5_save_13 : decode cX5_save 13 = .ok (.iload_n 1, 1) := by decide +kernel
theorem dX5_save_14 : decode cX5_save 14 = .ok (.sipush 5724, 3) := by decide +kernel
theorem dX5_save_17 : decode cX5_save 17 = .ok (.if_icmp .ge 25, 3) := by decide +kernel
theorem dX5_save_20 : decode cX5_save 20 = .ok (.aload_n 0, 1) := by decide +kernel
theorem dX5_save_21 : decode cX5_save 21 = .ok (.getfield 13, 3) := by decide +kernel
theorem dX5_save_24 : decode cX5_save 24 = .ok (.iload_n 1, 1) := by decide +kernel
theorem dX5_save_25 : decode cX5_save 25 = .ok (.sipush 954, 3) := by decide +kernel
theorem dX5_save_28 : decode cX5_save 28 = .ok (.isub, 1) := by decide +kernel
theorem dX5_save_29 : decode cX5_save 29 = .ok (.aload_n 0, 1) := by decide +kernel
theorem dX5_save_30 : decode cX5_save 30 = .ok (.getfield 13, 3) := by decide +kernel
theorem dX5_save_33 : decode cX5_save 33 = .ok (.iload_n 1, 1) := by decide +kernel
theorem dX5_save_34 : decode cX5_save 34 = .ok (.iaload, 1) := by decide +kernel
theorem dX5_save_35 : decode cX5_save 35 = .ok (.iastore, 1) := by decide +kernel
theorem dX5_save_36 : decode cX5_save 36 = .ok (.iinc 1 1, 3) := by decide +kernel
theorem dX5_save_39 : decode cX5_save 39 = .ok (.goto (-26), 3) := by decide +kernel
theorem dX5_save_42 : decode cX5_save 42 = .ok (.aload_n 0, 1) := by decide +kernel
theorem dX5_save_43 : decode cX5_save 43 = .ok (.dup, 1) := by decide +kernel
theorem dX5_save_44 : decode cX5_save 44 = .ok (.getfield 32, 3) := by decide +kernel
theorem dX5_save_47 : decode cX5_save 47 = .ok (.iconst 1, 1) := by decide +kernel
theorem dX5_save_48 : decode cX5_save 48 = .ok (.isub, 1) := by decide +kernel
theorem dX5_save_49 : decode cX5_save 49 = .ok (.putfield 32, 3) := by decide +kernel
theorem dX5_save_52 : decode cX5_save 52 = .ok (.iconst 0, 1) := by decide +kernel
theorem dX5_save_53 : decode cX5_save 53 = .ok (.istore_n 1, 1) := by decide +kernel
theorem dX5_save_54 : decode cX5_save 54 = .ok (.iload_n 1, 1) := by decide +kernel
theorem dX5_save_55 : decode cX5_save 55 = .ok (.sipush 954, 3) := by decide +kernel
theorem dX5_save_58 : decode cX5_save 58 = .ok (.if_icmp .ge 30, 3) := by decide +kernel
theorem dX5_save_61 : decode cX5_save 61 = .ok (.aload_n 0, 1) := by decide +kernel
theorem dX5_save_62 : decode cX5_save 62 = .ok (.getfield 13, 3) := by decide +kernel
theorem dX5_save_65 : decode cX5_save 65 = .ok (.sipush 954, 3) := by decide +kernel
theorem dX5_save_68 : decode cX5_save 68 = .ok (.aload_n 0, 1) := by decide +kernel
theorem dX5_save_69 : decode cX5_save 69 = .ok (.getfield 32, 3) := by decide +kernel
theorem dX5_save_72 : decode cX5_save 72 = .ok (.imul, 1) := by decide +kernel
theorem dX5_save_73 : decode cX5_save 73 = .ok (.iload_n 1, 1) := by decide +kernel
theorem dX5_save_74 : decode cX5_save 74 = .ok (.iadd, 1) := by decide +kernel
theorem dX5_save_75 : decode cX5_save 75 = .ok (.aload_n 0, 1) := by decide +kernel
theorem dX5_save_76 : decode cX5_save 76 = .ok (.getfield 7, 3) := by decide +kernel
theorem dX5_save_79 : decode cX5_save 79 = .ok (.iload_n 1, 1) := by decide +kernel
theorem dX5_save_80 : decode cX5_save 80 = .ok (.iaload, 1) := by decide +kernel
theorem dX5_save_81 : decode cX5_save 81 = .ok (.iastore, 1) := by decide +kernel
theorem dX5_save_82 : decode cX5_save 82 = .ok (.iinc 1 1, 3) := by decide +kernel
theorem dX5_save_85 : decode cX5_save 85 = .ok (.goto (-31), 3) := by decide +kernel
theorem dX5_save_88 : decode cX5_save 88 = .ok (.aload_n 0, 1) := by decide +kernel
theorem dX5_save_89 : decode cX5_save 89 = .ok (.dup, 1) := by decide +kernel
theorem dX5_save_90 : decode cX5_save 90 = .ok (.getfield 32, 3) := by decide +kernel
theorem dX5_save_93 : decode cX5_save 93 = .ok (.iconst 1, 1) := by decide +kernel
theorem dX5_save_94 : decode cX5_save 94 = .ok (.iadd, 1) := by decide +kernel
theorem dX5_save_95 : decode cX5_save 95 = .ok (.putfield 32, 3) := by decide +kernel
theorem dX5_save_98 : decode cX5_save 98 = .ok (.return_, 1) := by decide +kernel
theorem dX5_of_0 : decode cX5_of 0 = .ok (.aload_n 0, 1) := by decide +kernel
theorem dX5_of_1 : decode cX5_of 1 = .ok (.getfield 7, 3) := by decide +kernel
theorem dX5_of_4 : decode cX5_of 4 = .ok (.iconst 5, 1) := by decide +kernel
theorem dX5_of_5 : decode cX5_of 5 = .ok (.bipush 6, 2) := by decide +kernel
theorem dX5_of_7 : decode cX5_of 7 = .ok (.iload_n 1, 1) := by decide +kernel
theorem dX5_of_8 : decode cX5_of 8 = .ok (.imul, 1) := by decide +kernel
theorem dX5_of_9 : decode cX5_of 9 = .ok (.iadd, 1) := by decide +kernel
theorem dX5_of_10 : decode cX5_of 10 = .ok (.iload_n 2, 1) := by decide +kernel
theorem dX5_of_11 : decode cX5_of 11 = .ok (.iadd, 1) := by decide +kernel
theorem dX5_of_12 : decode cX5_of 12 = .ok (.iaload, 1) := by decide +kernel
theorem dX5_of_13 : decode cX5_of 13 = .ok (.ireturn, 1) := by decide +kernel
theorem dX5_put_0 : decode cX5_put 0 = .ok (.aload_n 0, 1) := by decide +kernel
theorem dX5_put_1 : decode cX5_put 1 = .ok (.getfield 7, 3) := by decide +kernel
theorem dX5_put_4 : decode cX5_put 4 = .ok (.iconst 5, 1) := by decide +kernel
theorem dX5_put_5 : decode cX5_put 5 = .ok (.bipush 6, 2) := by decide +kernel
theorem dX5_put_7 : decode cX5_put 7 = .ok (.iload_n 1, 1) := by decide +kernel
theorem dX5_put_8 : decode cX5_put 8 = .ok (.imul, 1) := by decide +kernel
theorem dX5_put_9 : decode cX5_put 9 = .ok (.iadd, 1) := by decide +kernel
theorem dX5_put_10 : decode cX5_put 10 = .ok (.iload_n 2, 1) := by decide +kernel
theorem dX5_put_11 : decode cX5_put 11 = .ok (.iadd, 1) := by decide +kernel
theorem dX5_put_12 : decode cX5_put 12 = .ok (.iload_n 3, 1) := by decide +kernel
theorem dX5_put_13 : decode cX5_put 13 = .ok (.iastore, 1) := by decide +kernel
theorem dX5_put_14 : decode cX5_put 14 = .ok (.return_, 1) := by decide +kernel
set_option maxRecDepth 20000 in
theorem ggX5_isBread_X5_within : GoodIn wsX5_isBread wsX5_within := goodIn_r _ [5] (by decide +kernel) (by decide +kernel)
set_option maxRecDepth 20000 in
theorem gX5_isBread_X5_within : GoodIn wsX5_isBread (va_wsS RX5 35 yX5_within wsX5_within) := goodIn_app (goodIn_of _ (by decide +kernel)) ggX5_isBread_X5_within
theorem dX5_isBread_0 : decode cX5_isBread 0 = .ok (.iload_n 1, 1) := by decide +kernel
theorem dX5_isBread_1 : decode cX5_isBread 1 = .ok (.iconst 0, 1) := by decide +kernel
theorem dX5_isBread_2 : decode cX5_isBread 2 = .ok (.aload_n 0, 1) := by decide +kernel
theorem dX5_isBread_3 : decode cX5_isBread 3 = .ok (.getfield 7, 3) := by decide +kernel
theorem dX5_isBread_6 : decode cX5_isBread 6 = .ok (.iconst 1, 1) := by decide +kernel
theorem dX5_isBread_7 : decode cX5_isBread 7 = .ok (.iaload, 1) := by decide +kernel
theorem dX5_isBread_8 : decode cX5_isBread 8 = .ok (.iconst 1, 1) := by decide +kernel
theorem dX5_isBread_9 : decode cX5_isBread 9 = .ok (.isub, 1) := by decide +kernel
theorem dX5_isBread_10 : decode cX5_isBread 10 = .ok (.invokestatic 35, 3) := by decide +kernel
theorem dX5_isBread_13 : decode cX5_isBread 13 = .ok (.ireturn, 1) := by decide +kernel
set_option maxRecDepth 20000 in
theorem ggX5_isPerson_X5_within : GoodIn wsX5_isPerson wsX5_within := goodIn_r _ [4] (by decide +kernel) (by decide +kernel)
set_option maxRecDepth 20000 in
theorem gX5_isPerson_X5_within : GoodIn wsX5_isPerson (va_wsS RX5 35 yX5_within wsX5_within) := goodIn_app (goodIn_of _ (by decide +kernel)) ggX5_isPerson_X5_within
theorem dX5_isPerson_0 : decode cX5_isPerson 0 = .ok (.iload_n 0, 1) := by decide +kernel
theorem dX5_isPerson_1 : decode cX5_isPerson 1 = .ok (.iconst 0, 1) := by decide +kernel
theorem dX5_isPerson_2 : decode cX5_isPerson 2 = .ok (.sipush 149, 3) := by decide +kernel
theorem dX5_isPerson_5 : decode cX5_isPerson 5 = .ok (.invokestatic 35, 3) := by decide +kernel
theorem dX5_isPerson_8 : decode cX5_isPerson 8 = .ok (.ireturn, 1) := by decide +kernel
set_option maxRecDepth 20000 in
theorem ggX5_isSalt_X5_within : GoodIn wsX5_isSalt wsX5_within := goodIn_r _ [4] (by decide +kernel) (by decide +kernel)
set_option maxRecDepth 20000 in
theorem gX5_isSalt_X5_within : GoodIn wsX5_isSalt (va_wsS RX5 35 yX5_within wsX5_within) := goodIn_app (goodIn_of _ (by decide +kernel)) ggX5_isSalt_X5_within
theorem dX5_isSalt_0 : decode cX5_isSalt 0 = .ok (.iload_n 0, 1) := by decide +kernel
theorem dX5_isSalt_1 : decode cX5_isSalt 1 = .ok (.iconst 0, 1) := by decide +kernel
theorem dX5_isSalt_2 : decode cX5_isSalt 2 = .ok (.sipush 9999, 3) := by decide +kernel
theorem dX5_isSalt_5 : decode cX5_isSalt 5 = .ok (.invokestatic 35, 3) := by decide +kernel
theorem dX5_isSalt_8 : decode cX5_isSalt 8 = .ok (.ireturn, 1) := by decide +kernel
set_option maxRecDepth 20000 in
theorem ggX5_isOpen_X5_of : GoodIn wsX5_isOpen wsX5_of := goodIn_r _ [5, 6, 7, 8, 9, 10, 11, 12, 13, 14, 15, 16, 17, 18, 19] (by decide +kernel) (by decide +kernel)
set_option maxRecDepth 20000 in
theorem gX5_isOpen_X5_of : GoodIn wsX5_isOpen (wsV RX5 39 RX5 yX5_of wsX5_of) := goodIn_app (goodIn_of _ (by decide +kernel)) ggX5_isOpen_X5_of
theorem dX5_isOpen_0 : decode cX5_isOpen 0 = .ok (.aload_n 0, 1) := by decide +kernel
theorem dX5_isOpen_1 : decode cX5_isOpen 1 = .ok (.iload_n 1, 1) := by decide +kernel
theorem dX5_isOpen_2 : decode cX5_isOpen 2 = .ok (.iconst 0, 1) := by decide +kernel
theorem dX5_isOpen_3 : decode cX5_isOpen 3 = .ok (.invokevirtual 39, 3) := by decide +kernel
theorem dX5_isOpen_6 : decode cX5_isOpen 6 = .ok (.iconst 1, 1) := by decide +kernel
theorem dX5_isOpen_7 : decode cX5_isOpen 7 = .ok (.if_icmp .ne 7, 3) := by decide +kernel
theorem dX5_isOpen_10 : decode cX5_isOpen 10 = .ok (.iconst 1, 1) := by decide +kernel
theorem dX5_isOpen_11 : decode cX5_isOpen 11 = .ok (.goto 4, 3) := by decide +kernel
theorem dX5_isOpen_14 : decode cX5_isOpen 14 = .ok (.iconst 0, 1) := by decide +kernel
theorem dX5_isOpen_15 : decode cX5_isOpen 15 = .ok (.ireturn, 1) := by decide +kernel
set_option maxRecDepth 20000 in
theorem ggX5_isOfGroup_X5_of : GoodIn wsX5_isOfGroup wsX5_of := goodIn_r _ [5, 6, 7, 8, 9, 10, 11, 12, 13, 14, 15, 16, 17, 18, 19] (by decide +kernel) (by decide +kernel)
set_option maxRecDepth 20000 in
theorem gX5_isOfGroup_X5_of : GoodIn wsX5_isOfGroup (wsV RX5 39 RX5 yX5_of wsX5_of) := goodIn_app (goodIn_of _ (by decide +kernel)) ggX5_isOfGroup_X5_of
theorem dX5_isOfGroup_0 : decode cX5_isOfGroup 0 = .ok (.aload_n 0, 1) := by decide +kernel
theorem dX5_isOfGroup_1 : decode cX5_isOfGroup 1 = .ok (.iload_n 1, 1) := by decide +kernel
theorem dX5_isOfGroup_2 : decode cX5_isOfGroup 2 = .ok (.iconst 1, 1) := by decide +kernel
theorem dX5_isOfGroup_3 : decode cX5_isOfGroup 3 = .ok (.invokevirtual 39, 3) := by decide +kernel
theorem dX5_isOfGroup_6 : decode cX5_isOfGroup 6 = .ok (.iconst (-1), 1) := by decide +kernel
theorem dX5_isOfGroup_7 : decode cX5_isOfGroup 7 = .ok (.if_icmp .eq 7, 3) := by decide +kernel
theorem dX5_isOfGroup_10 : decode cX5_isOfGroup 10 = .ok (.iconst 1, 1) := by decide +kernel
theorem dX5_isOfGroup_11 : decode cX5_isOfGroup 11 = .ok (.goto 4, 3) := by decide +kernel
theorem dX5_isOfGroup_14 : decode cX5_isOfGroup 14 = .ok (.iconst 0, 1) := by decide +kernel
theorem dX5_isOfGroup_15 : decode cX5_isOfGroup 15 = .ok (.ireturn, 1) := by decide +kernel
theorem dX5_bucketBy_0 : decode cX5_bucketBy 0 = .ok (.iload_n 0, 1) := by decide +kernel
theorem dX5_bucketBy_1 : decode cX5_bucketBy 1 = .ok (.ldc 43, 2) := by decide +kernel
theorem dX5_bucketBy_3 : decode cX5_bucketBy 3 = .ok (.imul, 1) := by decide +kernel
theorem dX5_bucketBy_4 : decode cX5_bucketBy 4 = .ok (.iload_n 1, 1) := by decide +kernel
theorem dX5_bucketBy_5 : decode cX5_bucketBy 5 = .ok (.ldc 44, 2) := by decide +kernel
theorem dX5_bucketBy_7 : decode cX5_bucketBy 7 = .ok (.imul, 1) := by decide +kernel
theorem dX5_bucketBy_8 : decode cX5_bucketBy 8 = .ok (.iadd, 1) := by decide +kernel
theorem dX5_bucketBy_9 : decode cX5_bucketBy 9 = .ok (.istore_n 2, 1) := by decide +kernel
theorem dX5_bucketBy_10 : decode cX5_bucketBy 10 = .ok (.iload_n 2, 1) := by decide +kernel
theorem dX5_bucketBy_11 : decode cX5_bucketBy 11 = .ok (.iload_n 2, 1) := by decide +kernel
theorem dX5_bucketBy_12 : decode cX5_bucketBy 12 = .ok (.bipush 15, 2) := by decide +kernel
theorem dX5_bucketBy_14 : decode cX5_bucketBy 14 = .ok (.iushr, 1) := by decide +kernel
theorem dX5_bucketBy_15 : decode cX5_bucketBy 15 = .ok (.ixor, 1) := by decide +kernel
theorem dX5_bucketBy_16 : decode cX5_bucketBy 16 = .ok (.istore_n 2, 1) := by decide +kernel
theorem dX5_bucketBy_17 : decode cX5_bucketBy 17 = .ok (.iload_n 2, 1) := by decide +kernel
theorem dX5_bucketBy_18 : decode cX5_bucketBy 18 = .ok (.ldc 45, 2) := by decide +kernel
theorem dX5_bucketBy_20 : decode cX5_bucketBy 20 = .ok (.imul, 1) := by decide +kernel
theorem dX5_bucketBy_21 : decode cX5_bucketBy 21 = .ok (.istore_n 2, 1) := by decide +kernel
theorem dX5_bucketBy_22 : decode cX5_bucketBy 22 = .ok (.iload_n 2, 1) := by decide +kernel
theorem dX5_bucketBy_23 : decode cX5_bucketBy 23 = .ok (.iload_n 2, 1) := by decide +kernel
theorem dX5_bucketBy_24 : decode cX5_bucketBy 24 = .ok (.bipush 13, 2) := by decide +kernel
theorem dX5_bucketBy_26 : decode cX5_bucketBy 26 = .ok (.iushr, 1) := by decide +kernel
theorem dX5_bucketBy_27 : decode cX5_bucketBy 27 = .ok (.ixor, 1) := by decide +kernel
theorem dX5_bucketBy_28 : decode cX5_bucketBy 28 = .ok (.istore_n 2, 1) := by decide +kernel
theorem dX5_bucketBy_29 : decode cX5_bucketBy 29 = .ok (.iload_n 2, 1) := by decide +kernel
theorem dX5_bucketBy_30 : decode cX5_bucketBy 30 = .ok (.ldc 46, 2) := by decide +kernel
theorem dX5_bucketBy_32 : decode cX5_bucketBy 32 = .ok (.imul, 1) := by decide +kernel
theorem dX5_bucketBy_33 : decode cX5_bucketBy 33 = .ok (.istore_n 2, 1) := by decide +kernel
theorem dX5_bucketBy_34 : decode cX5_bucketBy 34 = .ok (.iload_n 2, 1) := by decide +kernel
theorem dX5_bucketBy_35 : decode cX5_bucketBy 35 = .ok (.iload_n 2, 1) := by decide +kernel
theorem dX5_bucketBy_36 : decode cX5_bucketBy 36 = .ok (.bipush 16, 2) := by decide +kernel
theorem dX5_bucketBy_38 : decode cX5_bucketBy 38 = .ok (.iushr, 1) := by decide +kernel
theorem dX5_bucketBy_39 : decode cX5_bucketBy 39 = .ok (.ixor, 1) := by decide +kernel
theorem dX5_bucketBy_40 : decode cX5_bucketBy 40 = .ok (.istore_n 2, 1) := by decide +kernel
theorem dX5_bucketBy_41 : decode cX5_bucketBy 41 = .ok (.iload_n 2, 1) := by decide +kernel
theorem dX5_bucketBy_42 : decode cX5_bucketBy 42 = .ok (.ldc 47, 2) := by decide +kernel
theorem dX5_bucketBy_44 : decode cX5_bucketBy 44 = .ok (.iand, 1) := by decide +kernel
theorem dX5_bucketBy_45 : decode cX5_bucketBy 45 = .ok (.bipush 100, 2) := by decide +kernel
theorem dX5_bucketBy_47 : decode cX5_bucketBy 47 = .ok (.irem, 1) := by decide +kernel
theorem dX5_bucketBy_48 : decode cX5_bucketBy 48 = .ok (.ireturn, 1) := by decide +kernel
set_option maxRecDepth 20000 in
theorem ggX5_saltOf_X5_isOfGroup : GoodIn wsX5_saltOf wsX5_isOfGroup := goodIn_r _ [6, 7, 8, 9, 5, 10, 1, 11, 12, 13, 14, 15, 16, 17, 18, 19, 20, 21, 22, 23] (by decide +kernel) (by decide +kernel)
set_option maxRecDepth 20000 in
theorem gX5_saltOf_X5_isOfGroup : GoodIn wsX5_saltOf (wsV RX5 48 RX5 yX5_isOfGroup wsX5_isOfGroup) := goodIn_app (goodIn_of _ (by decide +kernel)) ggX5_saltOf_X5_isOfGroup
set_option maxRecDepth 20000 in
theorem ggX5_saltOf_X5_of : GoodIn wsX5_saltOf wsX5_of := goodIn_r _ [10, 1, 11, 12, 13, 14, 15, 16, 17, 18, 19, 20, 21, 22, 23] (by decide +kernel) (by decide +kernel)
set_option maxRecDepth 20000 in
theorem gX5_saltOf_X5_of : GoodIn wsX5_saltOf (wsV RX5 39 RX5 yX5_of wsX5_of) := goodIn_app (goodIn_of _ (by decide +kernel)) ggX5_saltOf_X5_of
theorem dX5_saltOf_0 : decode cX5_saltOf 0 = .ok (.aload_n 0, 1) := by decide +kernel
theorem dX5_saltOf_1 : decode cX5_saltOf 1 = .ok (.iload_n 1, 1) := by decide +kernel
theorem dX5_saltOf_2 : decode cX5_saltOf 2 = .ok (.invokevirtual 48, 3) := by decide +kernel
theorem dX5_saltOf_5 : decode cX5_saltOf 5 = .ok (.ifCond .eq 19, 3) := by decide +kernel
theorem dX5_saltOf_8 : decode cX5_saltOf 8 = .ok (.aload_n 0, 1) := by decide +kernel
theorem dX5_saltOf_9 : decode cX5_saltOf 9 = .ok (.getfield 7, 3) := by decide +kernel
theorem dX5_saltOf_12 : decode cX5_saltOf 12 = .ok (.iconst 2, 1) := by decide +kernel
theorem dX5_saltOf_13 : decode cX5_saltOf 13 = .ok (.aload_n 0, 1) := by decide +kernel
theorem dX5_saltOf_14 : decode cX5_saltOf 14 = .ok (.iload_n 1, 1) := by decide +kernel
theorem dX5_saltOf_15 : decode cX5_saltOf 15 = .ok (.iconst 1, 1) := by decide +kernel
theorem dX5_saltOf_16 : decode cX5_saltOf 16 = .ok (.invokevirtual 39, 3) := by decide +kernel
theorem dX5_saltOf_19 : decode cX5_saltOf 19 = .ok (.iadd, 1) := by decide +kernel
theorem dX5_saltOf_20 : decode cX5_saltOf 20 = .ok (.iaload, 1) := by decide +kernel
theorem dX5_saltOf_21 : decode cX5_saltOf 21 = .ok (.goto 9, 3) := by decide +kernel
theorem dX5_saltOf_24 : decode cX5_saltOf 24 = .ok (.aload_n 0, 1) := by decide +kernel
theorem dX5_saltOf_25 : decode cX5_saltOf 25 = .ok (.iload_n 1, 1) := by decide +kernel
theorem dX5_saltOf_26 : decode cX5_saltOf 26 = .ok (.iconst 2, 1) := by decide +kernel
theorem dX5_saltOf_27 : decode cX5_saltOf 27 = .ok (.invokevirtual 39, 3) := by decide +kernel
theorem dX5_saltOf_30 : decode cX5_saltOf 30 = .ok (.ireturn, 1) := by decide +kernel
set_option maxRecDepth 20000 in
theorem ggX5_owns_X5_isOfGroup : GoodIn wsX5_owns wsX5_isOfGroup := goodIn_r _ [6, 7, 8, 9, 5, 10, 1, 11, 12, 13, 14, 15, 16, 17, 18, 19, 20, 21, 22, 23] (by decide +kernel) (by decide +kernel)
set_option maxRecDepth 20000 in
theorem gX5_owns_X5_isOfGroup : GoodIn wsX5_owns (wsV RX5 48 RX5 yX5_isOfGroup wsX5_isOfGroup) := goodIn_app (goodIn_of _ (by decide +kernel)) ggX5_owns_X5_isOfGroup
set_option maxRecDepth 20000 in
theorem ggX5_owns_X5_of : GoodIn wsX5_owns wsX5_of := goodIn_r _ [10, 1, 11, 12, 13, 14, 15, 16, 17, 18, 19, 20, 21, 22, 23] (by decide +kernel) (by decide +kernel)
set_option maxRecDepth 20000 in
theorem gX5_owns_X5_of : GoodIn wsX5_owns (wsV RX5 39 RX5 yX5_of wsX5_of) := goodIn_app (goodIn_of _ (by decide +kernel)) ggX5_owns_X5_of
theorem dX5_owns_0 : decode cX5_owns 0 = .ok (.aload_n 0, 1) := by decide +kernel
theorem dX5_owns_1 : decode cX5_owns 1 = .ok (.iload_n 1, 1) := by decide +kernel
theorem dX5_owns_2 : decode cX5_owns 2 = .ok (.invokevirtual 48, 3) := by decide +kernel
theorem dX5_owns_5 : decode cX5_owns 5 = .ok (.ifCond .eq 34, 3) := by decide +kernel
theorem dX5_owns_8 : decode cX5_owns 8 = .ok (.aload_n 0, 1) := by decide +kernel
theorem dX5_owns_9 : decode cX5_owns 9 = .ok (.getfield 7, 3) := by decide +kernel
theorem dX5_owns_12 : decode cX5_owns 12 = .ok (.bipush 53, 2) := by decide +kernel
theorem dX5_owns_14 : decode cX5_owns 14 = .ok (.bipush 100, 2) := by decide +kernel
theorem dX5_owns_16 : decode cX5_owns 16 = .ok (.aload_n 0, 1) := by decide +kernel
theorem dX5_owns_17 : decode cX5_owns 17 = .ok (.iload_n 1, 1) := by decide +kernel
theorem dX5_owns_18 : decode cX5_owns 18 = .ok (.iconst 1, 1) := by decide +kernel
theorem dX5_owns_19 : decode cX5_owns 19 = .ok (.invokevirtual 39, 3) := by decide +kernel
theorem dX5_owns_22 : decode cX5_owns 22 = .ok (.imul, 1) := by decide +kernel
theorem dX5_owns_23 : decode cX5_owns 23 = .ok (.iadd, 1) := by decide +kernel
theorem dX5_owns_24 : decode cX5_owns 24 = .ok (.iload_n 2, 1) := by decide +kernel
theorem dX5_owns_25 : decode cX5_owns 25 = .ok (.iadd, 1) := by decide +kernel
theorem dX5_owns_26 : decode cX5_owns 26 = .ok (.iaload, 1) := by decide +kernel
theorem dX5_owns_27 : decode cX5_owns 27 = .ok (.iload_n 1, 1) := by decide +kernel
theorem dX5_owns_28 : decode cX5_owns 28 = .ok (.if_icmp .ne 7, 3) := by decide +kernel
theorem dX5_owns_31 : decode cX5_owns 31 = .ok (.iconst 1, 1) := by decide +kernel
theorem dX5_owns_32 : decode cX5_owns 32 = .ok (.goto 22, 3) := by decide +kernel
theorem dX5_owns_35 : decode cX5_owns 35 = .ok (.iconst 0, 1) := by decide +kernel
theorem dX5_owns_36 : decode cX5_owns 36 = .ok (.goto 18, 3) := by decide +kernel
theorem dX5_owns_39 : decode cX5_owns 39 = .ok (.iload_n 2, 1) := by decide +kernel
theorem dX5_owns_40 : decode cX5_owns 40 = .ok (.aload_n 0, 1) := by decide +kernel
theorem dX5_owns_41 : decode cX5_owns 41 = .ok (.iload_n 1, 1) := by decide +kernel
theorem dX5_owns_42 : decode cX5_owns 42 = .ok (.iconst 3, 1) := by decide +kernel
theorem dX5_owns_43 : decode cX5_owns 43 = .ok (.invokevirtual 39, 3) := by decide +kernel
theorem dX5_owns_46 : decode cX5_owns 46 = .ok (.if_icmp .ge 7, 3) := by decide +kernel
theorem dX5_owns_49 : decode cX5_owns 49 = .ok (.iconst 1, 1) := by decide +kernel
theorem dX5_owns_50 : decode cX5_owns 50 = .ok (.goto 4, 3) := by decide +kernel
theorem dX5_owns_53 : decode cX5_owns 53 = .ok (.iconst 0, 1) := by decide +kernel
theorem dX5_owns_54 : decode cX5_owns 54 = .ok (.ireturn, 1) := by decide +kernel
theorem dX5_freeOf_0 : decode cX5_freeOf 0 = .ok (.iconst 0, 1) := by decide +kernel
theorem dX5_freeOf_1 : decode cX5_freeOf 1 = .ok (.istore_n 2, 1) := by decide +kernel
theorem dX5_freeOf_2 : decode cX5_freeOf 2 = .ok (.iconst 0, 1) := by decide +kernel
theorem dX5_freeOf_3 : decode cX5_freeOf 3 = .ok (.istore_n 3, 1) := by decide +kernel
theorem dX5_freeOf_4 : decode cX5_freeOf 4 = .ok (.iload_n 3, 1) := by decide +kernel
theorem dX5_freeOf_5 : decode cX5_freeOf 5 = .ok (.bipush 100, 2) := by decide +kernel
theorem dX5_freeOf_7 : decode cX5_freeOf 7 = .ok (.if_icmp .ge 35, 3) := by decide +kernel
theorem dX5_freeOf_10 : decode cX5_freeOf 10 = .ok (.iload_n 2, 1) := by decide +kernel
theorem dX5_freeOf_11 : decode cX5_freeOf 11 = .ok (.aload_n 0, 1) := by decide +kernel
theorem dX5_freeOf_12 : decode cX5_freeOf 12 = .ok (.getfield 7, 3) := by decide +kernel
theorem dX5_freeOf_15 : decode cX5_freeOf 15 = .ok (.bipush 53, 2) := by decide +kernel
theorem dX5_freeOf_17 : decode cX5_freeOf 17 = .ok (.bipush 100, 2) := by decide +kernel
theorem dX5_freeOf_19 : decode cX5_freeOf 19 = .ok (.iload_n 1, 1) := by decide +kernel
theorem dX5_freeOf_20 : decode cX5_freeOf 20 = .ok (.imul, 1) := by decide +kernel
theorem dX5_freeOf_21 : decode cX5_freeOf 21 = .ok (.iadd, 1) := by decide +kernel
theorem dX5_freeOf_22 : decode cX5_freeOf 22 = .ok (.iload_n 3, 1) := by decide +kernel
theorem dX5_freeOf_23 : decode cX5_freeOf 23 = .ok (.iadd, 1) := by decide +kernel
theorem dX5_freeOf_24 : decode cX5_freeOf 24 = .ok (.iaload, 1) := by decide +kernel
theorem dX5_freeOf_25 : decode cX5_freeOf 25 = .ok (.iconst (-1), 1) := by decide +kernel
theorem dX5_freeOf_26 : decode cX5_freeOf 26 = .ok (.if_icmp .ne 7, 3) := by decide +kernel
theorem dX5_freeOf_29 : decode cX5_freeOf 29 = .ok (.iconst 1, 1) := by decide +kernel
theorem dX5_freeOf_30 : decode cX5_freeOf 30 = .ok (.goto 4, 3) := by decide +kernel
theorem dX5_freeOf_33 : decode cX5_freeOf 33 = .ok (.iconst 0, 1) := by decide +kernel
theorem dX5_freeOf_34 : decode cX5_freeOf 34 = .ok (.iadd, 1) := by decide +kernel
theorem dX5_freeOf_35 : decode cX5_freeOf 35 = .ok (.istore_n 2, 1) := by decide +kernel
theorem dX5_freeOf_36 : decode cX5_freeOf 36 = .ok (.iinc 3 1, 3) := by decide +kernel
theorem dX5_freeOf_39 : decode cX5_freeOf 39 = .ok (.goto (-35), 3) := by decide +kernel
theorem dX5_freeOf_42 : decode cX5_freeOf 42 = .ok (.iload_n 2, 1) := by decide +kernel
theorem dX5_freeOf_43 : decode cX5_freeOf 43 = .ok (.ireturn, 1) := by decide +kernel
set_option maxRecDepth 20000 in
theorem ggX5_hasRoom_X5_isOfGroup : GoodIn wsX5_hasRoom wsX5_isOfGroup := goodIn_r _ [5, 6, 7, 8, 4, 9, 10, 15, 16, 17, 18, 19, 20, 21, 22, 23, 24, 25, 26, 27] (by decide +kernel) (by decide +kernel)
set_option maxRecDepth 20000 in
theorem gX5_hasRoom_X5_isOfGroup : GoodIn wsX5_hasRoom (wsV RX5 48 RX5 yX5_isOfGroup wsX5_isOfGroup) := goodIn_app (goodIn_of _ (by decide +kernel)) ggX5_hasRoom_X5_isOfGroup
set_option maxRecDepth 20000 in
theorem ggX5_hasRoom_X5_of : GoodIn wsX5_hasRoom wsX5_of := goodIn_r _ [9, 10, 15, 16, 17, 18, 19, 20, 21, 22, 23, 24, 25, 26, 27] (by decide +kernel) (by decide +kernel)
set_option maxRecDepth 20000 in
theorem gX5_hasRoom_X5_of : GoodIn wsX5_hasRoom (wsV RX5 39 RX5 yX5_of wsX5_of) := goodIn_app (goodIn_of _ (by decide +kernel)) ggX5_hasRoom_X5_of
set_option maxRecDepth 20000 in
theorem ggX5_hasRoom_X5_freeOf : GoodIn wsX5_hasRoom wsX5_freeOf := goodIn_r _ [14, 10, 15, 16, 17, 18, 19, 20, 21, 22, 23, 24, 25, 26, 27] (by decide +kernel) (by decide +kernel)
set_option maxRecDepth 20000 in
theorem gX5_hasRoom_X5_freeOf : GoodIn wsX5_hasRoom (wsV RX5 52 RX5 yX5_freeOf wsX5_freeOf) := goodIn_app (goodIn_of _ (by decide +kernel)) ggX5_hasRoom_X5_freeOf
theorem dX5_hasRoom_0 : decode cX5_hasRoom 0 = .ok (.aload_n 0, 1) := by decide +kernel
theorem dX5_hasRoom_1 : decode cX5_hasRoom 1 = .ok (.iload_n 1, 1) := by decide +kernel
theorem dX5_hasRoom_2 : decode cX5_hasRoom 2 = .ok (.invokevirtual 48, 3) := by decide +kernel
theorem dX5_hasRoom_5 : decode cX5_hasRoom 5 = .ok (.ifCond .eq 24, 3) := by decide +kernel
theorem dX5_hasRoom_8 : decode cX5_hasRoom 8 = .ok (.iload_n 2, 1) := by decide +kernel
theorem dX5_hasRoom_9 : decode cX5_hasRoom 9 = .ok (.aload_n 0, 1) := by decide +kernel
theorem dX5_hasRoom_10 : decode cX5_hasRoom 10 = .ok (.iload_n 1, 1) := by decide +kernel
theorem dX5_hasRoom_11 : decode cX5_hasRoom 11 = .ok (.iconst 3, 1) := by decide +kernel
theorem dX5_hasRoom_12 : decode cX5_hasRoom 12 = .ok (.invokevirtual 39, 3) := by decide +kernel
theorem dX5_hasRoom_15 : decode cX5_hasRoom 15 = .ok (.isub, 1) := by decide +kernel
theorem dX5_hasRoom_16 : decode cX5_hasRoom 16 = .ok (.aload_n 0, 1) := by decide +kernel
theorem dX5_hasRoom_17 : decode cX5_hasRoom 17 = .ok (.aload_n 0, 1) := by decide +kernel
theorem dX5_hasRoom_18 : decode cX5_hasRoom 18 = .ok (.iload_n 1, 1) := by decide +kernel
theorem dX5_hasRoom_19 : decode cX5_hasRoom 19 = .ok (.iconst 1, 1) := by decide +kernel
theorem dX5_hasRoom_20 : decode cX5_hasRoom 20 = .ok (.invokevirtual 39, 3) := by decide +kernel
theorem dX5_hasRoom_23 : decode cX5_hasRoom 23 = .ok (.invokevirtual 52, 3) := by decide +kernel
theorem dX5_hasRoom_26 : decode cX5_hasRoom 26 = .ok (.if_icmp .gt 7, 3) := by decide +kernel
theorem dX5_hasRoom_29 : decode cX5_hasRoom 29 = .ok (.iconst 1, 1) := by decide +kernel
theorem dX5_hasRoom_30 : decode cX5_hasRoom 30 = .ok (.goto 4, 3) := by decide +kernel
theorem dX5_hasRoom_33 : decode cX5_hasRoom 33 = .ok (.iconst 0, 1) := by decide +kernel
theorem dX5_hasRoom_34 : decode cX5_hasRoom 34 = .ok (.ireturn, 1) := by decide +kernel
set_option maxRecDepth 20000 in
theorem ggX5_giveLowest_X5_of : GoodIn wsX5_giveLowest wsX5_of := goodIn_r _ [6, 1, 7, 8, 9, 10, 11, 12, 13, 14, 15, 16, 17, 18, 19] (by decide +kernel) (by decide +kernel)
set_option maxRecDepth 20000 in
theorem gX5_giveLowest_X5_of : GoodIn wsX5_giveLowest (wsV RX5 39 RX5 yX5_of wsX5_of) := goodIn_app (goodIn_of _ (by decide +kernel)) ggX5_giveLowest_X5_of
theorem dX5_giveLowest_0 : decode cX5_giveLowest 0 = .ok (.bipush 53, 2) := by decide +kernel
theorem dX5_giveLowest_2 : decode cX5_giveLowest 2 = .ok (.bipush 100, 2) := by decide +kernel
theorem dX5_giveLowest_4 : decode cX5_giveLowest 4 = .ok (.aload_n 0, 1) := by decide +kernel
theorem dX5_giveLowest_5 : decode cX5_giveLowest 5 = .ok (.iload_n 1, 1) := by decide +kernel
theorem dX5_giveLowest_6 : decode cX5_giveLowest 6 = .ok (.iconst 1, 1) := by decide +kernel
theorem dX5_giveLowest_7 : decode cX5_giveLowest 7 = .ok (.invokevirtual 39, 3) := by decide +kernel
theorem dX5_giveLowest_10 : decode cX5_giveLowest 10 = .ok (.imul, 1) := by decide +kernel
theorem dX5_giveLowest_11 : decode cX5_giveLowest 11 = .ok (.iadd, 1) := by decide +kernel
theorem dX5_giveLowest_12 : decode cX5_giveLowest 12 = .ok (.istore_n 2, 1) := by decide +kernel
theorem dX5_giveLowest_13 : decode cX5_giveLowest 13 = .ok (.aload_n 0, 1) := by decide +kernel
theorem dX5_giveLowest_14 : decode cX5_giveLowest 14 = .ok (.getfield 7, 3) := by decide +kernel
theorem dX5_giveLowest_17 : decode cX5_giveLowest 17 = .ok (.iload_n 2, 1) := by decide +kernel
theorem dX5_giveLowest_18 : decode cX5_giveLowest 18 = .ok (.iaload, 1) := by decide +kernel
theorem dX5_giveLowest_19 : decode cX5_giveLowest 19 = .ok (.iconst (-1), 1) := by decide +kernel
theorem dX5_giveLowest_20 : decode cX5_giveLowest 20 = .ok (.if_icmp .eq 9, 3) := by decide +kernel
theorem dX5_giveLowest_23 : decode cX5_giveLowest 23 = .ok (.iinc 2 1, 3) := by decide +kernel
theorem dX5_giveLowest_26 : decode cX5_giveLowest 26 = .ok (.goto (-13), 3) := by decide +kernel
theorem dX5_giveLowest_29 : decode cX5_giveLowest 29 = .ok (.aload_n 0, 1) := by decide +kernel
theorem dX5_giveLowest_30 : decode cX5_giveLowest 30 = .ok (.getfield 7, 3) := by decide +kernel
theorem dX5_giveLowest_33 : decode cX5_giveLowest 33 = .ok (.iload_n 2, 1) := by decide +kernel
theorem dX5_giveLowest_34 : decode cX5_giveLowest 34 = .ok (.iload_n 1, 1) := by decide +kernel
theorem dX5_giveLowest_35 : decode cX5_giveLowest 35 = .ok (.iastore, 1) := by decide +kernel
theorem dX5_giveLowest_36 : decode cX5_giveLowest 36 = .ok (.return_, 1) := by decide +kernel
set_option maxRecDepth 20000 in
theorem ggX5_takeHighest_X5_of : GoodIn wsX5_takeHighest wsX5_of := goodIn_r _ [6, 1, 7, 8, 9, 10, 11, 12, 13, 14, 15, 16, 17, 18, 19] (by decide +kernel) (by decide +kernel)
set_option maxRecDepth 20000 in
theorem gX5_takeHighest_X5_of : GoodIn wsX5_takeHighest (wsV RX5 39 RX5 yX5_of wsX5_of) := goodIn_app (goodIn_of _ (by decide +kernel)) ggX5_takeHighest_X5_of
theorem dX5_takeHighest_0 : decode cX5_takeHighest 0 = .ok (.bipush 53, 2) := by decide +kernel
theorem dX5_takeHighest_2 : decode cX5_takeHighest 2 = .ok (.bipush 100, 2) := by decide +kernel
theorem dX5_takeHighest_4 : decode cX5_takeHighest 4 = .ok (.aload_n 0, 1) := by decide +kernel
theorem dX5_takeHighest_5 : decode cX5_takeHighest 5 = .ok (.iload_n 1, 1) := by decide +kernel
theorem dX5_takeHighest_6 : decode cX5_takeHighest 6 = .ok (.iconst 1, 1) := by decide +kernel
theorem dX5_takeHighest_7 : decode cX5_takeHighest 7 = .ok (.invokevirtual 39, 3) := by decide +kernel
theorem dX5_takeHighest_10 : decode cX5_takeHighest 10 = .ok (.imul, 1) := by decide +kernel
theorem dX5_takeHighest_11 : decode cX5_takeHighest 11 = .ok (.iadd, 1) := by decide +kernel
theorem dX5_takeHighest_12 : decode cX5_takeHighest 12 = .ok (.bipush 100, 2) := by decide +kernel
theorem dX5_takeHighest_14 : decode cX5_takeHighest 14 = .ok (.iadd, 1) := by decide +kernel
theorem dX5_takeHighest_15 : decode cX5_takeHighest 15 = .ok (.iconst 1, 1) := by decide +kernel
theorem dX5_takeHighest_16 : decode cX5_takeHighest 16 = .ok (.isub, 1) := by decide +kernel
theorem dX5_takeHighest_17 : decode cX5_takeHighest 17 = .ok (.istore_n 2, 1) := by decide +kernel
theorem dX5_takeHighest_18 : decode cX5_takeHighest 18 = .ok (.aload_n 0, 1) := by decide +kernel
theorem dX5_takeHighest_19 : decode cX5_takeHighest 19 = .ok (.getfield 7, 3) := by decide +kernel
theorem dX5_takeHighest_22 : decode cX5_takeHighest 22 = .ok (.iload_n 2, 1) := by decide +kernel
theorem dX5_takeHighest_23 : decode cX5_takeHighest 23 = .ok (.iaload, 1) := by decide +kernel
theorem dX5_takeHighest_24 : decode cX5_takeHighest 24 = .ok (.iload_n 1, 1) := by decide +kernel
theorem dX5_takeHighest_25 : decode cX5_takeHighest 25 = .ok (.if_icmp .eq 9, 3) := by decide +kernel
theorem dX5_takeHighest_28 : decode cX5_takeHighest 28 = .ok (.iinc 2 (-1), 3) := by decide +kernel
theorem dX5_takeHighest_31 : decode cX5_takeHighest 31 = .ok (.goto (-13), 3) := by decide +kernel
theorem dX5_takeHighest_34 : decode cX5_takeHighest 34 = .ok (.aload_n 0, 1) := by decide +kernel
theorem dX5_takeHighest_35 : decode cX5_takeHighest 35 = .ok (.getfield 7, 3) := by decide +kernel
theorem dX5_takeHighest_38 : decode cX5_takeHighest 38 = .ok (.iload_n 2, 1) := by decide +kernel
theorem dX5_takeHighest_39 : decode cX5_takeHighest 39 = .ok (.iconst (-1), 1) := by decide +kernel
theorem dX5_takeHighest_40 : decode cX5_takeHighest 40 = .ok (.iastore, 1) := by decide +kernel
theorem dX5_takeHighest_41 : decode cX5_takeHighest 41 = .ok (.return_, 1) := by decide +kernel
set_option maxRecDepth 20000 in
theorem ggX5_setShare_X5_of : GoodIn wsX5_setShare wsX5_of := goodIn_r _ [5, 6, 23, 24, 25, 26, 27, 28, 29, 30, 31, 32, 33, 34, 35] (by decide +kernel) (by decide +kernel)
set_option maxRecDepth 20000 in
theorem gX5_setShare_X5_of : GoodIn wsX5_setShare (wsV RX5 39 RX5 yX5_of wsX5_of) := goodIn_app (goodIn_of _ (by decide +kernel)) ggX5_setShare_X5_of
set_option maxRecDepth 20000 in
theorem ggX5_setShare_X5_isOfGroup : GoodIn wsX5_setShare wsX5_isOfGroup := goodIn_r _ [10, 1, 2, 3, 4, 5, 6, 23, 24, 25, 26, 27, 28, 29, 30, 31, 32, 33, 34, 35] (by decide +kernel) (by decide +kernel)
set_option maxRecDepth 20000 in
theorem gX5_setShare_X5_isOfGroup : GoodIn wsX5_setShare (wsV RX5 48 RX5 yX5_isOfGroup wsX5_isOfGroup) := goodIn_app (goodIn_of _ (by decide +kernel)) ggX5_setShare_X5_isOfGroup
set_option maxRecDepth 20000 in
theorem ggX5_setShare_X5_giveLowest : GoodIn wsX5_setShare wsX5_giveLowest := goodIn_r _ [14, 6, 1, 2, 3, 4, 5, 23, 24, 25, 26, 27, 28, 29, 30, 31, 32, 33, 34, 35] (by decide +kernel) (by decide +kernel)
set_option maxRecDepth 20000 in
theorem gX5_setShare_X5_giveLowest : GoodIn wsX5_setShare (wsV RX5 56 RX5 yX5_giveLowest wsX5_giveLowest) := goodIn_app (goodIn_of _ (by decide +kernel)) ggX5_setShare_X5_giveLowest
set_option maxRecDepth 20000 in
theorem ggX5_setShare_X5_takeHighest : GoodIn wsX5_setShare wsX5_takeHighest := goodIn_r _ [18, 6, 1, 2, 3, 4, 5, 23, 24, 25, 26, 27, 28, 29, 30, 31, 32, 33, 34, 35] (by decide +kernel) (by decide +kernel)
set_option maxRecDepth 20000 in
theorem gX5_setShare_X5_takeHighest : GoodIn wsX5_setShare (wsV RX5 60 RX5 yX5_takeHighest wsX5_takeHighest) := goodIn_app (goodIn_of _ (by decide +kernel)) ggX5_setShare_X5_takeHighest
set_option maxRecDepth 20000 in
theorem ggX5_setShare_X5_put : GoodIn wsX5_setShare wsX5_put := goodIn_r _ [22, 6, 23, 24, 25, 26, 27, 28, 29, 30, 31, 32, 33, 34, 35] (by decide +kernel) (by decide +kernel)
set_option maxRecDepth 20000 in
theorem gX5_setShare_X5_put : GoodIn wsX5_setShare (wsV RX5 63 RX5 yX5_put wsX5_put) := goodIn_app (goodIn_of _ (by decide +kernel)) ggX5_setShare_X5_put
theorem dX5_setShare_0 : decode cX5_setShare 0 = .ok (.aload_n 0, 1) := by decide +kernel
theorem dX5_setShare_1 : decode cX5_setShare 1 = .ok (.iload_n 1, 1) := by decide +kernel
theorem dX5_setShare_2 : decode cX5_setShare 2 = .ok (.iconst 3, 1) := by decide +kernel
theorem dX5_setShare_3 : decode cX5_setShare 3 = .ok (.invokevirtual 39, 3) := by decide +kernel
theorem dX5_setShare_6 : decode cX5_setShare 6 = .ok (.istore_n 3, 1) := by decide +kernel
theorem dX5_setShare_7 : decode cX5_setShare 7 = .ok (.iload_n 3, 1) := by decide +kernel
theorem dX5_setShare_8 : decode cX5_setShare 8 = .ok (.iload_n 2, 1) := by decide +kernel
theorem dX5_setShare_9 : decode cX5_setShare 9 = .ok (.if_icmp .ge 22, 3) := by decide +kernel
theorem dX5_setShare_12 : decode cX5_setShare 12 = .ok (.aload_n 0, 1) := by decide +kernel
theorem dX5_setShare_13 : decode cX5_setShare 13 = .ok (.iload_n 1, 1) := by decide +kernel
theorem dX5_setShare_14 : decode cX5_setShare 14 = .ok (.invokevirtual 48, 3) := by decide +kernel
theorem dX5_setShare_17 : decode cX5_setShare 17 = .ok (.ifCond .eq 14, 3) := by decide +kernel
theorem dX5_setShare_20 : decode cX5_setShare 20 = .ok (.aload_n 0, 1) := by decide +kernel
theorem dX5_setShare_21 : decode cX5_setShare 21 = .ok (.iload_n 1, 1) := by decide +kernel
theorem dX5_setShare_22 : decode cX5_setShare 22 = .ok (.invokevirtual 56, 3) := by decide +kernel
theorem dX5_setShare_25 : decode cX5_setShare 25 = .ok (.iinc 3 1, 3) := by decide +kernel
theorem dX5_setShare_28 : decode cX5_setShare 28 = .ok (.goto (-21), 3) := by decide +kernel
theorem dX5_setShare_31 : decode cX5_setShare 31 = .ok (.iload_n 2, 1) := by decide +kernel
theorem dX5_setShare_32 : decode cX5_setShare 32 = .ok (.istore_n 3, 1) := by decide +kernel
theorem dX5_setShare_33 : decode cX5_setShare 33 = .ok (.iload_n 3, 1) := by decide +kernel
theorem dX5_setShare_34 : decode cX5_setShare 34 = .ok (.aload_n 0, 1) := by decide +kernel
theorem dX5_setShare_35 : decode cX5_setShare 35 = .ok (.iload_n 1, 1) := by decide +kernel
theorem dX5_setShare_36 : decode cX5_setShare 36 = .ok (.iconst 3, 1) := by decide +kernel
theorem dX5_setShare_37 : decode cX5_setShare 37 = .ok (.invokevirtual 39, 3) := by decide +kernel
theorem dX5_setShare_40 : decode cX5_setShare 40 = .ok (.if_icmp .ge 22, 3) := by decide +kernel
theorem dX5_setShare_43 : decode cX5_setShare 43 = .ok (.aload_n 0, 1) := by decide +kernel
theorem dX5_setShare_44 : decode cX5_setShare 44 = .ok (.iload_n 1, 1) := by decide +kernel
theorem dX5_setShare_45 : decode cX5_setShare 45 = .ok (.invokevirtual 48, 3) := by decide +kernel
theorem dX5_setShare_48 : decode cX5_setShare 48 = .ok (.ifCond .eq 14, 3) := by decide +kernel
theorem dX5_setShare_51 : decode cX5_setShare 51 = .ok (.aload_n 0, 1) := by decide +kernel
theorem dX5_setShare_52 : decode cX5_setShare 52 = .ok (.iload_n 1, 1) := by decide +kernel
theorem dX5_setShare_53 : decode cX5_setShare 53 = .ok (.invokevirtual 60, 3) := by decide +kernel
theorem dX5_setShare_56 : decode cX5_setShare 56 = .ok (.iinc 3 1, 3) := by decide +kernel
theorem dX5_setShare_59 : decode cX5_setShare 59 = .ok (.goto (-26), 3) := by decide +kernel
theorem dX5_setShare_62 : decode cX5_setShare 62 = .ok (.aload_n 0, 1) := by decide +kernel
theorem dX5_setShare_63 : decode cX5_setShare 63 = .ok (.iload_n 1, 1) := by decide +kernel
theorem dX5_setShare_64 : decode cX5_setShare 64 = .ok (.iconst 3, 1) := by decide +kernel
theorem dX5_setShare_65 : decode cX5_setShare 65 = .ok (.iload_n 2, 1) := by decide +kernel
theorem dX5_setShare_66 : decode cX5_setShare 66 = .ok (.invokevirtual 63, 3) := by decide +kernel
theorem dX5_setShare_69 : decode cX5_setShare 69 = .ok (.return_, 1) := by decide +kernel
theorem dX5_isHeld_0 : decode cX5_isHeld 0 = .ok (.aload_n 0, 1) := by decide +kernel
theorem dX5_isHeld_1 : decode cX5_isHeld 1 = .ok (.getfield 7, 3) := by decide +kernel
theorem dX5_isHeld_4 : decode cX5_isHeld 4 = .ok (.iload_n 1, 1) := by decide +kernel
theorem dX5_isHeld_5 : decode cX5_isHeld 5 = .ok (.iload_n 2, 1) := by decide +kernel
theorem dX5_isHeld_6 : decode cX5_isHeld 6 = .ok (.iadd, 1) := by decide +kernel
theorem dX5_isHeld_7 : decode cX5_isHeld 7 = .ok (.iaload, 1) := by decide +kernel
theorem dX5_isHeld_8 : decode cX5_isHeld 8 = .ok (.iload_n 3, 1) := by decide +kernel
theorem dX5_isHeld_9 : decode cX5_isHeld 9 = .ok (.ishr, 1) := by decide +kernel
theorem dX5_isHeld_10 : decode cX5_isHeld 10 = .ok (.iconst 1, 1) := by decide +kernel
theorem dX5_isHeld_11 : decode cX5_isHeld 11 = .ok (.iand, 1) := by decide +kernel
theorem dX5_isHeld_12 : decode cX5_isHeld 12 = .ok (.iconst 1, 1) := by decide +kernel
theorem dX5_isHeld_13 : decode cX5_isHeld 13 = .ok (.if_icmp .ne 7, 3) := by decide +kernel
theorem dX5_isHeld_16 : decode cX5_isHeld 16 = .ok (.iconst 1, 1) := by decide +kernel
theorem dX5_isHeld_17 : decode cX5_isHeld 17 = .ok (.goto 4, 3) := by decide +kernel
theorem dX5_isHeld_20 : decode cX5_isHeld 20 = .ok (.iconst 0, 1) := by decide +kernel
theorem dX5_isHeld_21 : decode cX5_isHeld 21 = .ok (.ireturn, 1) := by decide +kernel
set_option maxRecDepth 20000 in
theorem ggX5_eatsNow_X5_isOpen : GoodIn wsX5_eatsNow wsX5_isOpen := goodIn_r _ [5, 6, 7, 8, 4, 9, 10, 35, 36, 37, 38, 39, 40, 41, 42, 43, 44, 45, 46, 47] (by decide +kernel) (by decide +kernel)
set_option maxRecDepth 20000 in
theorem gX5_eatsNow_X5_isOpen : GoodIn wsX5_eatsNow (wsV RX5 67 RX5 yX5_isOpen wsX5_isOpen) := goodIn_app (goodIn_of _ (by decide +kernel)) ggX5_eatsNow_X5_isOpen
set_option maxRecDepth 20000 in
theorem ggX5_eatsNow_X5_isHeld : GoodIn wsX5_eatsNow wsX5_isHeld := goodIn_r _ [14, 10, 35, 36, 37, 38, 39, 40, 41, 42, 43, 44, 45, 46, 47] (by decide +kernel) (by decide +kernel)
set_option maxRecDepth 20000 in
theorem gX5_eatsNow_X5_isHeld : GoodIn wsX5_eatsNow (wsV RX5 70 RX5 yX5_isHeld wsX5_isHeld) := goodIn_app (goodIn_of _ (by decide +kernel)) ggX5_eatsNow_X5_isHeld
set_option maxRecDepth 20000 in
theorem ggX5_eatsNow_X5_saltOf : GoodIn wsX5_eatsNow wsX5_saltOf := goodIn_r _ [18, 10, 19, 20, 21, 4, 22, 6, 7, 8, 9, 35, 36, 37, 38, 39, 40, 41, 42, 43, 44, 45, 46, 47] (by decide +kernel) (by decide +kernel)
set_option maxRecDepth 20000 in
theorem gX5_eatsNow_X5_saltOf : GoodIn wsX5_eatsNow (wsV RX5 73 RX5 yX5_saltOf wsX5_saltOf) := goodIn_app (goodIn_of _ (by decide +kernel)) ggX5_eatsNow_X5_saltOf
set_option maxRecDepth 20000 in
theorem ggX5_eatsNow_X5_bucketBy : GoodIn wsX5_eatsNow wsX5_bucketBy := goodIn_r _ [25, 26, 27, 28, 29, 30] (by decide +kernel) (by decide +kernel)
set_option maxRecDepth 20000 in
theorem gX5_eatsNow_X5_bucketBy : GoodIn wsX5_eatsNow (va_wsS RX5 76 yX5_bucketBy wsX5_bucketBy) := goodIn_app (goodIn_of _ (by decide +kernel)) ggX5_eatsNow_X5_bucketBy
set_option maxRecDepth 20000 in
theorem ggX5_eatsNow_X5_owns : GoodIn wsX5_eatsNow wsX5_owns := goodIn_r _ [34, 10, 19, 20, 21, 4, 22, 6, 7, 8, 9, 35, 36, 37, 38, 39, 40, 41, 42, 43, 44, 45, 46, 47] (by decide +kernel) (by decide +kernel)
set_option maxRecDepth 20000 in
theorem gX5_eatsNow_X5_owns : GoodIn wsX5_eatsNow (wsV RX5 79 RX5 yX5_owns wsX5_owns) := goodIn_app (goodIn_of _ (by decide +kernel)) ggX5_eatsNow_X5_owns
set_option maxRecDepth 20000 in
theorem ggX5_eatsNow_X5_of : GoodIn wsX5_eatsNow wsX5_of := goodIn_r _ [9, 10, 35, 36, 37, 38, 39, 40, 41, 42, 43, 44, 45, 46, 47] (by decide +kernel) (by decide +kernel)
set_option maxRecDepth 20000 in
theorem gX5_eatsNow_X5_of : GoodIn wsX5_eatsNow (wsV RX5 39 RX5 yX5_of wsX5_of) := goodIn_app (goodIn_of _ (by decide +kernel)) ggX5_eatsNow_X5_of
theorem dX5_eatsNow_0 : decode cX5_eatsNow 0 = .ok (.aload_n 0, 1) := by decide +kernel
theorem dX5_eatsNow_1 : decode cX5_eatsNow 1 = .ok (.iload_n 2, 1) := by decide +kernel
theorem dX5_eatsNow_2 : decode cX5_eatsNow 2 = .ok (.invokevirtual 67, 3) := by decide +kernel
theorem dX5_eatsNow_5 : decode cX5_eatsNow 5 = .ok (.ifCond .eq 15, 3) := by decide +kernel
theorem dX5_eatsNow_8 : decode cX5_eatsNow 8 = .ok (.aload_n 0, 1) := by decide +kernel
theorem dX5_eatsNow_9 : decode cX5_eatsNow 9 = .ok (.sipush 503, 3) := by decide +kernel
theorem dX5_eatsNow_12 : decode cX5_eatsNow 12 = .ok (.iload_n 1, 1) := by decide +kernel
theorem dX5_eatsNow_13 : decode cX5_eatsNow 13 = .ok (.iload_n 2, 1) := by decide +kernel
theorem dX5_eatsNow_14 : decode cX5_eatsNow 14 = .ok (.invokevirtual 70, 3) := by decide +kernel
theorem dX5_eatsNow_17 : decode cX5_eatsNow 17 = .ok (.ifCond .eq 5, 3) := by decide +kernel
theorem dX5_eatsNow_20 : decode cX5_eatsNow 20 = .ok (.iconst 0, 1) := by decide +kernel
theorem dX5_eatsNow_21 : decode cX5_eatsNow 21 = .ok (.ireturn, 1) := by decide +kernel
theorem dX5_eatsNow_22 : decode cX5_eatsNow 22 = .ok (.aload_n 0, 1) := by decide +kernel
theorem dX5_eatsNow_23 : decode cX5_eatsNow 23 = .ok (.sipush 353, 3) := by decide +kernel
theorem dX5_eatsNow_26 : decode cX5_eatsNow 26 = .ok (.iload_n 1, 1) := by decide +kernel
theorem dX5_eatsNow_27 : decode cX5_eatsNow 27 = .ok (.iload_n 2, 1) := by decide +kernel
theorem dX5_eatsNow_28 : decode cX5_eatsNow 28 = .ok (.invokevirtual 70, 3) := by decide +kernel
theorem dX5_eatsNow_31 : decode cX5_eatsNow 31 = .ok (.ifCond .eq 5, 3) := by decide +kernel
theorem dX5_eatsNow_34 : decode cX5_eatsNow 34 = .ok (.iconst 1, 1) := by decide +kernel
theorem dX5_eatsNow_35 : decode cX5_eatsNow 35 = .ok (.ireturn, 1) := by decide +kernel
theorem dX5_eatsNow_36 : decode cX5_eatsNow 36 = .ok (.aload_n 0, 1) := by decide +kernel
theorem dX5_eatsNow_37 : decode cX5_eatsNow 37 = .ok (.iload_n 2, 1) := by decide +kernel
theorem dX5_eatsNow_38 : decode cX5_eatsNow 38 = .ok (.iload_n 1, 1) := by decide +kernel
theorem dX5_eatsNow_39 : decode cX5_eatsNow 39 = .ok (.aload_n 0, 1) := by decide +kernel
theorem dX5_eatsNow_40 : decode cX5_eatsNow 40 = .ok (.iload_n 2, 1) := by decide +kernel
theorem dX5_eatsNow_41 : decode cX5_eatsNow 41 = .ok (.invokevirtual 73, 3) := by decide +kernel
theorem dX5_eatsNow_44 : decode cX5_eatsNow 44 = .ok (.invokestatic 76, 3) := by decide +kernel
theorem dX5_eatsNow_47 : decode cX5_eatsNow 47 = .ok (.invokevirtual 79, 3) := by decide +kernel
theorem dX5_eatsNow_50 : decode cX5_eatsNow 50 = .ok (.istore_n 3, 1) := by decide +kernel
theorem dX5_eatsNow_51 : decode cX5_eatsNow 51 = .ok (.iload_n 3, 1) := by decide +kernel
theorem dX5_eatsNow_52 : decode cX5_eatsNow 52 = .ok (.ifCond .eq 7, 3) := by decide +kernel
theorem dX5_eatsNow_55 : decode cX5_eatsNow 55 = .ok (.iconst 3, 1) := by decide +kernel
theorem dX5_eatsNow_56 : decode cX5_eatsNow 56 = .ok (.goto 30, 3) := by decide +kernel
theorem dX5_eatsNow_59 : decode cX5_eatsNow 59 = .ok (.aload_n 0, 1) := by decide +kernel
theorem dX5_eatsNow_60 : decode cX5_eatsNow 60 = .ok (.iload_n 2, 1) := by decide +kernel
theorem dX5_eatsNow_61 : decode cX5_eatsNow 61 = .ok (.iconst 4, 1) := by decide +kernel
theorem dX5_eatsNow_62 : decode cX5_eatsNow 62 = .ok (.invokevirtual 39, 3) := by decide +kernel
theorem dX5_eatsNow_65 : decode cX5_eatsNow 65 = .ok (.iconst 1, 1) := by decide +kernel
theorem dX5_eatsNow_66 : decode cX5_eatsNow 66 = .ok (.if_icmp .ne 19, 3) := by decide +kernel
theorem dX5_eatsNow_69 : decode cX5_eatsNow 69 = .ok (.aload_n 0, 1) := by decide +kernel
theorem dX5_eatsNow_70 : decode cX5_eatsNow 70 = .ok (.sipush 653, 3) := by decide +kernel
theorem dX5_eatsNow_73 : decode cX5_eatsNow 73 = .ok (.iload_n 1, 1) := by decide +kernel
theorem dX5_eatsNow_74 : decode cX5_eatsNow 74 = .ok (.iload_n 2, 1) := by decide +kernel
theorem dX5_eatsNow_75 : decode cX5_eatsNow 75 = .ok (.invokevirtual 70, 3) := by decide +kernel
theorem dX5_eatsNow_78 : decode cX5_eatsNow 78 = .ok (.ifCond .eq 7, 3) := by decide +kernel
theorem dX5_eatsNow_81 : decode cX5_eatsNow 81 = .ok (.iconst 2, 1) := by decide +kernel
theorem dX5_eatsNow_82 : decode cX5_eatsNow 82 = .ok (.goto 4, 3) := by decide +kernel
theorem dX5_eatsNow_85 : decode cX5_eatsNow 85 = .ok (.iconst 0, 1) := by decide +kernel
theorem dX5_eatsNow_86 : decode cX5_eatsNow 86 = .ok (.ireturn, 1) := by decide +kernel
set_option maxRecDepth 20000 in
theorem ggX5_eaters_X5_eatsNow : GoodIn wsX5_eaters wsX5_eatsNow := goodIn_r _ [5, 6, 7, 8, 4, 9, 10, 11, 12, 13, 14, 15, 16, 17, 18, 19, 20, 21, 22, 23, 24, 25, 26, 27, 28, 29, 30, 31, 32, 33, 34, 35, 36, 37, 38, 39, 40, 41, 42, 43, 44, 45, 46, 47, 48, 49, 50, 51] (by decide +kernel) (by decide +kernel)
set_option maxRecDepth 20000 in
theorem gX5_eaters_X5_eatsNow : GoodIn wsX5_eaters (wsV RX5 83 RX5 yX5_eatsNow wsX5_eatsNow) := goodIn_app (goodIn_of _ (by decide +kernel)) ggX5_eaters_X5_eatsNow
theorem dX5_eaters_0 : decode cX5_eaters 0 = .ok (.iconst 0, 1) := by decide +kernel
theorem dX5_eaters_1 : decode cX5_eaters 1 = .ok (.istore_n 2, 1) := by decide +kernel
theorem dX5_eaters_2 : decode cX5_eaters 2 = .ok (.iconst 0, 1) := by decide +kernel
theorem dX5_eaters_3 : decode cX5_eaters 3 = .ok (.istore_n 3, 1) := by decide +kernel
theorem dX5_eaters_4 : decode cX5_eaters 4 = .ok (.iload_n 3, 1) := by decide +kernel
theorem dX5_eaters_5 : decode cX5_eaters 5 = .ok (.sipush 150, 3) := by decide +kernel
theorem dX5_eaters_8 : decode cX5_eaters 8 = .ok (.if_icmp .ge 26, 3) := by decide +kernel
theorem dX5_eaters_11 : decode cX5_eaters 11 = .ok (.iload_n 2, 1) := by decide +kernel
theorem dX5_eaters_12 : decode cX5_eaters 12 = .ok (.aload_n 0, 1) := by decide +kernel
theorem dX5_eaters_13 : decode cX5_eaters 13 = .ok (.iload_n 3, 1) := by decide +kernel
theorem dX5_eaters_14 : decode cX5_eaters 14 = .ok (.iload_n 1, 1) := by decide +kernel
theorem dX5_eaters_15 : decode cX5_eaters 15 = .ok (.invokevirtual 83, 3) := by decide +kernel
theorem dX5_eaters_18 : decode cX5_eaters 18 = .ok (.ifCond .le 7, 3) := by decide +kernel
theorem dX5_eaters_21 : decode cX5_eaters 21 = .ok (.iconst 1, 1) := by decide +kernel
theorem dX5_eaters_22 : decode cX5_eaters 22 = .ok (.goto 4, 3) := by decide +kernel
theorem dX5_eaters_25 : decode cX5_eaters 25 = .ok (.iconst 0, 1) := by decide +kernel
theorem dX5_eaters_26 : decode cX5_eaters 26 = .ok (.iadd, 1) := by decide +kernel
theorem dX5_eaters_27 : decode cX5_eaters 27 = .ok (.istore_n 2, 1) := by decide +kernel
theorem dX5_eaters_28 : decode cX5_eaters 28 = .ok (.iinc 3 1, 3) := by decide +kernel
theorem dX5_eaters_31 : decode cX5_eaters 31 = .ok (.goto (-27), 3) := by decide +kernel
theorem dX5_eaters_34 : decode cX5_eaters 34 = .ok (.iload_n 2, 1) := by decide +kernel
theorem dX5_eaters_35 : decode cX5_eaters 35 = .ok (.ireturn, 1) := by decide +kernel
set_option maxRecDepth 20000 in
theorem ggX5_breadsOf_X5_eatsNow : GoodIn wsX5_breadsOf wsX5_eatsNow := goodIn_r _ [6, 7, 8, 9, 5, 10, 11, 12, 13, 14, 1, 15, 16, 17, 18, 19, 20, 21, 22, 23, 24, 25, 26, 27, 28, 29, 30, 31, 32, 33, 34, 35, 36, 37, 38, 39, 40, 41, 42, 43, 44, 45, 46, 47, 48, 49, 50, 51] (by decide +kernel) (by decide +kernel)
set_option maxRecDepth 20000 in
theorem gX5_breadsOf_X5_eatsNow : GoodIn wsX5_breadsOf (wsV RX5 83 RX5 yX5_eatsNow wsX5_eatsNow) := goodIn_app (goodIn_of _ (by decide +kernel)) ggX5_breadsOf_X5_eatsNow
theorem dX5_breadsOf_0 : decode cX5_breadsOf 0 = .ok (.iconst 0, 1) := by decide +kernel
theorem dX5_breadsOf_1 : decode cX5_breadsOf 1 = .ok (.istore_n 2, 1) := by decide +kernel
theorem dX5_breadsOf_2 : decode cX5_breadsOf 2 = .ok (.iconst 0, 1) := by decide +kernel
theorem dX5_breadsOf_3 : decode cX5_breadsOf 3 = .ok (.istore_n 3, 1) := by decide +kernel
theorem dX5_breadsOf_4 : decode cX5_breadsOf 4 = .ok (.iload_n 3, 1) := by decide +kernel
theorem dX5_breadsOf_5 : decode cX5_breadsOf 5 = .ok (.aload_n 0, 1) := by decide +kernel
theorem dX5_breadsOf_6 : decode cX5_breadsOf 6 = .ok (.getfield 7, 3) := by decide +kernel
theorem dX5_breadsOf_9 : decode cX5_breadsOf 9 = .ok (.iconst 1, 1) := by decide +kernel
theorem dX5_breadsOf_10 : decode cX5_breadsOf 10 = .ok (.iaload, 1) := by decide +kernel
theorem dX5_breadsOf_11 : decode cX5_breadsOf 11 = .ok (.if_icmp .ge 28, 3) := by decide +kernel
theorem dX5_breadsOf_14 : decode cX5_breadsOf 14 = .ok (.iload_n 2, 1) := by decide +kernel
theorem dX5_breadsOf_15 : decode cX5_breadsOf 15 = .ok (.aload_n 0, 1) := by decide +kernel
theorem dX5_breadsOf_16 : decode cX5_breadsOf 16 = .ok (.iload_n 1, 1) := by decide +kernel
theorem dX5_breadsOf_17 : decode cX5_breadsOf 17 = .ok (.iload_n 3, 1) := by decide +kernel
theorem dX5_breadsOf_18 : decode cX5_breadsOf 18 = .ok (.invokevirtual 83, 3) := by decide +kernel
theorem dX5_breadsOf_21 : decode cX5_breadsOf 21 = .ok (.ifCond .le 9, 3) := by decide +kernel
theorem dX5_breadsOf_24 : decode cX5_breadsOf 24 = .ok (.iconst 1, 1) := by decide +kernel
theorem dX5_breadsOf_25 : decode cX5_breadsOf 25 = .ok (.iload_n 3, 1) := by decide +kernel
theorem dX5_breadsOf_26 : decode cX5_breadsOf 26 = .ok (.ishl, 1) := by decide +kernel
theorem dX5_breadsOf_27 : decode cX5_breadsOf 27 = .ok (.goto 4, 3) := by decide +kernel
theorem dX5_breadsOf_30 : decode cX5_breadsOf 30 = .ok (.iconst 0, 1) := by decide +kernel
theorem dX5_breadsOf_31 : decode cX5_breadsOf 31 = .ok (.ior, 1) := by decide +kernel
theorem dX5_breadsOf_32 : decode cX5_breadsOf 32 = .ok (.istore_n 2, 1) := by decide +kernel
theorem dX5_breadsOf_33 : decode cX5_breadsOf 33 = .ok (.iinc 3 1, 3) := by decide +kernel
theorem dX5_breadsOf_36 : decode cX5_breadsOf 36 = .ok (.goto (-32), 3) := by decide +kernel
theorem dX5_breadsOf_39 : decode cX5_breadsOf 39 = .ok (.iload_n 2, 1) := by decide +kernel
theorem dX5_breadsOf_40 : decode cX5_breadsOf 40 = .ok (.ireturn, 1) := by decide +kernel
set_option maxRecDepth 20000 in
theorem ggX5_layAhead_X5_eatsNow : GoodIn wsX5_layAhead wsX5_eatsNow := goodIn_r _ [6, 7, 8, 9, 5, 10, 11, 12, 13, 14, 15, 16, 17, 18, 19, 20, 21, 22, 23, 24, 25, 26, 27, 28, 29, 30, 31, 32, 33, 34, 35, 36, 37, 38, 39, 40, 41, 42, 43, 44, 45, 46, 47, 48, 49, 50, 51, 52] (by decide +kernel) (by decide +kernel)
set_option maxRecDepth 20000 in
theorem gX5_layAhead_X5_eatsNow : GoodIn wsX5_layAhead (wsV RX5 83 RX5 yX5_eatsNow wsX5_eatsNow) := goodIn_app (goodIn_of _ (by decide +kernel)) ggX5_layAhead_X5_eatsNow
theorem dX5_layAhead_0 : decode cX5_layAhead 0 = .ok (.iconst 0, 1) := by decide +kernel
theorem dX5_layAhead_1 : decode cX5_layAhead 1 = .ok (.istore_n 2, 1) := by decide +kernel
theorem dX5_layAhead_2 : decode cX5_layAhead 2 = .ok (.iload_n 2, 1) := by decide +kernel
theorem dX5_layAhead_3 : decode cX5_layAhead 3 = .ok (.sipush 150, 3) := by decide +kernel
theorem dX5_layAhead_6 : decode cX5_layAhead 6 = .ok (.if_icmp .ge 29, 3) := by decide +kernel
theorem dX5_layAhead_9 : decode cX5_layAhead 9 = .ok (.aload_n 0, 1) := by decide +kernel
theorem dX5_layAhead_10 : decode cX5_layAhead 10 = .ok (.getfield 19, 3) := by decide +kernel
theorem dX5_layAhead_13 : decode cX5_layAhead 13 = .ok (.iload_n 2, 1) := by decide +kernel
theorem dX5_layAhead_14 : decode cX5_layAhead 14 = .ok (.aload_n 0, 1) := by decide +kernel
theorem dX5_layAhead_15 : decode cX5_layAhead 15 = .ok (.iload_n 2, 1) := by decide +kernel
theorem dX5_layAhead_16 : decode cX5_layAhead 16 = .ok (.iload_n 1, 1) := by decide +kernel
theorem dX5_layAhead_17 : decode cX5_layAhead 17 = .ok (.invokevirtual 83, 3) := by decide +kernel
theorem dX5_layAhead_20 : decode cX5_layAhead 20 = .ok (.ifCond .le 7, 3) := by decide +kernel
theorem dX5_layAhead_23 : decode cX5_layAhead 23 = .ok (.iconst 1, 1) := by decide +kernel
theorem dX5_layAhead_24 : decode cX5_layAhead 24 = .ok (.goto 4, 3) := by decide +kernel
theorem dX5_layAhead_27 : decode cX5_layAhead 27 = .ok (.iconst 0, 1) := by decide +kernel
theorem dX5_layAhead_28 : decode cX5_layAhead 28 = .ok (.iastore, 1) := by decide +kernel
theorem dX5_layAhead_29 : decode cX5_layAhead 29 = .ok (.iinc 2 1, 3) := by decide +kernel
theorem dX5_layAhead_32 : decode cX5_layAhead 32 = .ok (.goto (-30), 3) := by decide +kernel
theorem dX5_layAhead_35 : decode cX5_layAhead 35 = .ok (.return_, 1) := by decide +kernel
set_option maxRecDepth 20000 in
theorem ggX5_changed_X5_eatsNow : GoodIn wsX5_changed wsX5_eatsNow := goodIn_r _ [6, 7, 8, 9, 5, 10, 11, 12, 13, 14, 15, 16, 17, 18, 19, 20, 21, 22, 23, 24, 25, 26, 27, 28, 29, 30, 31, 32, 33, 34, 35, 36, 37, 38, 39, 40, 41, 42, 43, 44, 45, 46, 47, 48, 49, 50, 51, 52] (by decide +kernel) (by decide +kernel)
set_option maxRecDepth 20000 in
theorem gX5_changed_X5_eatsNow : GoodIn wsX5_changed (wsV RX5 83 RX5 yX5_eatsNow wsX5_eatsNow) := goodIn_app (goodIn_of _ (by decide +kernel)) ggX5_changed_X5_eatsNow
theorem dX5_changed_0 : decode cX5_changed 0 = .ok (.iconst 0, 1) := by decide +kernel
theorem dX5_changed_1 : decode cX5_changed 1 = .ok (.istore_n 2, 1) := by decide +kernel
theorem dX5_changed_2 : decode cX5_changed 2 = .ok (.iconst 0, 1) := by decide +kernel
theorem dX5_changed_3 : decode cX5_changed 3 = .ok (.istore_n 3, 1) := by decide +kernel
theorem dX5_changed_4 : decode cX5_changed 4 = .ok (.iload_n 3, 1) := by decide +kernel
theorem dX5_changed_5 : decode cX5_changed 5 = .ok (.sipush 150, 3) := by decide +kernel
theorem dX5_changed_8 : decode cX5_changed 8 = .ok (.if_icmp .ge 40, 3) := by decide +kernel
theorem dX5_changed_11 : decode cX5_changed 11 = .ok (.iload_n 2, 1) := by decide +kernel
theorem dX5_changed_12 : decode cX5_changed 12 = .ok (.aload_n 0, 1) := by decide +kernel
theorem dX5_changed_13 : decode cX5_changed 13 = .ok (.iload_n 3, 1) := by decide +kernel
theorem dX5_changed_14 : decode cX5_changed 14 = .ok (.iload_n 1, 1) := by decide +kernel
theorem dX5_changed_15 : decode cX5_changed 15 = .ok (.invokevirtual 83, 3) := by decide +kernel
theorem dX5_changed_18 : decode cX5_changed 18 = .ok (.ifCond .le 7, 3) := by decide +kernel
theorem dX5_changed_21 : decode cX5_changed 21 = .ok (.iconst 1, 1) := by decide +kernel
theorem dX5_changed_22 : decode cX5_changed 22 = .ok (.goto 4, 3) := by decide +kernel
theorem dX5_changed_25 : decode cX5_changed 25 = .ok (.iconst 0, 1) := by decide +kernel
theorem dX5_changed_26 : decode cX5_changed 26 = .ok (.aload_n 0, 1) := by decide +kernel
theorem dX5_changed_27 : decode cX5_changed 27 = .ok (.getfield 19, 3) := by decide +kernel
theorem dX5_changed_30 : decode cX5_changed 30 = .ok (.iload_n 3, 1) := by decide +kernel
theorem dX5_changed_31 : decode cX5_changed 31 = .ok (.iaload, 1) := by decide +kernel
theorem dX5_changed_32 : decode cX5_changed 32 = .ok (.if_icmp .ne 7, 3) := by decide +kernel
theorem dX5_changed_35 : decode cX5_changed 35 = .ok (.iconst 0, 1) := by decide +kernel
theorem dX5_changed_36 : decode cX5_changed 36 = .ok (.goto 4, 3) := by decide +kernel
theorem dX5_changed_39 : decode cX5_changed 39 = .ok (.iconst 1, 1) := by decide +kernel
theorem dX5_changed_40 : decode cX5_changed 40 = .ok (.iadd, 1) := by decide +kernel
theorem dX5_changed_41 : decode cX5_changed 41 = .ok (.istore_n 2, 1) := by decide +kernel
theorem dX5_changed_42 : decode cX5_changed 42 = .ok (.iinc 3 1, 3) := by decide +kernel
theorem dX5_changed_45 : decode cX5_changed 45 = .ok (.goto (-41), 3) := by decide +kernel
theorem dX5_changed_48 : decode cX5_changed 48 = .ok (.iload_n 2, 1) := by decide +kernel
theorem dX5_changed_49 : decode cX5_changed 49 = .ok (.ireturn, 1) := by decide +kernel
set_option maxRecDepth 20000 in
theorem ggX5_open_X5_within : GoodIn wsX5_open wsX5_within := goodIn_r _ [6] (by decide +kernel) (by decide +kernel)
set_option maxRecDepth 20000 in
theorem gX5_open_X5_within : GoodIn wsX5_open (va_wsS RX5 35 yX5_within wsX5_within) := goodIn_app (goodIn_of _ (by decide +kernel)) ggX5_open_X5_within
set_option maxRecDepth 20000 in
theorem ggX5_open_X5_isSalt : GoodIn wsX5_open wsX5_isSalt := goodIn_r _ [9, 3, 4, 5, 6] (by decide +kernel) (by decide +kernel)
set_option maxRecDepth 20000 in
theorem gX5_open_X5_isSalt : GoodIn wsX5_open (va_wsS RX5 86 yX5_isSalt wsX5_isSalt) := goodIn_app (goodIn_of _ (by decide +kernel)) ggX5_open_X5_isSalt
set_option maxRecDepth 20000 in
theorem ggX5_open_X5_save : GoodIn wsX5_open wsX5_save := goodIn_r _ [13, 14, 15, 1, 20, 21, 22, 23, 24, 25, 26, 27, 28, 29, 30, 31, 32] (by decide +kernel) (by decide +kernel)
set_option maxRecDepth 20000 in
theorem gX5_open_X5_save : GoodIn wsX5_open (wsV RX5 89 RX5 yX5_save wsX5_save) := goodIn_app (goodIn_of _ (by decide +kernel)) ggX5_open_X5_save
set_option maxRecDepth 20000 in
theorem ggX5_open_X5_put : GoodIn wsX5_open wsX5_put := goodIn_r _ [19, 1, 20, 21, 22, 23, 24, 25, 26, 27, 28, 29, 30, 31, 32] (by decide +kernel) (by decide +kernel)
set_option maxRecDepth 20000 in
theorem gX5_open_X5_put : GoodIn wsX5_open (wsV RX5 63 RX5 yX5_put wsX5_put) := goodIn_app (goodIn_of _ (by decide +kernel)) ggX5_open_X5_put
theorem dX5_open_0 : decode cX5_open 0 = .ok (.aload_n 0, 1) := by decide +kernel
theorem dX5_open_1 : decode cX5_open 1 = .ok (.iload_n 1, 1) := by decide +kernel
theorem dX5_open_2 : decode cX5_open 2 = .ok (.iconst (-1), 1) := by decide +kernel
theorem dX5_open_3 : decode cX5_open 3 = .ok (.iconst 2, 1) := by decide +kernel
theorem dX5_open_4 : decode cX5_open 4 = .ok (.invokestatic 35, 3) := by decide +kernel
theorem dX5_open_7 : decode cX5_open 7 = .ok (.ifCond .eq 10, 3) := by decide +kernel
theorem dX5_open_10 : decode cX5_open 10 = .ok (.iload_n 2, 1) := by decide +kernel
theorem dX5_open_11 : decode cX5_open 11 = .ok (.invokestatic 86, 3) := by decide +kernel
theorem dX5_open_14 : decode cX5_open 14 = .ok (.ifCond .ne 7, 3) := by decide +kernel
theorem dX5_open_17 : decode cX5_open 17 = .ok (.iconst 1, 1) := by decide +kernel
theorem dX5_open_18 : decode cX5_open 18 = .ok (.goto 19, 3) := by decide +kernel
theorem dX5_open_21 : decode cX5_open 21 = .ok (.aload_n 0, 1) := by decide +kernel
theorem dX5_open_22 : decode cX5_open 22 = .ok (.getfield 7, 3) := by decide +kernel
theorem dX5_open_25 : decode cX5_open 25 = .ok (.iconst 1, 1) := by decide +kernel
theorem dX5_open_26 : decode cX5_open 26 = .ok (.iaload, 1) := by decide +kernel
theorem dX5_open_27 : decode cX5_open 27 = .ok (.bipush 8, 2) := by decide +kernel
theorem dX5_open_29 : decode cX5_open 29 = .ok (.if_icmp .ne 7, 3) := by decide +kernel
theorem dX5_open_32 : decode cX5_open 32 = .ok (.iconst 2, 1) := by decide +kernel
theorem dX5_open_33 : decode cX5_open 33 = .ok (.goto 4, 3) := by decide +kernel
theorem dX5_open_36 : decode cX5_open 36 = .ok (.iconst 0, 1) := by decide +kernel
theorem dX5_open_37 : decode cX5_open 37 = .ok (.putfield 28, 3) := by decide +kernel
theorem dX5_open_40 : decode cX5_open 40 = .ok (.aload_n 0, 1) := by decide +kernel
theorem dX5_open_41 : decode cX5_open 41 = .ok (.getfield 28, 3) := by decide +kernel
theorem dX5_open_44 : decode cX5_open 44 = .ok (.ifCond .le 5, 3) := by decide +kernel
theorem dX5_open_47 : decode cX5_open 47 = .ok (.iconst 0, 1) := by decide +kernel
theorem dX5_open_48 : decode cX5_open 48 = .ok (.ireturn, 1) := by decide +kernel
theorem dX5_open_49 : decode cX5_open 49 = .ok (.aload_n 0, 1) := by decide +kernel
theorem dX5_open_50 : decode cX5_open 50 = .ok (.invokevirtual 89, 3) := by decide +kernel
theorem dX5_open_53 : decode cX5_open 53 = .ok (.aload_n 0, 1) := by decide +kernel
theorem dX5_open_54 : decode cX5_open 54 = .ok (.getfield 7, 3) := by decide +kernel
theorem dX5_open_57 : decode cX5_open 57 = .ok (.iconst 1, 1) := by decide +kernel
theorem dX5_open_58 : decode cX5_open 58 = .ok (.iaload, 1) := by decide +kernel
theorem dX5_open_59 : decode cX5_open 59 = .ok (.istore 4, 2) := by decide +kernel
theorem dX5_open_61 : decode cX5_open 61 = .ok (.aload_n 0, 1) := by decide +kernel
theorem dX5_open_62 : decode cX5_open 62 = .ok (.getfield 7, 3) := by decide +kernel
theorem dX5_open_65 : decode cX5_open 65 = .ok (.iconst 1, 1) := by decide +kernel
theorem dX5_open_66 : decode cX5_open 66 = .ok (.dup2, 1) := by decide +kernel
theorem dX5_open_67 : decode cX5_open 67 = .ok (.iaload, 1) := by decide +kernel
theorem dX5_open_68 : decode cX5_open 68 = .ok (.iconst 1, 1) := by decide +kernel
theorem dX5_open_69 : decode cX5_open 69 = .ok (.iadd, 1) := by decide +kernel
theorem dX5_open_70 : decode cX5_open 70 = .ok (.iastore, 1) := by decide +kernel
theorem dX5_open_71 : decode cX5_open 71 = .ok (.aload_n 0, 1) := by decide +kernel
theorem dX5_open_72 : decode cX5_open 72 = .ok (.iload 4, 2) := by decide +kernel
theorem dX5_open_74 : decode cX5_open 74 = .ok (.iconst 0, 1) := by decide +kernel
theorem dX5_open_75 : decode cX5_open 75 = .ok (.iconst 1, 1) := by decide +kernel
theorem dX5_open_76 : decode cX5_open 76 = .ok (.invokevirtual 63, 3) := by decide +kernel
theorem dX5_open_79 : decode cX5_open 79 = .ok (.aload_n 0, 1) := by decide +kernel
theorem dX5_open_80 : decode cX5_open 80 = .ok (.iload 4, 2) := by decide +kernel
theorem dX5_open_82 : decode cX5_open 82 = .ok (.iconst 1, 1) := by decide +kernel
theorem dX5_open_83 : decode cX5_open 83 = .ok (.iload_n 1, 1) := by decide +kernel
theorem dX5_open_84 : decode cX5_open 84 = .ok (.invokevirtual 63, 3) := by decide +kernel
theorem dX5_open_87 : decode cX5_open 87 = .ok (.aload_n 0, 1) := by decide +kernel
theorem dX5_open_88 : decode cX5_open 88 = .ok (.iload 4, 2) := by decide +kernel
theorem dX5_open_90 : decode cX5_open 90 = .ok (.iconst 2, 1) := by decide +kernel
theorem dX5_open_91 : decode cX5_open 91 = .ok (.iload_n 2, 1) := by decide +kernel
theorem dX5_open_92 : decode cX5_open 92 = .ok (.invokevirtual 63, 3) := by decide +kernel
theorem dX5_open_95 : decode cX5_open 95 = .ok (.aload_n 0, 1) := by decide +kernel
theorem dX5_open_96 : decode cX5_open 96 = .ok (.iload 4, 2) := by decide +kernel
theorem dX5_open_98 : decode cX5_open 98 = .ok (.iconst 3, 1) := by decide +kernel
theorem dX5_open_99 : decode cX5_open 99 = .ok (.iconst 0, 1) := by decide +kernel
theorem dX5_open_100 : decode cX5_open 100 = .ok (.invokevirtual 63, 3) := by decide +kernel
theorem dX5_open_103 : decode cX5_open 103 = .ok (.aload_n 0, 1) := by decide +kernel
theorem dX5_open_104 : decode cX5_open 104 = .ok (.iload 4, 2) := by decide +kernel
theorem dX5_open_106 : decode cX5_open 106 = .ok (.iconst 4, 1) := by decide +kernel
theorem dX5_open_107 : decode cX5_open 107 = .ok (.iload_n 3, 1) := by decide +kernel
theorem dX5_open_108 : decode cX5_open 108 = .ok (.ifCond .eq 7, 3) := by decide +kernel
theorem dX5_open_111 : decode cX5_open 111 = .ok (.iconst 1, 1) := by decide +kernel
theorem dX5_open_112 : decode cX5_open 112 = .ok (.goto 4, 3) := by decide +kernel
theorem dX5_open_115 : decode cX5_open 115 = .ok (.iconst 0, 1) := by decide +kernel
theorem dX5_open_116 : decode cX5_open 116 = .ok (.invokevirtual 63, 3) := by decide +kernel
theorem dX5_open_119 : decode cX5_open 119 = .ok (.aload_n 0, 1) := by decide +kernel
theorem dX5_open_120 : decode cX5_open 120 = .ok (.iload 4, 2) := by decide +kernel
theorem dX5_open_122 : decode cX5_open 122 = .ok (.iconst 5, 1) := by decide +kernel
theorem dX5_open_123 : decode cX5_open 123 = .ok (.iconst 0, 1) := by decide +kernel
theorem dX5_open_124 : decode cX5_open 124 = .ok (.invokevirtual 63, 3) := by decide +kernel
theorem dX5_open_127 : decode cX5_open 127 = .ok (.iload 4, 2) := by decide +kernel
theorem dX5_open_129 : decode cX5_open 129 = .ok (.ireturn, 1) := by decide +kernel
set_option maxRecDepth 20000 in
theorem ggX5_personsWith_X5_isHeld : GoodIn wsX5_personsWith wsX5_isHeld := goodIn_r _ [5, 6, 7, 8, 9, 10, 11, 12, 13, 14, 15, 16, 17, 18, 19] (by decide +kernel) (by decide +kernel)
set_option maxRecDepth 20000 in
theorem gX5_personsWith_X5_isHeld : GoodIn wsX5_personsWith (wsV RX5 70 RX5 yX5_isHeld wsX5_isHeld) := goodIn_app (goodIn_of _ (by decide +kernel)) ggX5_personsWith_X5_isHeld
theorem dX5_personsWith_0 : decode cX5_personsWith 0 = .ok (.iconst 0, 1) := by decide +kernel
theorem dX5_personsWith_1 : decode cX5_personsWith 1 = .ok (.istore_n 3, 1) := by decide +kernel
theorem dX5_personsWith_2 : decode cX5_personsWith 2 = .ok (.iconst 0, 1) := by decide +kernel
theorem dX5_personsWith_3 : decode cX5_personsWith 3 = .ok (.istore 4, 2) := by decide +kernel
theorem dX5_personsWith_5 : decode cX5_personsWith 5 = .ok (.iload 4, 2) := by decide +kernel
theorem dX5_personsWith_7 : decode cX5_personsWith 7 = .ok (.sipush 150, 3) := by decide +kernel
theorem dX5_personsWith_10 : decode cX5_personsWith 10 = .ok (.if_icmp .ge 28, 3) := by decide +kernel
theorem dX5_personsWith_13 : decode cX5_personsWith 13 = .ok (.iload_n 3, 1) := by decide +kernel
theorem dX5_personsWith_14 : decode cX5_personsWith 14 = .ok (.aload_n 0, 1) := by decide +kernel
theorem dX5_personsWith_15 : decode cX5_personsWith 15 = .ok (.iload_n 1, 1) := by decide +kernel
theorem dX5_personsWith_16 : decode cX5_personsWith 16 = .ok (.iload 4, 2) := by decide +kernel
theorem dX5_personsWith_18 : decode cX5_personsWith 18 = .ok (.iload_n 2, 1) := by decide +kernel
theorem dX5_personsWith_19 : decode cX5_personsWith 19 = .ok (.invokevirtual 70, 3) := by decide +kernel
theorem dX5_personsWith_22 : decode cX5_personsWith 22 = .ok (.ifCond .eq 7, 3) := by decide +kernel
theorem dX5_personsWith_25 : decode cX5_personsWith 25 = .ok (.iconst 1, 1) := by decide +kernel
theorem dX5_personsWith_26 : decode cX5_personsWith 26 = .ok (.goto 4, 3) := by decide +kernel
theorem dX5_personsWith_29 : decode cX5_personsWith 29 = .ok (.iconst 0, 1) := by decide +kernel
theorem dX5_personsWith_30 : decode cX5_personsWith 30 = .ok (.iadd, 1) := by decide +kernel
theorem dX5_personsWith_31 : decode cX5_personsWith 31 = .ok (.istore_n 3, 1) := by decide +kernel
theorem dX5_personsWith_32 : decode cX5_personsWith 32 = .ok (.iinc 4 1, 3) := by decide +kernel
theorem dX5_personsWith_35 : decode cX5_personsWith 35 = .ok (.goto (-30), 3) := by decide +kernel
theorem dX5_personsWith_38 : decode cX5_personsWith 38 = .ok (.iload_n 3, 1) := by decide +kernel
theorem dX5_personsWith_39 : decode cX5_personsWith 39 = .ok (.ireturn, 1) := by decide +kernel
set_option maxRecDepth 20000 in
theorem ggX5_ends_X5_setShare : GoodIn wsX5_ends wsX5_setShare := goodIn_r _ [5, 6, 7, 8, 4, 9, 10, 11, 12, 13, 14, 15, 16, 17, 18, 19, 20, 21, 22, 23, 24, 25, 26, 27, 28, 29, 30, 31, 32, 33, 34, 35, 36, 37, 38, 39] (by decide +kernel) (by decide +kernel)
set_option maxRecDepth 20000 in
theorem gX5_ends_X5_setShare : GoodIn wsX5_ends (wsV RX5 92 RX5 yX5_setShare wsX5_setShare) := goodIn_app (goodIn_of _ (by decide +kernel)) ggX5_ends_X5_setShare
set_option maxRecDepth 20000 in
theorem ggX5_ends_X5_put : GoodIn wsX5_ends wsX5_put := goodIn_r _ [26, 10, 27, 28, 29, 30, 31, 32, 33, 34, 35, 36, 37, 38, 39] (by decide +kernel) (by decide +kernel)
set_option maxRecDepth 20000 in
theorem gX5_ends_X5_put : GoodIn wsX5_ends (wsV RX5 63 RX5 yX5_put wsX5_put) := goodIn_app (goodIn_of _ (by decide +kernel)) ggX5_ends_X5_put
theorem dX5_ends_0 : decode cX5_ends 0 = .ok (.aload_n 0, 1) := by decide +kernel
theorem dX5_ends_1 : decode cX5_ends 1 = .ok (.iload_n 1, 1) := by decide +kernel
theorem dX5_ends_2 : decode cX5_ends 2 = .ok (.iconst 0, 1) := by decide +kernel
theorem dX5_ends_3 : decode cX5_ends 3 = .ok (.invokevirtual 92, 3) := by decide +kernel
theorem dX5_ends_6 : decode cX5_ends 6 = .ok (.aload_n 0, 1) := by decide +kernel
theorem dX5_ends_7 : decode cX5_ends 7 = .ok (.iload_n 1, 1) := by decide +kernel
theorem dX5_ends_8 : decode cX5_ends 8 = .ok (.iconst 0, 1) := by decide +kernel
theorem dX5_ends_9 : decode cX5_ends 9 = .ok (.iconst 0, 1) := by decide +kernel
theorem dX5_ends_10 : decode cX5_ends 10 = .ok (.invokevirtual 63, 3) := by decide +kernel
theorem dX5_ends_13 : decode cX5_ends 13 = .ok (.return_, 1) := by decide +kernel
set_option maxRecDepth 20000 in
theorem ggX5_end_X5_isBread : GoodIn wsX5_end wsX5_isBread := goodIn_r _ [6, 7, 8, 9, 5, 10, 57, 58, 59, 60, 61, 62, 63, 64, 65, 66, 67, 68, 69] (by decide +kernel) (by decide +kernel)
set_option maxRecDepth 20000 in
theorem gX5_end_X5_isBread : GoodIn wsX5_end (wsV RX5 96 RX5 yX5_isBread wsX5_isBread) := goodIn_app (goodIn_of _ (by decide +kernel)) ggX5_end_X5_isBread
set_option maxRecDepth 20000 in
theorem ggX5_end_X5_isOpen : GoodIn wsX5_end wsX5_isOpen := goodIn_r _ [14, 15, 16, 17, 5, 18, 7, 57, 58, 59, 60, 61, 62, 63, 64, 65, 66, 67, 68, 69] (by decide +kernel) (by decide +kernel)
set_option maxRecDepth 20000 in
theorem gX5_end_X5_isOpen : GoodIn wsX5_end (wsV RX5 67 RX5 yX5_isOpen wsX5_isOpen) := goodIn_app (goodIn_of _ (by decide +kernel)) ggX5_end_X5_isOpen
set_option maxRecDepth 20000 in
theorem ggX5_end_X5_save : GoodIn wsX5_end wsX5_save := goodIn_r _ [22, 23, 24, 7, 57, 58, 59, 60, 61, 62, 63, 64, 65, 66, 67, 68, 69] (by decide +kernel) (by decide +kernel)
set_option maxRecDepth 20000 in
theorem gX5_end_X5_save : GoodIn wsX5_end (wsV RX5 89 RX5 yX5_save wsX5_save) := goodIn_app (goodIn_of _ (by decide +kernel)) ggX5_end_X5_save
set_option maxRecDepth 20000 in
theorem ggX5_end_X5_ends : GoodIn wsX5_end wsX5_ends := goodIn_r _ [28, 29, 30, 31, 5, 32, 15, 16, 17, 18, 7, 33, 34, 35, 36, 37, 38, 39, 40, 41, 42, 43, 44, 45, 46, 47, 48, 57, 58, 59, 60, 61, 62, 63, 64, 65, 66, 67, 68, 69] (by decide +kernel) (by decide +kernel)
set_option maxRecDepth 20000 in
theorem gX5_end_X5_ends : GoodIn wsX5_end (wsV RX5 99 RX5 yX5_ends wsX5_ends) := goodIn_app (goodIn_of _ (by decide +kernel)) ggX5_end_X5_ends
set_option maxRecDepth 20000 in
theorem ggX5_end_X5_personsWith : GoodIn wsX5_end wsX5_personsWith := goodIn_r _ [52, 53, 54, 55, 5, 56, 7, 57, 58, 59, 60, 61, 62, 63, 64, 65, 66, 67, 68, 69] (by decide +kernel) (by decide +kernel)
set_option maxRecDepth 20000 in
theorem gX5_end_X5_personsWith : GoodIn wsX5_end (wsV RX5 102 RX5 yX5_personsWith wsX5_personsWith) := goodIn_app (goodIn_of _ (by decide +kernel)) ggX5_end_X5_personsWith
theorem dX5_end_0 : decode cX5_end 0 = .ok (.aload_n 0, 1) := by decide +kernel
theorem dX5_end_1 : decode cX5_end 1 = .ok (.aload_n 0, 1) := by decide +kernel
theorem dX5_end_2 : decode cX5_end 2 = .ok (.iload_n 1, 1) := by decide +kernel
theorem dX5_end_3 : decode cX5_end 3 = .ok (.invokevirtual 96, 3) := by decide +kernel
theorem dX5_end_6 : decode cX5_end 6 = .ok (.ifCond .ne 7, 3) := by decide +kernel
theorem dX5_end_9 : decode cX5_end 9 = .ok (.iconst 1, 1) := by decide +kernel
theorem dX5_end_10 : decode cX5_end 10 = .ok (.goto 16, 3) := by decide +kernel
theorem dX5_end_13 : decode cX5_end 13 = .ok (.aload_n 0, 1) := by decide +kernel
theorem dX5_end_14 : decode cX5_end 14 = .ok (.iload_n 1, 1) := by decide +kernel
theorem dX5_end_15 : decode cX5_end 15 = .ok (.invokevirtual 67, 3) := by decide +kernel
theorem dX5_end_18 : decode cX5_end 18 = .ok (.ifCond .eq 7, 3) := by decide +kernel
theorem dX5_end_21 : decode cX5_end 21 = .ok (.iconst 0, 1) := by decide +kernel
theorem dX5_end_22 : decode cX5_end 22 = .ok (.goto 4, 3) := by decide +kernel
theorem dX5_end_25 : decode cX5_end 25 = .ok (.iconst 2, 1) := by decide +kernel
theorem dX5_end_26 : decode cX5_end 26 = .ok (.putfield 28, 3) := by decide +kernel
theorem dX5_end_29 : decode cX5_end 29 = .ok (.aload_n 0, 1) := by decide +kernel
theorem dX5_end_30 : decode cX5_end 30 = .ok (.getfield 28, 3) := by decide +kernel
theorem dX5_end_33 : decode cX5_end 33 = .ok (.ifCond .le 5, 3) := by decide +kernel
theorem dX5_end_36 : decode cX5_end 36 = .ok (.iconst 0, 1) := by decide +kernel
theorem dX5_end_37 : decode cX5_end 37 = .ok (.ireturn, 1) := by decide +kernel
theorem dX5_end_38 : decode cX5_end 38 = .ok (.aload_n 0, 1) := by decide +kernel
theorem dX5_end_39 : decode cX5_end 39 = .ok (.invokevirtual 89, 3) := by decide +kernel
theorem dX5_end_42 : decode cX5_end 42 = .ok (.aload_n 0, 1) := by decide +kernel
theorem dX5_end_43 : decode cX5_end 43 = .ok (.iload_n 1, 1) := by decide +kernel
theorem dX5_end_44 : decode cX5_end 44 = .ok (.invokevirtual 99, 3) := by decide +kernel
theorem dX5_end_47 : decode cX5_end 47 = .ok (.aload_n 0, 1) := by decide +kernel
theorem dX5_end_48 : decode cX5_end 48 = .ok (.sipush 653, 3) := by decide +kernel
theorem dX5_end_51 : decode cX5_end 51 = .ok (.iload_n 1, 1) := by decide +kernel
theorem dX5_end_52 : decode cX5_end 52 = .ok (.invokevirtual 102, 3) := by decide +kernel
theorem dX5_end_55 : decode cX5_end 55 = .ok (.ireturn, 1) := by decide +kernel
set_option maxRecDepth 20000 in
theorem ggX5_isShare_X5_within : GoodIn wsX5_isShare wsX5_within := goodIn_r _ [4] (by decide +kernel) (by decide +kernel)
set_option maxRecDepth 20000 in
theorem gX5_isShare_X5_within : GoodIn wsX5_isShare (va_wsS RX5 35 yX5_within wsX5_within) := goodIn_app (goodIn_of _ (by decide +kernel)) ggX5_isShare_X5_within
theorem dX5_isShare_0 : decode cX5_isShare 0 = .ok (.iload_n 0, 1) := by decide +kernel
theorem dX5_isShare_1 : decode cX5_isShare 1 = .ok (.iconst 0, 1) := by decide +kernel
theorem dX5_isShare_2 : decode cX5_isShare 2 = .ok (.bipush 100, 2) := by decide +kernel
theorem dX5_isShare_4 : decode cX5_isShare 4 = .ok (.invokestatic 35, 3) := by decide +kernel
theorem dX5_isShare_7 : decode cX5_isShare 7 = .ok (.ireturn, 1) := by decide +kernel
set_option maxRecDepth 20000 in
theorem ggX5_canRaise_X5_isOpen : GoodIn wsX5_canRaise wsX5_isOpen := goodIn_r _ [5, 6, 7, 8, 4, 9, 10, 23, 24, 25, 26, 27, 28, 29, 30, 31, 32, 33, 34, 35] (by decide +kernel) (by decide +kernel)
set_option maxRecDepth 20000 in
theorem gX5_canRaise_X5_isOpen : GoodIn wsX5_canRaise (wsV RX5 67 RX5 yX5_isOpen wsX5_isOpen) := goodIn_app (goodIn_of _ (by decide +kernel)) ggX5_canRaise_X5_isOpen
set_option maxRecDepth 20000 in
theorem ggX5_canRaise_X5_of : GoodIn wsX5_canRaise wsX5_of := goodIn_r _ [9, 10, 23, 24, 25, 26, 27, 28, 29, 30, 31, 32, 33, 34, 35] (by decide +kernel) (by decide +kernel)
set_option maxRecDepth 20000 in
theorem gX5_canRaise_X5_of : GoodIn wsX5_canRaise (wsV RX5 39 RX5 yX5_of wsX5_of) := goodIn_app (goodIn_of _ (by decide +kernel)) ggX5_canRaise_X5_of
set_option maxRecDepth 20000 in
theorem ggX5_canRaise_X5_hasRoom : GoodIn wsX5_canRaise wsX5_hasRoom := goodIn_r _ [14, 15, 16, 17, 4, 18, 6, 7, 8, 9, 10, 19, 20, 21, 22, 23, 24, 25, 26, 27, 28, 29, 30, 31, 32, 33, 34, 35] (by decide +kernel) (by decide +kernel)
set_option maxRecDepth 20000 in
theorem gX5_canRaise_X5_hasRoom : GoodIn wsX5_canRaise (wsV RX5 105 RX5 yX5_hasRoom wsX5_hasRoom) := goodIn_app (goodIn_of _ (by decide +kernel)) ggX5_canRaise_X5_hasRoom
theorem dX5_canRaise_0 : decode cX5_canRaise 0 = .ok (.aload_n 0, 1) := by decide +kernel
theorem dX5_canRaise_1 : decode cX5_canRaise 1 = .ok (.iload_n 1, 1) := by decide +kernel
theorem dX5_canRaise_2 : decode cX5_canRaise 2 = .ok (.invokevirtual 67, 3) := by decide +kernel
theorem dX5_canRaise_5 : decode cX5_canRaise 5 = .ok (.ifCond .eq 26, 3) := by decide +kernel
theorem dX5_canRaise_8 : decode cX5_canRaise 8 = .ok (.aload_n 0, 1) := by decide +kernel
theorem dX5_canRaise_9 : decode cX5_canRaise 9 = .ok (.iload_n 1, 1) := by decide +kernel
theorem dX5_canRaise_10 : decode cX5_canRaise 10 = .ok (.iconst 3, 1) := by decide +kernel
theorem dX5_canRaise_11 : decode cX5_canRaise 11 = .ok (.invokevirtual 39, 3) := by decide +kernel
theorem dX5_canRaise_14 : decode cX5_canRaise 14 = .ok (.iload_n 2, 1) := by decide +kernel
theorem dX5_canRaise_15 : decode cX5_canRaise 15 = .ok (.if_icmp .gt 16, 3) := by decide +kernel
theorem dX5_canRaise_18 : decode cX5_canRaise 18 = .ok (.aload_n 0, 1) := by decide +kernel
theorem dX5_canRaise_19 : decode cX5_canRaise 19 = .ok (.iload_n 1, 1) := by decide +kernel
theorem dX5_canRaise_20 : decode cX5_canRaise 20 = .ok (.iload_n 2, 1) := by decide +kernel
theorem dX5_canRaise_21 : decode cX5_canRaise 21 = .ok (.invokevirtual 105, 3) := by decide +kernel
theorem dX5_canRaise_24 : decode cX5_canRaise 24 = .ok (.ifCond .eq 7, 3) := by decide +kernel
theorem dX5_canRaise_27 : decode cX5_canRaise 27 = .ok (.iconst 1, 1) := by decide +kernel
theorem dX5_canRaise_28 : decode cX5_canRaise 28 = .ok (.goto 4, 3) := by decide +kernel
theorem dX5_canRaise_31 : decode cX5_canRaise 31 = .ok (.iconst 0, 1) := by decide +kernel
theorem dX5_canRaise_32 : decode cX5_canRaise 32 = .ok (.ireturn, 1) := by decide +kernel
set_option maxRecDepth 20000 in
theorem ggX5_raise_X5_isBread : GoodIn wsX5_raise wsX5_isBread := goodIn_r _ [6, 7, 8, 9, 5, 10, 88, 89, 90, 91, 92, 93, 94, 95, 96, 97, 98, 99, 100] (by decide +kernel) (by decide +kernel)
set_option maxRecDepth 20000 in
theorem gX5_raise_X5_isBread : GoodIn wsX5_raise (wsV RX5 96 RX5 yX5_isBread wsX5_isBread) := goodIn_app (goodIn_of _ (by decide +kernel)) ggX5_raise_X5_isBread
set_option maxRecDepth 20000 in
theorem ggX5_raise_X5_isShare : GoodIn wsX5_raise wsX5_isShare := goodIn_r _ [13, 8, 9, 5, 10] (by decide +kernel) (by decide +kernel)
set_option maxRecDepth 20000 in
theorem gX5_raise_X5_isShare : GoodIn wsX5_raise (va_wsS RX5 108 yX5_isShare wsX5_isShare) := goodIn_app (goodIn_of _ (by decide +kernel)) ggX5_raise_X5_isShare
set_option maxRecDepth 20000 in
theorem ggX5_raise_X5_canRaise : GoodIn wsX5_raise wsX5_canRaise := goodIn_r _ [17, 18, 19, 20, 5, 21, 22, 23, 24, 25, 7, 26, 27, 28, 29, 30, 31, 32, 33, 34, 35, 36, 37, 88, 89, 90, 91, 92, 93, 94, 95, 96, 97, 98, 99, 100] (by decide +kernel) (by decide +kernel)
set_option maxRecDepth 20000 in
theorem gX5_raise_X5_canRaise : GoodIn wsX5_raise (wsV RX5 111 RX5 yX5_canRaise wsX5_canRaise) := goodIn_app (goodIn_of _ (by decide +kernel)) ggX5_raise_X5_canRaise
set_option maxRecDepth 20000 in
theorem ggX5_raise_X5_save : GoodIn wsX5_raise wsX5_save := goodIn_r _ [41, 42, 43, 7, 88, 89, 90, 91, 92, 93, 94, 95, 96, 97, 98, 99, 100] (by decide +kernel) (by decide +kernel)
set_option maxRecDepth 20000 in
theorem gX5_raise_X5_save : GoodIn wsX5_raise (wsV RX5 89 RX5 yX5_save wsX5_save) := goodIn_app (goodIn_of _ (by decide +kernel)) ggX5_raise_X5_save
set_option maxRecDepth 20000 in
theorem ggX5_raise_X5_eaters : GoodIn wsX5_raise wsX5_eaters := goodIn_r _ [47, 48, 49, 50, 5, 51, 18, 19, 20, 21, 22, 23, 24, 25, 7, 52, 53, 54, 55, 56, 57, 58, 59, 30, 31, 32, 33, 60, 61, 62, 63, 64, 65, 66, 67, 68, 69, 70, 71, 88, 89, 90, 91, 92, 93, 94, 95, 96, 97, 98, 99, 100] (by decide +kernel) (by decide +kernel)
set_option maxRecDepth 20000 in
theorem gX5_raise_X5_eaters : GoodIn wsX5_raise (wsV RX5 114 RX5 yX5_eaters wsX5_eaters) := goodIn_app (goodIn_of _ (by decide +kernel)) ggX5_raise_X5_eaters
set_option maxRecDepth 20000 in
theorem ggX5_raise_X5_setShare : GoodIn wsX5_raise wsX5_setShare := goodIn_r _ [75, 22, 23, 24, 5, 25, 7, 30, 31, 32, 33, 76, 77, 78, 79, 80, 81, 82, 83, 84, 85, 86, 87, 88, 89, 90, 91, 92, 93, 94, 95, 96, 97, 98, 99, 100] (by decide +kernel) (by decide +kernel)
set_option maxRecDepth 20000 in
theorem gX5_raise_X5_setShare : GoodIn wsX5_raise (wsV RX5 92 RX5 yX5_setShare wsX5_setShare) := goodIn_app (goodIn_of _ (by decide +kernel)) ggX5_raise_X5_setShare
theorem dX5_raise_0 : decode cX5_raise 0 = .ok (.aload_n 0, 1) := by decide +kernel
theorem dX5_raise_1 : decode cX5_raise 1 = .ok (.aload_n 0, 1) := by decide +kernel
theorem dX5_raise_2 : decode cX5_raise 2 = .ok (.iload_n 1, 1) := by decide +kernel
theorem dX5_raise_3 : decode cX5_raise 3 = .ok (.invokevirtual 96, 3) := by decide +kernel
theorem dX5_raise_6 : decode cX5_raise 6 = .ok (.ifCond .ne 7, 3) := by decide +kernel
theorem dX5_raise_9 : decode cX5_raise 9 = .ok (.iconst 1, 1) := by decide +kernel
theorem dX5_raise_10 : decode cX5_raise 10 = .ok (.goto 28, 3) := by decide +kernel
theorem dX5_raise_13 : decode cX5_raise 13 = .ok (.iload_n 2, 1) := by decide +kernel
theorem dX5_raise_14 : decode cX5_raise 14 = .ok (.invokestatic 108, 3) := by decide +kernel
theorem dX5_raise_17 : decode cX5_raise 17 = .ok (.ifCond .ne 7, 3) := by decide +kernel
theorem dX5_raise_20 : decode cX5_raise 20 = .ok (.iconst 2, 1) := by decide +kernel
theorem dX5_raise_21 : decode cX5_raise 21 = .ok (.goto 17, 3) := by decide +kernel
theorem dX5_raise_24 : decode cX5_raise 24 = .ok (.aload_n 0, 1) := by decide +kernel
theorem dX5_raise_25 : decode cX5_raise 25 = .ok (.iload_n 1, 1) := by decide +kernel
theorem dX5_raise_26 : decode cX5_raise 26 = .ok (.iload_n 2, 1) := by decide +kernel
theorem dX5_raise_27 : decode cX5_raise 27 = .ok (.invokevirtual 111, 3) := by decide +kernel
theorem dX5_raise_30 : decode cX5_raise 30 = .ok (.ifCond .eq 7, 3) := by decide +kernel
theorem dX5_raise_33 : decode cX5_raise 33 = .ok (.iconst 0, 1) := by decide +kernel
theorem dX5_raise_34 : decode cX5_raise 34 = .ok (.goto 4, 3) := by decide +kernel
theorem dX5_raise_37 : decode cX5_raise 37 = .ok (.iconst 3, 1) := by decide +kernel
theorem dX5_raise_38 : decode cX5_raise 38 = .ok (.putfield 28, 3) := by decide +kernel
theorem dX5_raise_41 : decode cX5_raise 41 = .ok (.aload_n 0, 1) := by decide +kernel
theorem dX5_raise_42 : decode cX5_raise 42 = .ok (.getfield 28, 3) := by decide +kernel
theorem dX5_raise_45 : decode cX5_raise 45 = .ok (.ifCond .le 5, 3) := by decide +kernel
theorem dX5_raise_48 : decode cX5_raise 48 = .ok (.iconst 0, 1) := by decide +kernel
theorem dX5_raise_49 : decode cX5_raise 49 = .ok (.ireturn, 1) := by decide +kernel
theorem dX5_raise_50 : decode cX5_raise 50 = .ok (.aload_n 0, 1) := by decide +kernel
theorem dX5_raise_51 : decode cX5_raise 51 = .ok (.invokevirtual 89, 3) := by decide +kernel
theorem dX5_raise_54 : decode cX5_raise 54 = .ok (.aload_n 0, 1) := by decide +kernel
theorem dX5_raise_55 : decode cX5_raise 55 = .ok (.iload_n 1, 1) := by decide +kernel
theorem dX5_raise_56 : decode cX5_raise 56 = .ok (.invokevirtual 114, 3) := by decide +kernel
theorem dX5_raise_59 : decode cX5_raise 59 = .ok (.istore_n 3, 1) := by decide +kernel
theorem dX5_raise_60 : decode cX5_raise 60 = .ok (.aload_n 0, 1) := by decide +kernel
theorem dX5_raise_61 : decode cX5_raise 61 = .ok (.iload_n 1, 1) := by decide +kernel
theorem dX5_raise_62 : decode cX5_raise 62 = .ok (.iload_n 2, 1) := by decide +kernel
theorem dX5_raise_63 : decode cX5_raise 63 = .ok (.invokevirtual 92, 3) := by decide +kernel
theorem dX5_raise_66 : decode cX5_raise 66 = .ok (.aload_n 0, 1) := by decide +kernel
theorem dX5_raise_67 : decode cX5_raise 67 = .ok (.iload_n 1, 1) := by decide +kernel
theorem dX5_raise_68 : decode cX5_raise 68 = .ok (.invokevirtual 114, 3) := by decide +kernel
theorem dX5_raise_71 : decode cX5_raise 71 = .ok (.iload_n 3, 1) := by decide +kernel
theorem dX5_raise_72 : decode cX5_raise 72 = .ok (.isub, 1) := by decide +kernel
theorem dX5_raise_73 : decode cX5_raise 73 = .ok (.ireturn, 1) := by decide +kernel
set_option maxRecDepth 20000 in
theorem ggX5_canLower_X5_isOpen : GoodIn wsX5_canLower wsX5_isOpen := goodIn_r _ [5, 6, 7, 8, 4, 9, 10, 11, 12, 13, 14, 15, 16, 17, 18, 19, 20, 21, 22, 23] (by decide +kernel) (by decide +kernel)
set_option maxRecDepth 20000 in
theorem gX5_canLower_X5_isOpen : GoodIn wsX5_canLower (wsV RX5 67 RX5 yX5_isOpen wsX5_isOpen) := goodIn_app (goodIn_of _ (by decide +kernel)) ggX5_canLower_X5_isOpen
set_option maxRecDepth 20000 in
theorem ggX5_canLower_X5_of : GoodIn wsX5_canLower wsX5_of := goodIn_r _ [9, 10, 11, 12, 13, 14, 15, 16, 17, 18, 19, 20, 21, 22, 23] (by decide +kernel) (by decide +kernel)
set_option maxRecDepth 20000 in
theorem gX5_canLower_X5_of : GoodIn wsX5_canLower (wsV RX5 39 RX5 yX5_of wsX5_of) := goodIn_app (goodIn_of _ (by decide +kernel)) ggX5_canLower_X5_of
theorem dX5_canLower_0 : decode cX5_canLower 0 = .ok (.aload_n 0, 1) := by decide +kernel
theorem dX5_canLower_1 : decode cX5_canLower 1 = .ok (.iload_n 1, 1) := by decide +kernel
theorem dX5_canLower_2 : decode cX5_canLower 2 = .ok (.invokevirtual 67, 3) := by decide +kernel
theorem dX5_canLower_5 : decode cX5_canLower 5 = .ok (.ifCond .eq 17, 3) := by decide +kernel
theorem dX5_canLower_8 : decode cX5_canLower 8 = .ok (.aload_n 0, 1) := by decide +kernel
theorem dX5_canLower_9 : decode cX5_canLower 9 = .ok (.iload_n 1, 1) := by decide +kernel
theorem dX5_canLower_10 : decode cX5_canLower 10 = .ok (.iconst 3, 1) := by decide +kernel
theorem dX5_canLower_11 : decode cX5_canLower 11 = .ok (.invokevirtual 39, 3) := by decide +kernel
theorem dX5_canLower_14 : decode cX5_canLower 14 = .ok (.iload_n 2, 1) := by decide +kernel
theorem dX5_canLower_15 : decode cX5_canLower 15 = .ok (.if_icmp .lt 7, 3) := by decide +kernel
theorem dX5_canLower_18 : decode cX5_canLower 18 = .ok (.iconst 1, 1) := by decide +kernel
theorem dX5_canLower_19 : decode cX5_canLower 19 = .ok (.goto 4, 3) := by decide +kernel
theorem dX5_canLower_22 : decode cX5_canLower 22 = .ok (.iconst 0, 1) := by decide +kernel
theorem dX5_canLower_23 : decode cX5_canLower 23 = .ok (.ireturn, 1) := by decide +kernel
set_option maxRecDepth 20000 in
theorem ggX5_lower_X5_isBread : GoodIn wsX5_lower wsX5_isBread := goodIn_r _ [6, 7, 8, 9, 5, 10, 80, 81, 82, 83, 84, 85, 86, 87, 88, 89, 90, 91, 92] (by decide +kernel) (by decide +kernel)
set_option maxRecDepth 20000 in
theorem gX5_lower_X5_isBread : GoodIn wsX5_lower (wsV RX5 96 RX5 yX5_isBread wsX5_isBread) := goodIn_app (goodIn_of _ (by decide +kernel)) ggX5_lower_X5_isBread
set_option maxRecDepth 20000 in
theorem ggX5_lower_X5_isShare : GoodIn wsX5_lower wsX5_isShare := goodIn_r _ [13, 8, 9, 5, 10] (by decide +kernel) (by decide +kernel)
set_option maxRecDepth 20000 in
theorem gX5_lower_X5_isShare : GoodIn wsX5_lower (va_wsS RX5 108 yX5_isShare wsX5_isShare) := goodIn_app (goodIn_of _ (by decide +kernel)) ggX5_lower_X5_isShare
set_option maxRecDepth 20000 in
theorem ggX5_lower_X5_canLower : GoodIn wsX5_lower wsX5_canLower := goodIn_r _ [17, 18, 19, 20, 5, 21, 22, 23, 24, 25, 7, 80, 81, 82, 83, 84, 85, 86, 87, 88, 89, 90, 91, 92] (by decide +kernel) (by decide +kernel)
set_option maxRecDepth 20000 in
theorem gX5_lower_X5_canLower : GoodIn wsX5_lower (wsV RX5 117 RX5 yX5_canLower wsX5_canLower) := goodIn_app (goodIn_of _ (by decide +kernel)) ggX5_lower_X5_canLower
set_option maxRecDepth 20000 in
theorem ggX5_lower_X5_save : GoodIn wsX5_lower wsX5_save := goodIn_r _ [29, 30, 31, 7, 80, 81, 82, 83, 84, 85, 86, 87, 88, 89, 90, 91, 92] (by decide +kernel) (by decide +kernel)
set_option maxRecDepth 20000 in
theorem gX5_lower_X5_save : GoodIn wsX5_lower (wsV RX5 89 RX5 yX5_save wsX5_save) := goodIn_app (goodIn_of _ (by decide +kernel)) ggX5_lower_X5_save
set_option maxRecDepth 20000 in
theorem ggX5_lower_X5_eaters : GoodIn wsX5_lower wsX5_eaters := goodIn_r _ [35, 36, 37, 38, 5, 39, 18, 19, 20, 21, 22, 23, 24, 25, 7, 40, 41, 42, 43, 44, 45, 46, 47, 48, 49, 50, 51, 52, 53, 54, 55, 56, 57, 58, 59, 60, 61, 62, 63, 80, 81, 82, 83, 84, 85, 86, 87, 88, 89, 90, 91, 92] (by decide +kernel) (by decide +kernel)
set_option maxRecDepth 20000 in
theorem gX5_lower_X5_eaters : GoodIn wsX5_lower (wsV RX5 114 RX5 yX5_eaters wsX5_eaters) := goodIn_app (goodIn_of _ (by decide +kernel)) ggX5_lower_X5_eaters
set_option maxRecDepth 20000 in
theorem ggX5_lower_X5_setShare : GoodIn wsX5_lower wsX5_setShare := goodIn_r _ [67, 22, 23, 24, 5, 25, 7, 48, 49, 50, 51, 68, 69, 70, 71, 72, 73, 74, 75, 76, 77, 78, 79, 80, 81, 82, 83, 84, 85, 86, 87, 88, 89, 90, 91, 92] (by decide +kernel) (by decide +kernel)
set_option maxRecDepth 20000 in
theorem gX5_lower_X5_setShare : GoodIn wsX5_lower (wsV RX5 92 RX5 yX5_setShare wsX5_setShare) := goodIn_app (goodIn_of _ (by decide +kernel)) ggX5_lower_X5_setShare
theorem dX5_lower_0 : decode cX5_lower 0 = .ok (.aload_n 0, 1) := by decide +kernel
theorem dX5_lower_1 : decode cX5_lower 1 = .ok (.aload_n 0, 1) := by decide +kernel
theorem dX5_lower_2 : decode cX5_lower 2 = .ok (.iload_n 1, 1) := by decide +kernel
theorem dX5_lower_3 : decode cX5_lower 3 = .ok (.invokevirtual 96, 3) := by decide +kernel
theorem dX5_lower_6 : decode cX5_lower 6 = .ok (.ifCond .ne 7, 3) := by decide +kernel
theorem dX5_lower_9 : decode cX5_lower 9 = .ok (.iconst 1, 1) := by decide +kernel
theorem dX5_lower_10 : decode cX5_lower 10 = .ok (.goto 28, 3) := by decide +kernel
theorem dX5_lower_13 : decode cX5_lower 13 = .ok (.iload_n 2, 1) := by decide +kernel
theorem dX5_lower_14 : decode cX5_lower 14 = .ok (.invokestatic 108, 3) := by decide +kernel
theorem dX5_lower_17 : decode cX5_lower 17 = .ok (.ifCond .ne 7, 3) := by decide +kernel
theorem dX5_lower_20 : decode cX5_lower 20 = .ok (.iconst 2, 1) := by decide +kernel
theorem dX5_lower_21 : decode cX5_lower 21 = .ok (.goto 17, 3) := by decide +kernel
theorem dX5_lower_24 : decode cX5_lower 24 = .ok (.aload_n 0, 1) := by decide +kernel
theorem dX5_lower_25 : decode cX5_lower 25 = .ok (.iload_n 1, 1) := by decide +kernel
theorem dX5_lower_26 : decode cX5_lower 26 = .ok (.iload_n 2, 1) := by decide +kernel
theorem dX5_lower_27 : decode cX5_lower 27 = .ok (.invokevirtual 117, 3) := by decide +kernel
theorem dX5_lower_30 : decode cX5_lower 30 = .ok (.ifCond .eq 7, 3) := by decide +kernel
theorem dX5_lower_33 : decode cX5_lower 33 = .ok (.iconst 0, 1) := by decide +kernel
theorem dX5_lower_34 : decode cX5_lower 34 = .ok (.goto 4, 3) := by decide +kernel
theorem dX5_lower_37 : decode cX5_lower 37 = .ok (.iconst 3, 1) := by decide +kernel
theorem dX5_lower_38 : decode cX5_lower 38 = .ok (.putfield 28, 3) := by decide +kernel
theorem dX5_lower_41 : decode cX5_lower 41 = .ok (.aload_n 0, 1) := by decide +kernel
theorem dX5_lower_42 : decode cX5_lower 42 = .ok (.getfield 28, 3) := by decide +kernel
theorem dX5_lower_45 : decode cX5_lower 45 = .ok (.ifCond .le 5, 3) := by decide +kernel
theorem dX5_lower_48 : decode cX5_lower 48 = .ok (.iconst 0, 1) := by decide +kernel
theorem dX5_lower_49 : decode cX5_lower 49 = .ok (.ireturn, 1) := by decide +kernel
theorem dX5_lower_50 : decode cX5_lower 50 = .ok (.aload_n 0, 1) := by decide +kernel
theorem dX5_lower_51 : decode cX5_lower 51 = .ok (.invokevirtual 89, 3) := by decide +kernel
theorem dX5_lower_54 : decode cX5_lower 54 = .ok (.aload_n 0, 1) := by decide +kernel
theorem dX5_lower_55 : decode cX5_lower 55 = .ok (.iload_n 1, 1) := by decide +kernel
theorem dX5_lower_56 : decode cX5_lower 56 = .ok (.invokevirtual 114, 3) := by decide +kernel
theorem dX5_lower_59 : decode cX5_lower 59 = .ok (.istore_n 3, 1) := by decide +kernel
theorem dX5_lower_60 : decode cX5_lower 60 = .ok (.aload_n 0, 1) := by decide +kernel
theorem dX5_lower_61 : decode cX5_lower 61 = .ok (.iload_n 1, 1) := by decide +kernel
theorem dX5_lower_62 : decode cX5_lower 62 = .ok (.iload_n 2, 1) := by decide +kernel
theorem dX5_lower_63 : decode cX5_lower 63 = .ok (.invokevirtual 92, 3) := by decide +kernel
theorem dX5_lower_66 : decode cX5_lower 66 = .ok (.iload_n 3, 1) := by decide +kernel
theorem dX5_lower_67 : decode cX5_lower 67 = .ok (.aload_n 0, 1) := by decide +kernel
theorem dX5_lower_68 : decode cX5_lower 68 = .ok (.iload_n 1, 1) := by decide +kernel
theorem dX5_lower_69 : decode cX5_lower 69 = .ok (.invokevirtual 114, 3) := by decide +kernel
theorem dX5_lower_72 : decode cX5_lower 72 = .ok (.isub, 1) := by decide +kernel
theorem dX5_lower_73 : decode cX5_lower 73 = .ok (.ireturn, 1) := by decide +kernel
set_option maxRecDepth 20000 in
theorem ggX5_hasOwnSalt_X5_isOpen : GoodIn wsX5_hasOwnSalt wsX5_isOpen := goodIn_r _ [5, 6, 7, 8, 4, 9, 10, 15, 16, 17, 18, 19, 20, 21, 22, 23, 24, 25, 26, 27] (by decide +kernel) (by decide +kernel)
set_option maxRecDepth 20000 in
theorem gX5_hasOwnSalt_X5_isOpen : GoodIn wsX5_hasOwnSalt (wsV RX5 67 RX5 yX5_isOpen wsX5_isOpen) := goodIn_app (goodIn_of _ (by decide +kernel)) ggX5_hasOwnSalt_X5_isOpen
set_option maxRecDepth 20000 in
theorem ggX5_hasOwnSalt_X5_isOfGroup : GoodIn wsX5_hasOwnSalt wsX5_isOfGroup := goodIn_r _ [14, 6, 7, 8, 4, 9, 10, 15, 16, 17, 18, 19, 20, 21, 22, 23, 24, 25, 26, 27] (by decide +kernel) (by decide +kernel)
set_option maxRecDepth 20000 in
theorem gX5_hasOwnSalt_X5_isOfGroup : GoodIn wsX5_hasOwnSalt (wsV RX5 48 RX5 yX5_isOfGroup wsX5_isOfGroup) := goodIn_app (goodIn_of _ (by decide +kernel)) ggX5_hasOwnSalt_X5_isOfGroup
theorem dX5_hasOwnSalt_0 : decode cX5_hasOwnSalt 0 = .ok (.aload_n 0, 1) := by decide +kernel
theorem dX5_hasOwnSalt_1 : decode cX5_hasOwnSalt 1 = .ok (.iload_n 1, 1) := by decide +kernel
theorem dX5_hasOwnSalt_2 : decode cX5_hasOwnSalt 2 = .ok (.invokevirtual 67, 3) := by decide +kernel
theorem dX5_hasOwnSalt_5 : decode cX5_hasOwnSalt 5 = .ok (.ifCond .eq 15, 3) := by decide +kernel
theorem dX5_hasOwnSalt_8 : decode cX5_hasOwnSalt 8 = .ok (.aload_n 0, 1) := by decide +kernel
theorem dX5_hasOwnSalt_9 : decode cX5_hasOwnSalt 9 = .ok (.iload_n 1, 1) := by decide +kernel
theorem dX5_hasOwnSalt_10 : decode cX5_hasOwnSalt 10 = .ok (.invokevirtual 48, 3) := by decide +kernel
theorem dX5_hasOwnSalt_13 : decode cX5_hasOwnSalt 13 = .ok (.ifCond .ne 7, 3) := by decide +kernel
theorem dX5_hasOwnSalt_16 : decode cX5_hasOwnSalt 16 = .ok (.iconst 1, 1) := by decide +kernel
theorem dX5_hasOwnSalt_17 : decode cX5_hasOwnSalt 17 = .ok (.goto 4, 3) := by decide +kernel
theorem dX5_hasOwnSalt_20 : decode cX5_hasOwnSalt 20 = .ok (.iconst 0, 1) := by decide +kernel
theorem dX5_hasOwnSalt_21 : decode cX5_hasOwnSalt 21 = .ok (.ireturn, 1) := by decide +kernel
set_option maxRecDepth 20000 in
theorem ggX5_resalt_X5_isBread : GoodIn wsX5_resalt wsX5_isBread := goodIn_r _ [6, 7, 8, 9, 5, 10, 73, 74, 75, 76, 77, 78, 79, 80, 81, 82, 83, 84, 85] (by decide +kernel) (by decide +kernel)
set_option maxRecDepth 20000 in
theorem gX5_resalt_X5_isBread : GoodIn wsX5_resalt (wsV RX5 96 RX5 yX5_isBread wsX5_isBread) := goodIn_app (goodIn_of _ (by decide +kernel)) ggX5_resalt_X5_isBread
set_option maxRecDepth 20000 in
theorem ggX5_resalt_X5_isSalt : GoodIn wsX5_resalt wsX5_isSalt := goodIn_r _ [13, 8, 9, 5, 10] (by decide +kernel) (by decide +kernel)
set_option maxRecDepth 20000 in
theorem gX5_resalt_X5_isSalt : GoodIn wsX5_resalt (va_wsS RX5 86 yX5_isSalt wsX5_isSalt) := goodIn_app (goodIn_of _ (by decide +kernel)) ggX5_resalt_X5_isSalt
set_option maxRecDepth 20000 in
theorem ggX5_resalt_X5_hasOwnSalt : GoodIn wsX5_resalt wsX5_hasOwnSalt := goodIn_r _ [17, 18, 19, 20, 5, 21, 22, 23, 24, 25, 7, 26, 27, 28, 29, 73, 74, 75, 76, 77, 78, 79, 80, 81, 82, 83, 84, 85] (by decide +kernel) (by decide +kernel)
set_option maxRecDepth 20000 in
theorem gX5_resalt_X5_hasOwnSalt : GoodIn wsX5_resalt (wsV RX5 120 RX5 yX5_hasOwnSalt wsX5_hasOwnSalt) := goodIn_app (goodIn_of _ (by decide +kernel)) ggX5_resalt_X5_hasOwnSalt
set_option maxRecDepth 20000 in
theorem ggX5_resalt_X5_save : GoodIn wsX5_resalt wsX5_save := goodIn_r _ [33, 34, 35, 7, 73, 74, 75, 76, 77, 78, 79, 80, 81, 82, 83, 84, 85] (by decide +kernel) (by decide +kernel)
set_option maxRecDepth 20000 in
theorem gX5_resalt_X5_save : GoodIn wsX5_resalt (wsV RX5 89 RX5 yX5_save wsX5_save) := goodIn_app (goodIn_of _ (by decide +kernel)) ggX5_resalt_X5_save
set_option maxRecDepth 20000 in
theorem ggX5_resalt_X5_layAhead : GoodIn wsX5_resalt wsX5_layAhead := goodIn_r _ [39, 40, 41, 42, 43, 5, 44, 18, 19, 20, 21, 22, 23, 24, 25, 7, 45, 46, 47, 48, 49, 50, 51, 52, 26, 27, 28, 29, 53, 54, 55, 56, 57, 58, 59, 60, 61, 62, 63, 64, 73, 74, 75, 76, 77, 78, 79, 80, 81, 82, 83, 84, 85] (by decide +kernel) (by decide +kernel)
set_option maxRecDepth 20000 in
theorem gX5_resalt_X5_layAhead : GoodIn wsX5_resalt (wsV RX5 123 RX5 yX5_layAhead wsX5_layAhead) := goodIn_app (goodIn_of _ (by decide +kernel)) ggX5_resalt_X5_layAhead
set_option maxRecDepth 20000 in
theorem ggX5_resalt_X5_put : GoodIn wsX5_resalt wsX5_put := goodIn_r _ [68, 7, 73, 74, 75, 76, 77, 78, 79, 80, 81, 82, 83, 84, 85] (by decide +kernel) (by decide +kernel)
set_option maxRecDepth 20000 in
theorem gX5_resalt_X5_put : GoodIn wsX5_resalt (wsV RX5 63 RX5 yX5_put wsX5_put) := goodIn_app (goodIn_of _ (by decide +kernel)) ggX5_resalt_X5_put
set_option maxRecDepth 20000 in
theorem ggX5_resalt_X5_changed : GoodIn wsX5_resalt wsX5_changed := goodIn_r _ [72, 40, 41, 42, 43, 5, 44, 18, 19, 20, 21, 22, 23, 24, 25, 7, 45, 46, 47, 48, 49, 50, 51, 52, 26, 27, 28, 29, 53, 54, 55, 56, 57, 58, 59, 60, 61, 62, 63, 64, 73, 74, 75, 76, 77, 78, 79, 80, 81, 82, 83, 84, 85] (by decide +kernel) (by decide +kernel)
set_option maxRecDepth 20000 in
theorem gX5_resalt_X5_changed : GoodIn wsX5_resalt (wsV RX5 126 RX5 yX5_changed wsX5_changed) := goodIn_app (goodIn_of _ (by decide +kernel)) ggX5_resalt_X5_changed
theorem dX5_resalt_0 : decode cX5_resalt 0 = .ok (.aload_n 0, 1) := by decide +kernel
theorem dX5_resalt_1 : decode cX5_resalt 1 = .ok (.aload_n 0, 1) := by decide +kernel
theorem dX5_resalt_2 : decode cX5_resalt 2 = .ok (.iload_n 1, 1) := by decide +kernel
theorem dX5_resalt_3 : decode cX5_resalt 3 = .ok (.invokevirtual 96, 3) := by decide +kernel
theorem dX5_resalt_6 : decode cX5_resalt 6 = .ok (.ifCond .ne 7, 3) := by decide +kernel
theorem dX5_resalt_9 : decode cX5_resalt 9 = .ok (.iconst 1, 1) := by decide +kernel
theorem dX5_resalt_10 : decode cX5_resalt 10 = .ok (.goto 27, 3) := by decide +kernel
theorem dX5_resalt_13 : decode cX5_resalt 13 = .ok (.iload_n 2, 1) := by decide +kernel
theorem dX5_resalt_14 : decode cX5_resalt 14 = .ok (.invokestatic 86, 3) := by decide +kernel
theorem dX5_resalt_17 : decode cX5_resalt 17 = .ok (.ifCond .ne 7, 3) := by decide +kernel
theorem dX5_resalt_20 : decode cX5_resalt 20 = .ok (.iconst 2, 1) := by decide +kernel
theorem dX5_resalt_21 : decode cX5_resalt 21 = .ok (.goto 16, 3) := by decide +kernel
theorem dX5_resalt_24 : decode cX5_resalt 24 = .ok (.aload_n 0, 1) := by decide +kernel
theorem dX5_resalt_25 : decode cX5_resalt 25 = .ok (.iload_n 1, 1) := by decide +kernel
theorem dX5_resalt_26 : decode cX5_resalt 26 = .ok (.invokevirtual 120, 3) := by decide +kernel
theorem dX5_resalt_29 : decode cX5_resalt 29 = .ok (.ifCond .eq 7, 3) := by decide +kernel
theorem dX5_resalt_32 : decode cX5_resalt 32 = .ok (.iconst 0, 1) := by decide +kernel
theorem dX5_resalt_33 : decode cX5_resalt 33 = .ok (.goto 4, 3) := by decide +kernel
theorem dX5_resalt_36 : decode cX5_resalt 36 = .ok (.iconst 3, 1) := by decide +kernel
theorem dX5_resalt_37 : decode cX5_resalt 37 = .ok (.putfield 28, 3) := by decide +kernel
theorem dX5_resalt_40 : decode cX5_resalt 40 = .ok (.aload_n 0, 1) := by decide +kernel
theorem dX5_resalt_41 : decode cX5_resalt 41 = .ok (.getfield 28, 3) := by decide +kernel
theorem dX5_resalt_44 : decode cX5_resalt 44 = .ok (.ifCond .le 5, 3) := by decide +kernel
theorem dX5_resalt_47 : decode cX5_resalt 47 = .ok (.iconst 0, 1) := by decide +kernel
theorem dX5_resalt_48 : decode cX5_resalt 48 = .ok (.ireturn, 1) := by decide +kernel
theorem dX5_resalt_49 : decode cX5_resalt 49 = .ok (.aload_n 0, 1) := by decide +kernel
theorem dX5_resalt_50 : decode cX5_resalt 50 = .ok (.invokevirtual 89, 3) := by decide +kernel
theorem dX5_resalt_53 : decode cX5_resalt 53 = .ok (.aload_n 0, 1) := by decide +kernel
theorem dX5_resalt_54 : decode cX5_resalt 54 = .ok (.iload_n 1, 1) := by decide +kernel
theorem dX5_resalt_55 : decode cX5_resalt 55 = .ok (.invokevirtual 123, 3) := by decide +kernel
theorem dX5_resalt_58 : decode cX5_resalt 58 = .ok (.aload_n 0, 1) := by decide +kernel
theorem dX5_resalt_59 : decode cX5_resalt 59 = .ok (.iload_n 1, 1) := by decide +kernel
theorem dX5_resalt_60 : decode cX5_resalt 60 = .ok (.iconst 2, 1) := by decide +kernel
theorem dX5_resalt_61 : decode cX5_resalt 61 = .ok (.iload_n 2, 1) := by decide +kernel
theorem dX5_resalt_62 : decode cX5_resalt 62 = .ok (.invokevirtual 63, 3) := by decide +kernel
theorem dX5_resalt_65 : decode cX5_resalt 65 = .ok (.aload_n 0, 1) := by decide +kernel
theorem dX5_resalt_66 : decode cX5_resalt 66 = .ok (.iload_n 1, 1) := by decide +kernel
theorem dX5_resalt_67 : decode cX5_resalt 67 = .ok (.invokevirtual 126, 3) := by decide +kernel
theorem dX5_resalt_70 : decode cX5_resalt 70 = .ok (.ireturn, 1) := by decide +kernel
set_option maxRecDepth 20000 in
theorem ggX5_isGroup_X5_within : GoodIn wsX5_isGroup wsX5_within := goodIn_r _ [4] (by decide +kernel) (by decide +kernel)
set_option maxRecDepth 20000 in
theorem gX5_isGroup_X5_within : GoodIn wsX5_isGroup (va_wsS RX5 35 yX5_within wsX5_within) := goodIn_app (goodIn_of _ (by decide +kernel)) ggX5_isGroup_X5_within
theorem dX5_isGroup_0 : decode cX5_isGroup 0 = .ok (.iload_n 0, 1) := by decide +kernel
theorem dX5_isGroup_1 : decode cX5_isGroup 1 = .ok (.iconst 0, 1) := by decide +kernel
theorem dX5_isGroup_2 : decode cX5_isGroup 2 = .ok (.iconst 2, 1) := by decide +kernel
theorem dX5_isGroup_3 : decode cX5_isGroup 3 = .ok (.invokestatic 35, 3) := by decide +kernel
theorem dX5_isGroup_6 : decode cX5_isGroup 6 = .ok (.ireturn, 1) := by decide +kernel
set_option maxRecDepth 20000 in
theorem ggX5_shake_X5_isGroup : GoodIn wsX5_shake wsX5_isGroup := goodIn_r _ [6, 7, 8, 5, 9] (by decide +kernel) (by decide +kernel)
set_option maxRecDepth 20000 in
theorem gX5_shake_X5_isGroup : GoodIn wsX5_shake (va_wsS RX5 129 yX5_isGroup wsX5_isGroup) := goodIn_app (goodIn_of _ (by decide +kernel)) ggX5_shake_X5_isGroup
set_option maxRecDepth 20000 in
theorem ggX5_shake_X5_isSalt : GoodIn wsX5_shake wsX5_isSalt := goodIn_r _ [12, 7, 8, 5, 9] (by decide +kernel) (by decide +kernel)
set_option maxRecDepth 20000 in
theorem gX5_shake_X5_isSalt : GoodIn wsX5_shake (va_wsS RX5 86 yX5_isSalt wsX5_isSalt) := goodIn_app (goodIn_of _ (by decide +kernel)) ggX5_shake_X5_isSalt
set_option maxRecDepth 20000 in
theorem ggX5_shake_X5_save : GoodIn wsX5_shake wsX5_save := goodIn_r _ [16, 17, 18, 2, 19, 20, 21, 22, 23, 24, 25, 26, 27, 28, 29, 30, 31] (by decide +kernel) (by decide +kernel)
set_option maxRecDepth 20000 in
theorem gX5_shake_X5_save : GoodIn wsX5_shake (wsV RX5 89 RX5 yX5_save wsX5_save) := goodIn_app (goodIn_of _ (by decide +kernel)) ggX5_shake_X5_save
theorem dX5_shake_0 : decode cX5_shake 0 = .ok (.aload_n 0, 1) := by decide +kernel
theorem dX5_shake_1 : decode cX5_shake 1 = .ok (.iload_n 1, 1) := by decide +kernel
theorem dX5_shake_2 : decode cX5_shake 2 = .ok (.invokestatic 129, 3) := by decide +kernel
theorem dX5_shake_5 : decode cX5_shake 5 = .ok (.ifCond .ne 7, 3) := by decide +kernel
theorem dX5_shake_8 : decode cX5_shake 8 = .ok (.iconst 1, 1) := by decide +kernel
theorem dX5_shake_9 : decode cX5_shake 9 = .ok (.goto 15, 3) := by decide +kernel
theorem dX5_shake_12 : decode cX5_shake 12 = .ok (.iload_n 2, 1) := by decide +kernel
theorem dX5_shake_13 : decode cX5_shake 13 = .ok (.invokestatic 86, 3) := by decide +kernel
theorem dX5_shake_16 : decode cX5_shake 16 = .ok (.ifCond .eq 7, 3) := by decide +kernel
theorem dX5_shake_19 : decode cX5_shake 19 = .ok (.iconst 0, 1) := by decide +kernel
theorem dX5_shake_20 : decode cX5_shake 20 = .ok (.goto 4, 3) := by decide +kernel
theorem dX5_shake_23 : decode cX5_shake 23 = .ok (.iconst 2, 1) := by decide +kernel
theorem dX5_shake_24 : decode cX5_shake 24 = .ok (.putfield 28, 3) := by decide +kernel
theorem dX5_shake_27 : decode cX5_shake 27 = .ok (.aload_n 0, 1) := by decide +kernel
theorem dX5_shake_28 : decode cX5_shake 28 = .ok (.getfield 28, 3) := by decide +kernel
theorem dX5_shake_31 : decode cX5_shake 31 = .ok (.ifCond .le 5, 3) := by decide +kernel
theorem dX5_shake_34 : decode cX5_shake 34 = .ok (.iconst 0, 1) := by decide +kernel
theorem dX5_shake_35 : decode cX5_shake 35 = .ok (.ireturn, 1) := by decide +kernel
theorem dX5_shake_36 : decode cX5_shake 36 = .ok (.aload_n 0, 1) := by decide +kernel
theorem dX5_shake_37 : decode cX5_shake 37 = .ok (.invokevirtual 89, 3) := by decide +kernel
theorem dX5_shake_40 : decode cX5_shake 40 = .ok (.aload_n 0, 1) := by decide +kernel
theorem dX5_shake_41 : decode cX5_shake 41 = .ok (.getfield 7, 3) := by decide +kernel
theorem dX5_shake_44 : decode cX5_shake 44 = .ok (.iconst 2, 1) := by decide +kernel
theorem dX5_shake_45 : decode cX5_shake 45 = .ok (.iload_n 1, 1) := by decide +kernel
theorem dX5_shake_46 : decode cX5_shake 46 = .ok (.iadd, 1) := by decide +kernel
theorem dX5_shake_47 : decode cX5_shake 47 = .ok (.iaload, 1) := by decide +kernel
theorem dX5_shake_48 : decode cX5_shake 48 = .ok (.istore_n 3, 1) := by decide +kernel
theorem dX5_shake_49 : decode cX5_shake 49 = .ok (.aload_n 0, 1) := by decide +kernel
theorem dX5_shake_50 : decode cX5_shake 50 = .ok (.getfield 7, 3) := by decide +kernel
theorem dX5_shake_53 : decode cX5_shake 53 = .ok (.iconst 2, 1) := by decide +kernel
theorem dX5_shake_54 : decode cX5_shake 54 = .ok (.iload_n 1, 1) := by decide +kernel
theorem dX5_shake_55 : decode cX5_shake 55 = .ok (.iadd, 1) := by decide +kernel
theorem dX5_shake_56 : decode cX5_shake 56 = .ok (.iload_n 2, 1) := by decide +kernel
theorem dX5_shake_57 : decode cX5_shake 57 = .ok (.iastore, 1) := by decide +kernel
theorem dX5_shake_58 : decode cX5_shake 58 = .ok (.iload_n 3, 1) := by decide +kernel
theorem dX5_shake_59 : decode cX5_shake 59 = .ok (.ireturn, 1) := by decide +kernel
theorem dX5_holds_0 : decode cX5_holds 0 = .ok (.aload_n 0, 1) := by decide +kernel
theorem dX5_holds_1 : decode cX5_holds 1 = .ok (.getfield 7, 3) := by decide +kernel
theorem dX5_holds_4 : decode cX5_holds 4 = .ok (.sipush 353, 3) := by decide +kernel
theorem dX5_holds_7 : decode cX5_holds 7 = .ok (.iload_n 1, 1) := by decide +kernel
theorem dX5_holds_8 : decode cX5_holds 8 = .ok (.iadd, 1) := by decide +kernel
theorem dX5_holds_9 : decode cX5_holds 9 = .ok (.aload_n 0, 1) := by decide +kernel
theorem dX5_holds_10 : decode cX5_holds 10 = .ok (.getfield 7, 3) := by decide +kernel
theorem dX5_holds_13 : decode cX5_holds 13 = .ok (.sipush 353, 3) := by decide +kernel
theorem dX5_holds_16 : decode cX5_holds 16 = .ok (.iload_n 1, 1) := by decide +kernel
theorem dX5_holds_17 : decode cX5_holds 17 = .ok (.iadd, 1) := by decide +kernel
theorem dX5_holds_18 : decode cX5_holds 18 = .ok (.iaload, 1) := by decide +kernel
theorem dX5_holds_19 : decode cX5_holds 19 = .ok (.iconst 1, 1) := by decide +kernel
theorem dX5_holds_20 : decode cX5_holds 20 = .ok (.iload_n 2, 1) := by decide +kernel
theorem dX5_holds_21 : decode cX5_holds 21 = .ok (.ishl, 1) := by decide +kernel
theorem dX5_holds_22 : decode cX5_holds 22 = .ok (.iconst (-1), 1) := by decide +kernel
theorem dX5_holds_23 : decode cX5_holds 23 = .ok (.ixor, 1) := by decide +kernel
theorem dX5_holds_24 : decode cX5_holds 24 = .ok (.iand, 1) := by decide +kernel
theorem dX5_holds_25 : decode cX5_holds 25 = .ok (.iload_n 3, 1) := by decide +kernel
theorem dX5_holds_26 : decode cX5_holds 26 = .ok (.iload_n 2, 1) := by decide +kernel
theorem dX5_holds_27 : decode cX5_holds 27 = .ok (.ishl, 1) := by decide +kernel
theorem dX5_holds_28 : decode cX5_holds 28 = .ok (.ior, 1) := by decide +kernel
theorem dX5_holds_29 : decode cX5_holds 29 = .ok (.iastore, 1) := by decide +kernel
theorem dX5_holds_30 : decode cX5_holds 30 = .ok (.aload_n 0, 1) := by decide +kernel
theorem dX5_holds_31 : decode cX5_holds 31 = .ok (.getfield 7, 3) := by decide +kernel
theorem dX5_holds_34 : decode cX5_holds 34 = .ok (.sipush 503, 3) := by decide +kernel
theorem dX5_holds_37 : decode cX5_holds 37 = .ok (.iload_n 1, 1) := by decide +kernel
theorem dX5_holds_38 : decode cX5_holds 38 = .ok (.iadd, 1) := by decide +kernel
theorem dX5_holds_39 : decode cX5_holds 39 = .ok (.aload_n 0, 1) := by decide +kernel
theorem dX5_holds_40 : decode cX5_holds 40 = .ok (.getfield 7, 3) := by decide +kernel
theorem dX5_holds_43 : decode cX5_holds 43 = .ok (.sipush 503, 3) := by decide +kernel
theorem dX5_holds_46 : decode cX5_holds 46 = .ok (.iload_n 1, 1) := by decide +kernel
theorem dX5_holds_47 : decode cX5_holds 47 = .ok (.iadd, 1) := by decide +kernel
theorem dX5_holds_48 : decode cX5_holds 48 = .ok (.iaload, 1) := by decide +kernel
theorem dX5_holds_49 : decode cX5_holds 49 = .ok (.iconst 1, 1) := by decide +kernel
theorem dX5_holds_50 : decode cX5_holds 50 = .ok (.iload_n 2, 1) := by decide +kernel
theorem dX5_holds_51 : decode cX5_holds 51 = .ok (.ishl, 1) := by decide +kernel
theorem dX5_holds_52 : decode cX5_holds 52 = .ok (.iconst (-1), 1) := by decide +kernel
theorem dX5_holds_53 : decode cX5_holds 53 = .ok (.ixor, 1) := by decide +kernel
theorem dX5_holds_54 : decode cX5_holds 54 = .ok (.iand, 1) := by decide +kernel
theorem dX5_holds_55 : decode cX5_holds 55 = .ok (.iload 4, 2) := by decide +kernel
theorem dX5_holds_57 : decode cX5_holds 57 = .ok (.iload_n 2, 1) := by decide +kernel
theorem dX5_holds_58 : decode cX5_holds 58 = .ok (.ishl, 1) := by decide +kernel
theorem dX5_holds_59 : decode cX5_holds 59 = .ok (.ior, 1) := by decide +kernel
theorem dX5_holds_60 : decode cX5_holds 60 = .ok (.iastore, 1) := by decide +kernel
theorem dX5_holds_61 : decode cX5_holds 61 = .ok (.return_, 1) := by decide +kernel
set_option maxRecDepth 20000 in
theorem ggX5_holdsAnew_X5_eatsNow : GoodIn wsX5_holdsAnew wsX5_eatsNow := goodIn_r _ [5, 6, 7, 8, 4, 9, 10, 11, 12, 13, 14, 15, 16, 17, 18, 19, 20, 21, 22, 23, 24, 25, 26, 27, 28, 29, 30, 31, 32, 33, 34, 35, 36, 37, 38, 43, 44, 45, 46, 47, 48, 49, 50, 51, 52, 53, 54, 55] (by decide +kernel) (by decide +kernel)
set_option maxRecDepth 20000 in
theorem gX5_holdsAnew_X5_eatsNow : GoodIn wsX5_holdsAnew (wsV RX5 83 RX5 yX5_eatsNow wsX5_eatsNow) := goodIn_app (goodIn_of _ (by decide +kernel)) ggX5_holdsAnew_X5_eatsNow
set_option maxRecDepth 20000 in
theorem ggX5_holdsAnew_X5_holds : GoodIn wsX5_holdsAnew wsX5_holds := goodIn_r _ [42, 14, 43, 44, 45, 46, 47, 48, 49, 50, 51, 52, 53, 54, 55] (by decide +kernel) (by decide +kernel)
set_option maxRecDepth 20000 in
theorem gX5_holdsAnew_X5_holds : GoodIn wsX5_holdsAnew (wsV RX5 132 RX5 yX5_holds wsX5_holds) := goodIn_app (goodIn_of _ (by decide +kernel)) ggX5_holdsAnew_X5_holds
theorem dX5_holdsAnew_0 : decode cX5_holdsAnew 0 = .ok (.aload_n 0, 1) := by decide +kernel
theorem dX5_holdsAnew_1 : decode cX5_holdsAnew 1 = .ok (.iload_n 1, 1) := by decide +kernel
theorem dX5_holdsAnew_2 : decode cX5_holdsAnew 2 = .ok (.iload_n 2, 1) := by decide +kernel
theorem dX5_holdsAnew_3 : decode cX5_holdsAnew 3 = .ok (.invokevirtual 83, 3) := by decide +kernel
theorem dX5_holdsAnew_6 : decode cX5_holdsAnew 6 = .ok (.ifCond .le 7, 3) := by decide +kernel
theorem dX5_holdsAnew_9 : decode cX5_holdsAnew 9 = .ok (.iconst 1, 1) := by decide +kernel
theorem dX5_holdsAnew_10 : decode cX5_holdsAnew 10 = .ok (.goto 4, 3) := by decide +kernel
theorem dX5_holdsAnew_13 : decode cX5_holdsAnew 13 = .ok (.iconst 0, 1) := by decide +kernel
theorem dX5_holdsAnew_14 : decode cX5_holdsAnew 14 = .ok (.istore 5, 2) := by decide +kernel
theorem dX5_holdsAnew_16 : decode cX5_holdsAnew 16 = .ok (.aload_n 0, 1) := by decide +kernel
theorem dX5_holdsAnew_17 : decode cX5_holdsAnew 17 = .ok (.iload_n 1, 1) := by decide +kernel
theorem dX5_holdsAnew_18 : decode cX5_holdsAnew 18 = .ok (.iload_n 2, 1) := by decide +kernel
theorem dX5_holdsAnew_19 : decode cX5_holdsAnew 19 = .ok (.iload_n 3, 1) := by decide +kernel
theorem dX5_holdsAnew_20 : decode cX5_holdsAnew 20 = .ok (.iload 4, 2) := by decide +kernel
theorem dX5_holdsAnew_22 : decode cX5_holdsAnew 22 = .ok (.invokevirtual 132, 3) := by decide +kernel
theorem dX5_holdsAnew_25 : decode cX5_holdsAnew 25 = .ok (.aload_n 0, 1) := by decide +kernel
theorem dX5_holdsAnew_26 : decode cX5_holdsAnew 26 = .ok (.iload_n 1, 1) := by decide +kernel
theorem dX5_holdsAnew_27 : decode cX5_holdsAnew 27 = .ok (.iload_n 2, 1) := by decide +kernel
theorem dX5_holdsAnew_28 : decode cX5_holdsAnew 28 = .ok (.invokevirtual 83, 3) := by decide +kernel
theorem dX5_holdsAnew_31 : decode cX5_holdsAnew 31 = .ok (.ifCond .le 7, 3) := by decide +kernel
theorem dX5_holdsAnew_34 : decode cX5_holdsAnew 34 = .ok (.iconst 1, 1) := by decide +kernel
theorem dX5_holdsAnew_35 : decode cX5_holdsAnew 35 = .ok (.goto 4, 3) := by decide +kernel
theorem dX5_holdsAnew_38 : decode cX5_holdsAnew 38 = .ok (.iconst 0, 1) := by decide +kernel
theorem dX5_holdsAnew_39 : decode cX5_holdsAnew 39 = .ok (.iload 5, 2) := by decide +kernel
theorem dX5_holdsAnew_41 : decode cX5_holdsAnew 41 = .ok (.if_icmp .ne 7, 3) := by decide +kernel
theorem dX5_holdsAnew_44 : decode cX5_holdsAnew 44 = .ok (.iconst 0, 1) := by decide +kernel
theorem dX5_holdsAnew_45 : decode cX5_holdsAnew 45 = .ok (.goto 4, 3) := by decide +kernel
theorem dX5_holdsAnew_48 : decode cX5_holdsAnew 48 = .ok (.iconst 1, 1) := by decide +kernel
theorem dX5_holdsAnew_49 : decode cX5_holdsAnew 49 = .ok (.ireturn, 1) := by decide +kernel
set_option maxRecDepth 20000 in
theorem ggX5_canHold_X5_isBread : GoodIn wsX5_canHold wsX5_isBread := goodIn_r _ [5, 6, 7, 8, 4, 9, 18, 19, 20, 21, 22, 23, 24, 25, 26, 27, 28, 29, 30] (by decide +kernel) (by decide +kernel)
set_option maxRecDepth 20000 in
theorem gX5_canHold_X5_isBread : GoodIn wsX5_canHold (wsV RX5 96 RX5 yX5_isBread wsX5_isBread) := goodIn_app (goodIn_of _ (by decide +kernel)) ggX5_canHold_X5_isBread
set_option maxRecDepth 20000 in
theorem ggX5_canHold_X5_isOpen : GoodIn wsX5_canHold wsX5_isOpen := goodIn_r _ [13, 14, 15, 16, 4, 17, 6, 18, 19, 20, 21, 22, 23, 24, 25, 26, 27, 28, 29, 30] (by decide +kernel) (by decide +kernel)
set_option maxRecDepth 20000 in
theorem gX5_canHold_X5_isOpen : GoodIn wsX5_canHold (wsV RX5 67 RX5 yX5_isOpen wsX5_isOpen) := goodIn_app (goodIn_of _ (by decide +kernel)) ggX5_canHold_X5_isOpen
theorem dX5_canHold_0 : decode cX5_canHold 0 = .ok (.aload_n 0, 1) := by decide +kernel
theorem dX5_canHold_1 : decode cX5_canHold 1 = .ok (.iload_n 1, 1) := by decide +kernel
theorem dX5_canHold_2 : decode cX5_canHold 2 = .ok (.invokevirtual 96, 3) := by decide +kernel
theorem dX5_canHold_5 : decode cX5_canHold 5 = .ok (.ifCond .eq 15, 3) := by decide +kernel
theorem dX5_canHold_8 : decode cX5_canHold 8 = .ok (.aload_n 0, 1) := by decide +kernel
theorem dX5_canHold_9 : decode cX5_canHold 9 = .ok (.iload_n 1, 1) := by decide +kernel
theorem dX5_canHold_10 : decode cX5_canHold 10 = .ok (.invokevirtual 67, 3) := by decide +kernel
theorem dX5_canHold_13 : decode cX5_canHold 13 = .ok (.ifCond .eq 7, 3) := by decide +kernel
theorem dX5_canHold_16 : decode cX5_canHold 16 = .ok (.iconst 1, 1) := by decide +kernel
theorem dX5_canHold_17 : decode cX5_canHold 17 = .ok (.goto 4, 3) := by decide +kernel
theorem dX5_canHold_20 : decode cX5_canHold 20 = .ok (.iconst 0, 1) := by decide +kernel
theorem dX5_canHold_21 : decode cX5_canHold 21 = .ok (.ireturn, 1) := by decide +kernel
set_option maxRecDepth 20000 in
theorem ggX5_hold_X5_isPerson : GoodIn wsX5_hold wsX5_isPerson := goodIn_r _ [5, 6, 7, 4, 8] (by decide +kernel) (by decide +kernel)
set_option maxRecDepth 20000 in
theorem gX5_hold_X5_isPerson : GoodIn wsX5_hold (va_wsS RX5 136 yX5_isPerson wsX5_isPerson) := goodIn_app (goodIn_of _ (by decide +kernel)) ggX5_hold_X5_isPerson
set_option maxRecDepth 20000 in
theorem ggX5_hold_X5_isBread : GoodIn wsX5_hold wsX5_isBread := goodIn_r _ [12, 13, 6, 7, 4, 8, 68, 69, 70, 71, 72, 73, 74, 75, 76, 77, 78, 79, 80] (by decide +kernel) (by decide +kernel)
set_option maxRecDepth 20000 in
theorem gX5_hold_X5_isBread : GoodIn wsX5_hold (wsV RX5 96 RX5 yX5_isBread wsX5_isBread) := goodIn_app (goodIn_of _ (by decide +kernel)) ggX5_hold_X5_isBread
set_option maxRecDepth 20000 in
theorem ggX5_hold_X5_canHold : GoodIn wsX5_hold wsX5_canHold := goodIn_r _ [17, 9, 10, 11, 4, 12, 13, 6, 7, 8, 18, 19, 20, 21, 22, 23, 24, 25, 68, 69, 70, 71, 72, 73, 74, 75, 76, 77, 78, 79, 80] (by decide +kernel) (by decide +kernel)
set_option maxRecDepth 20000 in
theorem gX5_hold_X5_canHold : GoodIn wsX5_hold (wsV RX5 139 RX5 yX5_canHold wsX5_canHold) := goodIn_app (goodIn_of _ (by decide +kernel)) ggX5_hold_X5_canHold
set_option maxRecDepth 20000 in
theorem ggX5_hold_X5_save : GoodIn wsX5_hold wsX5_save := goodIn_r _ [29, 30, 31, 13, 68, 69, 70, 71, 72, 73, 74, 75, 76, 77, 78, 79, 80] (by decide +kernel) (by decide +kernel)
set_option maxRecDepth 20000 in
theorem gX5_hold_X5_save : GoodIn wsX5_hold (wsV RX5 89 RX5 yX5_save wsX5_save) := goodIn_app (goodIn_of _ (by decide +kernel)) ggX5_hold_X5_save
set_option maxRecDepth 20000 in
theorem ggX5_hold_X5_holdsAnew : GoodIn wsX5_hold wsX5_holdsAnew := goodIn_r _ [35, 36, 37, 38, 4, 39, 18, 19, 20, 21, 22, 23, 24, 25, 13, 40, 41, 42, 43, 44, 45, 46, 47, 48, 49, 50, 51, 52, 53, 54, 55, 56, 57, 58, 59, 60, 61, 62, 63, 64, 65, 66, 67, 68, 69, 70, 71, 72, 73, 74, 75, 76, 77, 78, 79, 80] (by decide +kernel) (by decide +kernel)
set_option maxRecDepth 20000 in
theorem gX5_hold_X5_holdsAnew : GoodIn wsX5_hold (wsV RX5 142 RX5 yX5_holdsAnew wsX5_holdsAnew) := goodIn_app (goodIn_of _ (by decide +kernel)) ggX5_hold_X5_holdsAnew
theorem dX5_hold_0 : decode cX5_hold 0 = .ok (.aload_n 0, 1) := by decide +kernel
theorem dX5_hold_1 : decode cX5_hold 1 = .ok (.iload_n 1, 1) := by decide +kernel
theorem dX5_hold_2 : decode cX5_hold 2 = .ok (.invokestatic 136, 3) := by decide +kernel
theorem dX5_hold_5 : decode cX5_hold 5 = .ok (.ifCond .eq 11, 3) := by decide +kernel
theorem dX5_hold_8 : decode cX5_hold 8 = .ok (.aload_n 0, 1) := by decide +kernel
theorem dX5_hold_9 : decode cX5_hold 9 = .ok (.iload_n 2, 1) := by decide +kernel
theorem dX5_hold_10 : decode cX5_hold 10 = .ok (.invokevirtual 96, 3) := by decide +kernel
theorem dX5_hold_13 : decode cX5_hold 13 = .ok (.ifCond .ne 7, 3) := by decide +kernel
theorem dX5_hold_16 : decode cX5_hold 16 = .ok (.iconst 1, 1) := by decide +kernel
theorem dX5_hold_17 : decode cX5_hold 17 = .ok (.goto 16, 3) := by decide +kernel
theorem dX5_hold_20 : decode cX5_hold 20 = .ok (.aload_n 0, 1) := by decide +kernel
theorem dX5_hold_21 : decode cX5_hold 21 = .ok (.iload_n 2, 1) := by decide +kernel
theorem dX5_hold_22 : decode cX5_hold 22 = .ok (.invokevirtual 139, 3) := by decide +kernel
theorem dX5_hold_25 : decode cX5_hold 25 = .ok (.ifCond .eq 7, 3) := by decide +kernel
theorem dX5_hold_28 : decode cX5_hold 28 = .ok (.iconst 0, 1) := by decide +kernel
theorem dX5_hold_29 : decode cX5_hold 29 = .ok (.goto 4, 3) := by decide +kernel
theorem dX5_hold_32 : decode cX5_hold 32 = .ok (.iconst 2, 1) := by decide +kernel
theorem dX5_hold_33 : decode cX5_hold 33 = .ok (.putfield 28, 3) := by decide +kernel
theorem dX5_hold_36 : decode cX5_hold 36 = .ok (.aload_n 0, 1) := by decide +kernel
theorem dX5_hold_37 : decode cX5_hold 37 = .ok (.getfield 28, 3) := by decide +kernel
theorem dX5_hold_40 : decode cX5_hold 40 = .ok (.ifCond .le 5, 3) := by decide +kernel
theorem dX5_hold_43 : decode cX5_hold 43 = .ok (.iconst 0, 1) := by decide +kernel
theorem dX5_hold_44 : decode cX5_hold 44 = .ok (.ireturn, 1) := by decide +kernel
theorem dX5_hold_45 : decode cX5_hold 45 = .ok (.aload_n 0, 1) := by decide +kernel
theorem dX5_hold_46 : decode cX5_hold 46 = .ok (.invokevirtual 89, 3) := by decide +kernel
theorem dX5_hold_49 : decode cX5_hold 49 = .ok (.aload_n 0, 1) := by decide +kernel
theorem dX5_hold_50 : decode cX5_hold 50 = .ok (.iload_n 1, 1) := by decide +kernel
theorem dX5_hold_51 : decode cX5_hold 51 = .ok (.iload_n 2, 1) := by decide +kernel
theorem dX5_hold_52 : decode cX5_hold 52 = .ok (.iload_n 3, 1) := by decide +kernel
theorem dX5_hold_53 : decode cX5_hold 53 = .ok (.ifCond .eq 7, 3) := by decide +kernel
theorem dX5_hold_56 : decode cX5_hold 56 = .ok (.iconst 1, 1) := by decide +kernel
theorem dX5_hold_57 : decode cX5_hold 57 = .ok (.goto 4, 3) := by decide +kernel
theorem dX5_hold_60 : decode cX5_hold 60 = .ok (.iconst 0, 1) := by decide +kernel
theorem dX5_hold_61 : decode cX5_hold 61 = .ok (.iload_n 3, 1) := by decide +kernel
theorem dX5_hold_62 : decode cX5_hold 62 = .ok (.ifCond .eq 7, 3) := by decide +kernel
theorem dX5_hold_65 : decode cX5_hold 65 = .ok (.iconst 0, 1) := by decide +kernel
theorem dX5_hold_66 : decode cX5_hold 66 = .ok (.goto 4, 3) := by decide +kernel
theorem dX5_hold_69 : decode cX5_hold 69 = .ok (.iconst 1, 1) := by decide +kernel
theorem dX5_hold_70 : decode cX5_hold 70 = .ok (.invokevirtual 142, 3) := by decide +kernel
theorem dX5_hold_73 : decode cX5_hold 73 = .ok (.ireturn, 1) := by decide +kernel
set_option maxRecDepth 20000 in
theorem ggX5_letGo_X5_isPerson : GoodIn wsX5_letGo wsX5_isPerson := goodIn_r _ [5, 6, 7, 4, 8] (by decide +kernel) (by decide +kernel)
set_option maxRecDepth 20000 in
theorem gX5_letGo_X5_isPerson : GoodIn wsX5_letGo (va_wsS RX5 136 yX5_isPerson wsX5_isPerson) := goodIn_app (goodIn_of _ (by decide +kernel)) ggX5_letGo_X5_isPerson
set_option maxRecDepth 20000 in
theorem ggX5_letGo_X5_isBread : GoodIn wsX5_letGo wsX5_isBread := goodIn_r _ [12, 13, 6, 7, 4, 8, 64, 65, 66, 67, 68, 69, 70, 71, 72, 73, 74, 75, 76] (by decide +kernel) (by decide +kernel)
set_option maxRecDepth 20000 in
theorem gX5_letGo_X5_isBread : GoodIn wsX5_letGo (wsV RX5 96 RX5 yX5_isBread wsX5_isBread) := goodIn_app (goodIn_of _ (by decide +kernel)) ggX5_letGo_X5_isBread
set_option maxRecDepth 20000 in
theorem ggX5_letGo_X5_isHeld : GoodIn wsX5_letGo wsX5_isHeld := goodIn_r _ [17, 13, 64, 65, 66, 67, 68, 69, 70, 71, 72, 73, 74, 75, 76] (by decide +kernel) (by decide +kernel)
set_option maxRecDepth 20000 in
theorem gX5_letGo_X5_isHeld : GoodIn wsX5_letGo (wsV RX5 70 RX5 yX5_isHeld wsX5_isHeld) := goodIn_app (goodIn_of _ (by decide +kernel)) ggX5_letGo_X5_isHeld
set_option maxRecDepth 20000 in
theorem ggX5_letGo_X5_save : GoodIn wsX5_letGo wsX5_save := goodIn_r _ [21, 22, 23, 13, 64, 65, 66, 67, 68, 69, 70, 71, 72, 73, 74, 75, 76] (by decide +kernel) (by decide +kernel)
set_option maxRecDepth 20000 in
theorem gX5_letGo_X5_save : GoodIn wsX5_letGo (wsV RX5 89 RX5 yX5_save wsX5_save) := goodIn_app (goodIn_of _ (by decide +kernel)) ggX5_letGo_X5_save
set_option maxRecDepth 20000 in
theorem ggX5_letGo_X5_holdsAnew : GoodIn wsX5_letGo wsX5_holdsAnew := goodIn_r _ [27, 28, 29, 30, 4, 31, 32, 33, 34, 35, 36, 37, 38, 39, 13, 14, 15, 16, 17, 40, 41, 42, 43, 44, 45, 46, 47, 48, 49, 50, 51, 52, 53, 54, 55, 56, 57, 58, 59, 60, 61, 62, 63, 64, 65, 66, 67, 68, 69, 70, 71, 72, 73, 74, 75, 76] (by decide +kernel) (by decide +kernel)
set_option maxRecDepth 20000 in
theorem gX5_letGo_X5_holdsAnew : GoodIn wsX5_letGo (wsV RX5 142 RX5 yX5_holdsAnew wsX5_holdsAnew) := goodIn_app (goodIn_of _ (by decide +kernel)) ggX5_letGo_X5_holdsAnew
theorem dX5_letGo_0 : decode cX5_letGo 0 = .ok (.aload_n 0, 1) := by decide +kernel
theorem dX5_letGo_1 : decode cX5_letGo 1 = .ok (.iload_n 1, 1) := by decide +kernel
theorem dX5_letGo_2 : decode cX5_letGo 2 = .ok (.invokestatic 136, 3) := by decide +kernel
theorem dX5_letGo_5 : decode cX5_letGo 5 = .ok (.ifCond .eq 11, 3) := by decide +kernel
theorem dX5_letGo_8 : decode cX5_letGo 8 = .ok (.aload_n 0, 1) := by decide +kernel
theorem dX5_letGo_9 : decode cX5_letGo 9 = .ok (.iload_n 2, 1) := by decide +kernel
theorem dX5_letGo_10 : decode cX5_letGo 10 = .ok (.invokevirtual 96, 3) := by decide +kernel
theorem dX5_letGo_13 : decode cX5_letGo 13 = .ok (.ifCond .ne 7, 3) := by decide +kernel
theorem dX5_letGo_16 : decode cX5_letGo 16 = .ok (.iconst 1, 1) := by decide +kernel
theorem dX5_letGo_17 : decode cX5_letGo 17 = .ok (.goto 32, 3) := by decide +kernel
theorem dX5_letGo_20 : decode cX5_letGo 20 = .ok (.aload_n 0, 1) := by decide +kernel
theorem dX5_letGo_21 : decode cX5_letGo 21 = .ok (.sipush 353, 3) := by decide +kernel
theorem dX5_letGo_24 : decode cX5_letGo 24 = .ok (.iload_n 1, 1) := by decide +kernel
theorem dX5_letGo_25 : decode cX5_letGo 25 = .ok (.iload_n 2, 1) := by decide +kernel
theorem dX5_letGo_26 : decode cX5_letGo 26 = .ok (.invokevirtual 70, 3) := by decide +kernel
theorem dX5_letGo_29 : decode cX5_letGo 29 = .ok (.ifCond .ne 15, 3) := by decide +kernel
theorem dX5_letGo_32 : decode cX5_letGo 32 = .ok (.aload_n 0, 1) := by decide +kernel
theorem dX5_letGo_33 : decode cX5_letGo 33 = .ok (.sipush 503, 3) := by decide +kernel
theorem dX5_letGo_36 : decode cX5_letGo 36 = .ok (.iload_n 1, 1) := by decide +kernel
theorem dX5_letGo_37 : decode cX5_letGo 37 = .ok (.iload_n 2, 1) := by decide +kernel
theorem dX5_letGo_38 : decode cX5_letGo 38 = .ok (.invokevirtual 70, 3) := by decide +kernel
theorem dX5_letGo_41 : decode cX5_letGo 41 = .ok (.ifCond .eq 7, 3) := by decide +kernel
theorem dX5_letGo_44 : decode cX5_letGo 44 = .ok (.iconst 0, 1) := by decide +kernel
theorem dX5_letGo_45 : decode cX5_letGo 45 = .ok (.goto 4, 3) := by decide +kernel
theorem dX5_letGo_48 : decode cX5_letGo 48 = .ok (.iconst 2, 1) := by decide +kernel
theorem dX5_letGo_49 : decode cX5_letGo 49 = .ok (.putfield 28, 3) := by decide +kernel
theorem dX5_letGo_52 : decode cX5_letGo 52 = .ok (.aload_n 0, 1) := by decide +kernel
theorem dX5_letGo_53 : decode cX5_letGo 53 = .ok (.getfield 28, 3) := by decide +kernel
theorem dX5_letGo_56 : decode cX5_letGo 56 = .ok (.ifCond .le 5, 3) := by decide +kernel
theorem dX5_letGo_59 : decode cX5_letGo 59 = .ok (.iconst 0, 1) := by decide +kernel
theorem dX5_letGo_60 : decode cX5_letGo 60 = .ok (.ireturn, 1) := by decide +kernel
theorem dX5_letGo_61 : decode cX5_letGo 61 = .ok (.aload_n 0, 1) := by decide +kernel
theorem dX5_letGo_62 : decode cX5_letGo 62 = .ok (.invokevirtual 89, 3) := by decide +kernel
theorem dX5_letGo_65 : decode cX5_letGo 65 = .ok (.aload_n 0, 1) := by decide +kernel
theorem dX5_letGo_66 : decode cX5_letGo 66 = .ok (.iload_n 1, 1) := by decide +kernel
theorem dX5_letGo_67 : decode cX5_letGo 67 = .ok (.iload_n 2, 1) := by decide +kernel
theorem dX5_letGo_68 : decode cX5_letGo 68 = .ok (.iconst 0, 1) := by decide +kernel
theorem dX5_letGo_69 : decode cX5_letGo 69 = .ok (.iconst 0, 1) := by decide +kernel
theorem dX5_letGo_70 : decode cX5_letGo 70 = .ok (.invokevirtual 142, 3) := by decide +kernel
theorem dX5_letGo_73 : decode cX5_letGo 73 = .ok (.ireturn, 1) := by decide +kernel
set_option maxRecDepth 20000 in
theorem ggX5_dayPasses_X5_eatsNow : GoodIn wsX5_dayPasses wsX5_eatsNow := goodIn_r _ [6, 7, 8, 9, 5, 10, 11, 12, 13, 14, 1, 15, 16, 17, 18, 19, 20, 21, 22, 23, 24, 25, 26, 27, 28, 29, 30, 31, 32, 33, 34, 35, 36, 37, 38, 43, 44, 45, 46, 47, 48, 49, 50, 51, 52, 53, 54, 55] (by decide +kernel) (by decide +kernel)
set_option maxRecDepth 20000 in
theorem gX5_dayPasses_X5_eatsNow : GoodIn wsX5_dayPasses (wsV RX5 83 RX5 yX5_eatsNow wsX5_eatsNow) := goodIn_app (goodIn_of _ (by decide +kernel)) ggX5_dayPasses_X5_eatsNow
set_option maxRecDepth 20000 in
theorem ggX5_dayPasses_X5_of : GoodIn wsX5_dayPasses wsX5_of := goodIn_r _ [14, 1, 43, 44, 45, 46, 47, 48, 49, 50, 51, 52, 53, 54, 55] (by decide +kernel) (by decide +kernel)
set_option maxRecDepth 20000 in
theorem gX5_dayPasses_X5_of : GoodIn wsX5_dayPasses (wsV RX5 39 RX5 yX5_of wsX5_of) := goodIn_app (goodIn_of _ (by decide +kernel)) ggX5_dayPasses_X5_of
set_option maxRecDepth 20000 in
theorem ggX5_dayPasses_X5_put : GoodIn wsX5_dayPasses wsX5_put := goodIn_r _ [42, 1, 43, 44, 45, 46, 47, 48, 49, 50, 51, 52, 53, 54, 55] (by decide +kernel) (by decide +kernel)
set_option maxRecDepth 20000 in
theorem gX5_dayPasses_X5_put : GoodIn wsX5_dayPasses (wsV RX5 63 RX5 yX5_put wsX5_put) := goodIn_app (goodIn_of _ (by decide +kernel)) ggX5_dayPasses_X5_put
theorem dX5_dayPasses_0 : decode cX5_dayPasses 0 = .ok (.aload_n 0, 1) := by decide +kernel
theorem dX5_dayPasses_1 : decode cX5_dayPasses 1 = .ok (.getfield 7, 3) := by decide +kernel
theorem dX5_dayPasses_4 : decode cX5_dayPasses 4 = .ok (.iconst 0, 1) := by decide +kernel
theorem dX5_dayPasses_5 : decode cX5_dayPasses 5 = .ok (.dup2, 1) := by decide +kernel
theorem dX5_dayPasses_6 : decode cX5_dayPasses 6 = .ok (.iaload, 1) := by decide +kernel
theorem dX5_dayPasses_7 : decode cX5_dayPasses 7 = .ok (.iconst 1, 1) := by decide +kernel
theorem dX5_dayPasses_8 : decode cX5_dayPasses 8 = .ok (.iadd, 1) := by decide +kernel
theorem dX5_dayPasses_9 : decode cX5_dayPasses 9 = .ok (.iastore, 1) := by decide +kernel
theorem dX5_dayPasses_10 : decode cX5_dayPasses 10 = .ok (.iconst 0, 1) := by decide +kernel
theorem dX5_dayPasses_11 : decode cX5_dayPasses 11 = .ok (.istore_n 1, 1) := by decide +kernel
theorem dX5_dayPasses_12 : decode cX5_dayPasses 12 = .ok (.iconst 0, 1) := by decide +kernel
theorem dX5_dayPasses_13 : decode cX5_dayPasses 13 = .ok (.istore_n 2, 1) := by decide +kernel
theorem dX5_dayPasses_14 : decode cX5_dayPasses 14 = .ok (.iload_n 2, 1) := by decide +kernel
theorem dX5_dayPasses_15 : decode cX5_dayPasses 15 = .ok (.sipush 150, 3) := by decide +kernel
theorem dX5_dayPasses_18 : decode cX5_dayPasses 18 = .ok (.aload_n 0, 1) := by decide +kernel
theorem dX5_dayPasses_19 : decode cX5_dayPasses 19 = .ok (.getfield 7, 3) := by decide +kernel
theorem dX5_dayPasses_22 : decode cX5_dayPasses 22 = .ok (.iconst 1, 1) := by decide +kernel
theorem dX5_dayPasses_23 : decode cX5_dayPasses 23 = .ok (.iaload, 1) := by decide +kernel
theorem dX5_dayPasses_24 : decode cX5_dayPasses 24 = .ok (.imul, 1) := by decide +kernel
theorem dX5_dayPasses_25 : decode cX5_dayPasses 25 = .ok (.if_icmp .ge 88, 3) := by decide +kernel
theorem dX5_dayPasses_28 : decode cX5_dayPasses 28 = .ok (.iload_n 2, 1) := by decide +kernel
theorem dX5_dayPasses_29 : decode cX5_dayPasses 29 = .ok (.aload_n 0, 1) := by decide +kernel
theorem dX5_dayPasses_30 : decode cX5_dayPasses 30 = .ok (.getfield 7, 3) := by decide +kernel
theorem dX5_dayPasses_33 : decode cX5_dayPasses 33 = .ok (.iconst 1, 1) := by decide +kernel
theorem dX5_dayPasses_34 : decode cX5_dayPasses 34 = .ok (.iaload, 1) := by decide +kernel
theorem dX5_dayPasses_35 : decode cX5_dayPasses 35 = .ok (.idiv, 1) := by decide +kernel
theorem dX5_dayPasses_36 : decode cX5_dayPasses 36 = .ok (.istore_n 3, 1) := by decide +kernel
theorem dX5_dayPasses_37 : decode cX5_dayPasses 37 = .ok (.iload_n 2, 1) := by decide +kernel
theorem dX5_dayPasses_38 : decode cX5_dayPasses 38 = .ok (.aload_n 0, 1) := by decide +kernel
theorem dX5_dayPasses_39 : decode cX5_dayPasses 39 = .ok (.getfield 7, 3) := by decide +kernel
theorem dX5_dayPasses_42 : decode cX5_dayPasses 42 = .ok (.iconst 1, 1) := by decide +kernel
theorem dX5_dayPasses_43 : decode cX5_dayPasses 43 = .ok (.iaload, 1) := by decide +kernel
theorem dX5_dayPasses_44 : decode cX5_dayPasses 44 = .ok (.irem, 1) := by decide +kernel
theorem dX5_dayPasses_45 : decode cX5_dayPasses 45 = .ok (.istore 4, 2) := by decide +kernel
theorem dX5_dayPasses_47 : decode cX5_dayPasses 47 = .ok (.aload_n 0, 1) := by decide +kernel
theorem dX5_dayPasses_48 : decode cX5_dayPasses 48 = .ok (.iload_n 3, 1) := by decide +kernel
theorem dX5_dayPasses_49 : decode cX5_dayPasses 49 = .ok (.iload 4, 2) := by decide +kernel
theorem dX5_dayPasses_51 : decode cX5_dayPasses 51 = .ok (.invokevirtual 83, 3) := by decide +kernel
theorem dX5_dayPasses_54 : decode cX5_dayPasses 54 = .ok (.ifCond .le 53, 3) := by decide +kernel
theorem dX5_dayPasses_57 : decode cX5_dayPasses 57 = .ok (.aload_n 0, 1) := by decide +kernel
theorem dX5_dayPasses_58 : decode cX5_dayPasses 58 = .ok (.getfield 7, 3) := by decide +kernel
theorem dX5_dayPasses_61 : decode cX5_dayPasses 61 = .ok (.sipush 653, 3) := by decide +kernel
theorem dX5_dayPasses_64 : decode cX5_dayPasses 64 = .ok (.iload_n 3, 1) := by decide +kernel
theorem dX5_dayPasses_65 : decode cX5_dayPasses 65 = .ok (.iadd, 1) := by decide +kernel
theorem dX5_dayPasses_66 : decode cX5_dayPasses 66 = .ok (.dup2, 1) := by decide +kernel
theorem dX5_dayPasses_67 : decode cX5_dayPasses 67 = .ok (.iaload, 1) := by decide +kernel
theorem dX5_dayPasses_68 : decode cX5_dayPasses 68 = .ok (.iconst 1, 1) := by decide +kernel
theorem dX5_dayPasses_69 : decode cX5_dayPasses 69 = .ok (.iload 4, 2) := by decide +kernel
theorem dX5_dayPasses_71 : decode cX5_dayPasses 71 = .ok (.ishl, 1) := by decide +kernel
theorem dX5_dayPasses_72 : decode cX5_dayPasses 72 = .ok (.ior, 1) := by decide +kernel
theorem dX5_dayPasses_73 : decode cX5_dayPasses 73 = .ok (.iastore, 1) := by decide +kernel
theorem dX5_dayPasses_74 : decode cX5_dayPasses 74 = .ok (.aload_n 0, 1) := by decide +kernel
theorem dX5_dayPasses_75 : decode cX5_dayPasses 75 = .ok (.getfield 7, 3) := by decide +kernel
theorem dX5_dayPasses_78 : decode cX5_dayPasses 78 = .ok (.sipush 803, 3) := by decide +kernel
theorem dX5_dayPasses_81 : decode cX5_dayPasses 81 = .ok (.iload_n 3, 1) := by decide +kernel
theorem dX5_dayPasses_82 : decode cX5_dayPasses 82 = .ok (.iadd, 1) := by decide +kernel
theorem dX5_dayPasses_83 : decode cX5_dayPasses 83 = .ok (.dup2, 1) := by decide +kernel
theorem dX5_dayPasses_84 : decode cX5_dayPasses 84 = .ok (.iaload, 1) := by decide +kernel
theorem dX5_dayPasses_85 : decode cX5_dayPasses 85 = .ok (.iconst 1, 1) := by decide +kernel
theorem dX5_dayPasses_86 : decode cX5_dayPasses 86 = .ok (.iadd, 1) := by decide +kernel
theorem dX5_dayPasses_87 : decode cX5_dayPasses 87 = .ok (.iastore, 1) := by decide +kernel
theorem dX5_dayPasses_88 : decode cX5_dayPasses 88 = .ok (.aload_n 0, 1) := by decide +kernel
theorem dX5_dayPasses_89 : decode cX5_dayPasses 89 = .ok (.iload 4, 2) := by decide +kernel
theorem dX5_dayPasses_91 : decode cX5_dayPasses 91 = .ok (.iconst 5, 1) := by decide +kernel
theorem dX5_dayPasses_92 : decode cX5_dayPasses 92 = .ok (.aload_n 0, 1) := by decide +kernel
theorem dX5_dayPasses_93 : decode cX5_dayPasses 93 = .ok (.iload 4, 2) := by decide +kernel
theorem dX5_dayPasses_95 : decode cX5_dayPasses 95 = .ok (.iconst 5, 1) := by decide +kernel
theorem dX5_dayPasses_96 : decode cX5_dayPasses 96 = .ok (.invokevirtual 39, 3) := by decide +kernel
theorem dX5_dayPasses_99 : decode cX5_dayPasses 99 = .ok (.iconst 1, 1) := by decide +kernel
theorem dX5_dayPasses_100 : decode cX5_dayPasses 100 = .ok (.iadd, 1) := by decide +kernel
theorem dX5_dayPasses_101 : decode cX5_dayPasses 101 = .ok (.invokevirtual 63, 3) := by decide +kernel
theorem dX5_dayPasses_104 : decode cX5_dayPasses 104 = .ok (.iinc 1 1, 3) := by decide +kernel
theorem dX5_dayPasses_107 : decode cX5_dayPasses 107 = .ok (.iinc 2 1, 3) := by decide +kernel
theorem dX5_dayPasses_110 : decode cX5_dayPasses 110 = .ok (.goto (-96), 3) := by decide +kernel
theorem dX5_dayPasses_113 : decode cX5_dayPasses 113 = .ok (.iload_n 1, 1) := by decide +kernel
theorem dX5_dayPasses_114 : decode cX5_dayPasses 114 = .ok (.ireturn, 1) := by decide +kernel
set_option maxRecDepth 20000 in
theorem ggX5_passes_X5_dayPasses : GoodIn wsX5_passes wsX5_dayPasses := goodIn_r _ [5, 6, 7, 8, 9, 4, 10, 11, 12, 13, 14, 15, 16, 17, 18, 19, 20, 21, 22, 23, 24, 25, 26, 27, 28, 29, 30, 31, 32, 33, 34, 35, 36, 37, 38, 39, 40, 41, 42, 43, 44, 45, 46, 47, 48, 49, 50, 51, 52, 53, 54, 55, 56, 57, 58, 59] (by decide +kernel) (by decide +kernel)
set_option maxRecDepth 20000 in
theorem gX5_passes_X5_dayPasses : GoodIn wsX5_passes (wsV RX5 146 RX5 yX5_dayPasses wsX5_dayPasses) := goodIn_app (goodIn_of _ (by decide +kernel)) ggX5_passes_X5_dayPasses
theorem dX5_passes_0 : decode cX5_passes 0 = .ok (.iconst 0, 1) := by decide +kernel
theorem dX5_passes_1 : decode cX5_passes 1 = .ok (.istore_n 2, 1) := by decide +kernel
theorem dX5_passes_2 : decode cX5_passes 2 = .ok (.iconst 0, 1) := by decide +kernel
theorem dX5_passes_3 : decode cX5_passes 3 = .ok (.istore_n 3, 1) := by decide +kernel
theorem dX5_passes_4 : decode cX5_passes 4 = .ok (.iload_n 3, 1) := by decide +kernel
theorem dX5_passes_5 : decode cX5_passes 5 = .ok (.iload_n 1, 1) := by decide +kernel
theorem dX5_passes_6 : decode cX5_passes 6 = .ok (.if_icmp .ge 20, 3) := by decide +kernel
theorem dX5_passes_9 : decode cX5_passes 9 = .ok (.aload_n 0, 1) := by decide +kernel
theorem dX5_passes_10 : decode cX5_passes 10 = .ok (.invokevirtual 146, 3) := by decide +kernel
theorem dX5_passes_13 : decode cX5_passes 13 = .ok (.istore 4, 2) := by decide +kernel
theorem dX5_passes_15 : decode cX5_passes 15 = .ok (.iload_n 2, 1) := by decide +kernel
theorem dX5_passes_16 : decode cX5_passes 16 = .ok (.iload 4, 2) := by decide +kernel
theorem dX5_passes_18 : decode cX5_passes 18 = .ok (.iadd, 1) := by decide +kernel
theorem dX5_passes_19 : decode cX5_passes 19 = .ok (.istore_n 2, 1) := by decide +kernel
theorem dX5_passes_20 : decode cX5_passes 20 = .ok (.iinc 3 1, 3) := by decide +kernel
theorem dX5_passes_23 : decode cX5_passes 23 = .ok (.goto (-19), 3) := by decide +kernel
theorem dX5_passes_26 : decode cX5_passes 26 = .ok (.iload_n 2, 1) := by decide +kernel
theorem dX5_passes_27 : decode cX5_passes 27 = .ok (.ireturn, 1) := by decide +kernel
set_option maxRecDepth 20000 in
theorem ggX5_pass_X5_within : GoodIn wsX5_pass wsX5_within := goodIn_r _ [5] (by decide +kernel) (by decide +kernel)
set_option maxRecDepth 20000 in
theorem gX5_pass_X5_within : GoodIn wsX5_pass (va_wsS RX5 35 yX5_within wsX5_within) := goodIn_app (goodIn_of _ (by decide +kernel)) ggX5_pass_X5_within
set_option maxRecDepth 20000 in
theorem ggX5_pass_X5_save : GoodIn wsX5_pass wsX5_save := goodIn_r _ [9, 10, 11, 12, 61, 62, 63, 64, 65, 66, 67, 68, 69, 70, 71, 72, 73] (by decide +kernel) (by decide +kernel)
set_option maxRecDepth 20000 in
theorem gX5_pass_X5_save : GoodIn wsX5_pass (wsV RX5 89 RX5 yX5_save wsX5_save) := goodIn_app (goodIn_of _ (by decide +kernel)) ggX5_pass_X5_save
set_option maxRecDepth 20000 in
theorem ggX5_pass_X5_passes : GoodIn wsX5_pass wsX5_passes := goodIn_r _ [16, 17, 18, 19, 4, 20, 12, 21, 22, 23, 24, 25, 26, 27, 28, 29, 30, 31, 32, 33, 34, 35, 36, 37, 38, 39, 40, 41, 42, 43, 44, 45, 46, 47, 48, 49, 50, 51, 52, 53, 54, 55, 56, 57, 58, 59, 60, 61, 62, 63, 64, 65, 66, 67, 68, 69, 70, 71, 72, 73] (by decide +kernel) (by decide +kernel)
set_option maxRecDepth 20000 in
theorem gX5_pass_X5_passes : GoodIn wsX5_pass (wsV RX5 150 RX5 yX5_passes wsX5_passes) := goodIn_app (goodIn_of _ (by decide +kernel)) ggX5_pass_X5_passes
theorem dX5_pass_0 : decode cX5_pass 0 = .ok (.aload_n 0, 1) := by decide +kernel
theorem dX5_pass_1 : decode cX5_pass 1 = .ok (.iload_n 1, 1) := by decide +kernel
theorem dX5_pass_2 : decode cX5_pass 2 = .ok (.iconst 1, 1) := by decide +kernel
theorem dX5_pass_3 : decode cX5_pass 3 = .ok (.bipush 50, 2) := by decide +kernel
theorem dX5_pass_5 : decode cX5_pass 5 = .ok (.invokestatic 35, 3) := by decide +kernel
theorem dX5_pass_8 : decode cX5_pass 8 = .ok (.ifCond .eq 7, 3) := by decide +kernel
theorem dX5_pass_11 : decode cX5_pass 11 = .ok (.iconst 0, 1) := by decide +kernel
theorem dX5_pass_12 : decode cX5_pass 12 = .ok (.goto 4, 3) := by decide +kernel
theorem dX5_pass_15 : decode cX5_pass 15 = .ok (.iconst 1, 1) := by decide +kernel
theorem dX5_pass_16 : decode cX5_pass 16 = .ok (.putfield 28, 3) := by decide +kernel
theorem dX5_pass_19 : decode cX5_pass 19 = .ok (.aload_n 0, 1) := by decide +kernel
theorem dX5_pass_20 : decode cX5_pass 20 = .ok (.getfield 28, 3) := by decide +kernel
theorem dX5_pass_23 : decode cX5_pass 23 = .ok (.ifCond .le 5, 3) := by decide +kernel
theorem dX5_pass_26 : decode cX5_pass 26 = .ok (.iconst 0, 1) := by decide +kernel
theorem dX5_pass_27 : decode cX5_pass 27 = .ok (.ireturn, 1) := by decide +kernel
theorem dX5_pass_28 : decode cX5_pass 28 = .ok (.aload_n 0, 1) := by decide +kernel
theorem dX5_pass_29 : decode cX5_pass 29 = .ok (.invokevirtual 89, 3) := by decide +kernel
theorem dX5_pass_32 : decode cX5_pass 32 = .ok (.aload_n 0, 1) := by decide +kernel
theorem dX5_pass_33 : decode cX5_pass 33 = .ok (.iload_n 1, 1) := by decide +kernel
theorem dX5_pass_34 : decode cX5_pass 34 = .ok (.invokevirtual 150, 3) := by decide +kernel
theorem dX5_pass_37 : decode cX5_pass 37 = .ok (.ireturn, 1) := by decide +kernel
set_option maxRecDepth 20000 in
theorem ggX5_append_X5_within : GoodIn wsX5_append wsX5_within := goodIn_r _ [7] (by decide +kernel) (by decide +kernel)
set_option maxRecDepth 20000 in
theorem gX5_append_X5_within : GoodIn wsX5_append (va_wsS RX5 35 yX5_within wsX5_within) := goodIn_app (goodIn_of _ (by decide +kernel)) ggX5_append_X5_within
theorem dX5_append_0 : decode cX5_append 0 = .ok (.aload_n 0, 1) := by decide +kernel
theorem dX5_append_1 : decode cX5_append 1 = .ok (.iload_n 1, 1) := by decide +kernel
theorem dX5_append_2 : decode cX5_append 2 = .ok (.bipush 33, 2) := by decide +kernel
theorem dX5_append_4 : decode cX5_append 4 = .ok (.bipush 126, 2) := by decide +kernel
theorem dX5_append_6 : decode cX5_append 6 = .ok (.invokestatic 35, 3) := by decide +kernel
theorem dX5_append_9 : decode cX5_append 9 = .ok (.ifCond .ne 7, 3) := by decide +kernel
theorem dX5_append_12 : decode cX5_append 12 = .ok (.iconst 1, 1) := by decide +kernel
theorem dX5_append_13 : decode cX5_append 13 = .ok (.goto 17, 3) := by decide +kernel
theorem dX5_append_16 : decode cX5_append 16 = .ok (.aload_n 0, 1) := by decide +kernel
theorem dX5_append_17 : decode cX5_append 17 = .ok (.getfield 153, 3) := by decide +kernel
theorem dX5_append_20 : decode cX5_append 20 = .ok (.bipush 60, 2) := by decide +kernel
theorem dX5_append_22 : decode cX5_append 22 = .ok (.if_icmp .ne 7, 3) := by decide +kernel
theorem dX5_append_25 : decode cX5_append 25 = .ok (.iconst 2, 1) := by decide +kernel
theorem dX5_append_26 : decode cX5_append 26 = .ok (.goto 4, 3) := by decide +kernel
theorem dX5_append_29 : decode cX5_append 29 = .ok (.iconst 0, 1) := by decide +kernel
theorem dX5_append_30 : decode cX5_append 30 = .ok (.putfield 28, 3) := by decide +kernel
theorem dX5_append_33 : decode cX5_append 33 = .ok (.aload_n 0, 1) := by decide +kernel
theorem dX5_append_34 : decode cX5_append 34 = .ok (.getfield 28, 3) := by decide +kernel
theorem dX5_append_37 : decode cX5_append 37 = .ok (.ifCond .le 5, 3) := by decide +kernel
theorem dX5_append_40 : decode cX5_append 40 = .ok (.iconst 0, 1) := by decide +kernel
theorem dX5_append_41 : decode cX5_append 41 = .ok (.ireturn, 1) := by decide +kernel
theorem dX5_append_42 : decode cX5_append 42 = .ok (.aload_n 0, 1) := by decide +kernel
theorem dX5_append_43 : decode cX5_append 43 = .ok (.getfield 16, 3) := by decide +kernel
theorem dX5_append_46 : decode cX5_append 46 = .ok (.aload_n 0, 1) := by decide +kernel
theorem dX5_append_47 : decode cX5_append 47 = .ok (.getfield 153, 3) := by decide +kernel
theorem dX5_append_50 : decode cX5_append 50 = .ok (.iload_n 1, 1) := by decide +kernel
theorem dX5_append_51 : decode cX5_append 51 = .ok (.iastore, 1) := by decide +kernel
theorem dX5_append_52 : decode cX5_append 52 = .ok (.aload_n 0, 1) := by decide +kernel
theorem dX5_append_53 : decode cX5_append 53 = .ok (.dup, 1) := by decide +kernel
theorem dX5_append_54 : decode cX5_append 54 = .ok (.getfield 153, 3) := by decide +kernel
theorem dX5_append_57 : decode cX5_append 57 = .ok (.iconst 1, 1) := by decide +kernel
theorem dX5_append_58 : decode cX5_append 58 = .ok (.iadd, 1) := by decide +kernel
theorem dX5_append_59 : decode cX5_append 59 = .ok (.putfield 153, 3) := by decide +kernel
theorem dX5_append_62 : decode cX5_append 62 = .ok (.aload_n 0, 1) := by decide +kernel
theorem dX5_append_63 : decode cX5_append 63 = .ok (.getfield 153, 3) := by decide +kernel
theorem dX5_append_66 : decode cX5_append 66 = .ok (.ireturn, 1) := by decide +kernel
theorem dX5_clearBuffer_0 : decode cX5_clearBuffer 0 = .ok (.aload_n 0, 1) := by decide +kernel
theorem dX5_clearBuffer_1 : decode cX5_clearBuffer 1 = .ok (.iconst 0, 1) := by decide +kernel
theorem dX5_clearBuffer_2 : decode cX5_clearBuffer 2 = .ok (.putfield 28, 3) := by decide +kernel
theorem dX5_clearBuffer_5 : decode cX5_clearBuffer 5 = .ok (.aload_n 0, 1) := by decide +kernel
theorem dX5_clearBuffer_6 : decode cX5_clearBuffer 6 = .ok (.getfield 153, 3) := by decide +kernel
theorem dX5_clearBuffer_9 : decode cX5_clearBuffer 9 = .ok (.istore_n 1, 1) := by decide +kernel
theorem dX5_clearBuffer_10 : decode cX5_clearBuffer 10 = .ok (.aload_n 0, 1) := by decide +kernel
theorem dX5_clearBuffer_11 : decode cX5_clearBuffer 11 = .ok (.iconst 0, 1) := by decide +kernel
theorem dX5_clearBuffer_12 : decode cX5_clearBuffer 12 = .ok (.putfield 153, 3) := by decide +kernel
theorem dX5_clearBuffer_15 : decode cX5_clearBuffer 15 = .ok (.iload_n 1, 1) := by decide +kernel
theorem dX5_clearBuffer_16 : decode cX5_clearBuffer 16 = .ok (.ireturn, 1) := by decide +kernel
theorem dX5_begins_0 : decode cX5_begins 0 = .ok (.aload_n 0, 1) := by decide +kernel
theorem dX5_begins_1 : decode cX5_begins 1 = .ok (.getfield 22, 3) := by decide +kernel
theorem dX5_begins_4 : decode cX5_begins 4 = .ok (.iconst 3, 1) := by decide +kernel
theorem dX5_begins_5 : decode cX5_begins 5 = .ok (.aload_n 0, 1) := by decide +kernel
theorem dX5_begins_6 : decode cX5_begins 6 = .ok (.getfield 156, 3) := by decide +kernel
theorem dX5_begins_9 : decode cX5_begins 9 = .ok (.imul, 1) := by decide +kernel
theorem dX5_begins_10 : decode cX5_begins 10 = .ok (.iload_n 1, 1) := by decide +kernel
theorem dX5_begins_11 : decode cX5_begins 11 = .ok (.iastore, 1) := by decide +kernel
theorem dX5_begins_12 : decode cX5_begins 12 = .ok (.aload_n 0, 1) := by decide +kernel
theorem dX5_begins_13 : decode cX5_begins 13 = .ok (.iconst (-1), 1) := by decide +kernel
theorem dX5_begins_14 : decode cX5_begins 14 = .ok (.putfield 159, 3) := by decide +kernel
theorem dX5_begins_17 : decode cX5_begins 17 = .ok (.aload_n 0, 1) := by decide +kernel
theorem dX5_begins_18 : decode cX5_begins 18 = .ok (.iload_n 1, 1) := by decide +kernel
theorem dX5_begins_19 : decode cX5_begins 19 = .ok (.bipush 43, 2) := by decide +kernel
theorem dX5_begins_21 : decode cX5_begins 21 = .ok (.if_icmp .eq 9, 3) := by decide +kernel
theorem dX5_begins_24 : decode cX5_begins 24 = .ok (.iload_n 1, 1) := by decide +kernel
theorem dX5_begins_25 : decode cX5_begins 25 = .ok (.bipush 45, 2) := by decide +kernel
theorem dX5_begins_27 : decode cX5_begins 27 = .ok (.if_icmp .ne 7, 3) := by decide +kernel
theorem dX5_begins_30 : decode cX5_begins 30 = .ok (.iconst 1, 1) := by decide +kernel
theorem dX5_begins_31 : decode cX5_begins 31 = .ok (.goto 30, 3) := by decide +kernel
theorem dX5_begins_34 : decode cX5_begins 34 = .ok (.iload_n 1, 1) := by decide +kernel
theorem dX5_begins_35 : decode cX5_begins 35 = .ok (.bipush 105, 2) := by decide +kernel
theorem dX5_begins_37 : decode cX5_begins 37 = .ok (.if_icmp .eq 9, 3) := by decide +kernel
theorem dX5_begins_40 : decode cX5_begins 40 = .ok (.iload_n 1, 1) := by decide +kernel
theorem dX5_begins_41 : decode cX5_begins 41 = .ok (.bipush 111, 2) := by decide +kernel
theorem dX5_begins_43 : decode cX5_begins 43 = .ok (.if_icmp .ne 7, 3) := by decide +kernel
theorem dX5_begins_46 : decode cX5_begins 46 = .ok (.iconst 4, 1) := by decide +kernel
theorem dX5_begins_47 : decode cX5_begins 47 = .ok (.goto 14, 3) := by decide +kernel
theorem dX5_begins_50 : decode cX5_begins 50 = .ok (.iload_n 1, 1) := by decide +kernel
theorem dX5_begins_51 : decode cX5_begins 51 = .ok (.bipush 120, 2) := by decide +kernel
theorem dX5_begins_53 : decode cX5_begins 53 = .ok (.if_icmp .ne 7, 3) := by decide +kernel
theorem dX5_begins_56 : decode cX5_begins 56 = .ok (.iconst 5, 1) := by decide +kernel
theorem dX5_begins_57 : decode cX5_begins 57 = .ok (.goto 4, 3) := by decide +kernel
theorem dX5_begins_60 : decode cX5_begins 60 = .ok (.iconst 3, 1) := by decide +kernel
theorem dX5_begins_61 : decode cX5_begins 61 = .ok (.putfield 162, 3) := by decide +kernel
theorem dX5_begins_64 : decode cX5_begins 64 = .ok (.iload_n 1, 1) := by decide +kernel
theorem dX5_begins_65 : decode cX5_begins 65 = .ok (.bipush 43, 2) := by decide +kernel
theorem dX5_begins_67 : decode cX5_begins 67 = .ok (.if_icmp .eq 33, 3) := by decide +kernel
theorem dX5_begins_70 : decode cX5_begins 70 = .ok (.iload_n 1, 1) := by decide +kernel
theorem dX5_begins_71 : decode cX5_begins 71 = .ok (.bipush 45, 2) := by decide +kernel
theorem dX5_begins_73 : decode cX5_begins 73 = .ok (.if_icmp .eq 27, 3) := by decide +kernel
theorem dX5_begins_76 : decode cX5_begins 76 = .ok (.iload_n 1, 1) := by decide +kernel
theorem dX5_begins_77 : decode cX5_begins 77 = .ok (.bipush 105, 2) := by decide +kernel
theorem dX5_begins_79 : decode cX5_begins 79 = .ok (.if_icmp .eq 21, 3) := by decide +kernel
theorem dX5_begins_82 : decode cX5_begins 82 = .ok (.iload_n 1, 1) := by decide +kernel
theorem dX5_begins_83 : decode cX5_begins 83 = .ok (.bipush 111, 2) := by decide +kernel
theorem dX5_begins_85 : decode cX5_begins 85 = .ok (.if_icmp .eq 15, 3) := by decide +kernel
theorem dX5_begins_88 : decode cX5_begins 88 = .ok (.iload_n 1, 1) := by decide +kernel
theorem dX5_begins_89 : decode cX5_begins 89 = .ok (.bipush 120, 2) := by decide +kernel
theorem dX5_begins_91 : decode cX5_begins 91 = .ok (.if_icmp .eq 9, 3) := by decide +kernel
theorem dX5_begins_94 : decode cX5_begins 94 = .ok (.iload_n 1, 1) := by decide +kernel
theorem dX5_begins_95 : decode cX5_begins 95 = .ok (.bipush 100, 2) := by decide +kernel
theorem dX5_begins_97 : decode cX5_begins 97 = .ok (.if_icmp .ne 7, 3) := by decide +kernel
theorem dX5_begins_100 : decode cX5_begins 100 = .ok (.iconst 1, 1) := by decide +kernel
theorem dX5_begins_101 : decode cX5_begins 101 = .ok (.goto 4, 3) := by decide +kernel
theorem dX5_begins_104 : decode cX5_begins 104 = .ok (.iconst 0, 1) := by decide +kernel
theorem dX5_begins_105 : decode cX5_begins 105 = .ok (.ireturn, 1) := by decide +kernel
set_option maxRecDepth 20000 in
theorem ggX5_takesBread_X5_within : GoodIn wsX5_takesBread wsX5_within := goodIn_r _ [7] (by decide +kernel) (by decide +kernel)
set_option maxRecDepth 20000 in
theorem gX5_takesBread_X5_within : GoodIn wsX5_takesBread (va_wsS RX5 35 yX5_within wsX5_within) := goodIn_app (goodIn_of _ (by decide +kernel)) ggX5_takesBread_X5_within
theorem dX5_takesBread_0 : decode cX5_takesBread 0 = .ok (.aload_n 0, 1) := by decide +kernel
theorem dX5_takesBread_1 : decode cX5_takesBread 1 = .ok (.getfield 22, 3) := by decide +kernel
theorem dX5_takesBread_4 : decode cX5_takesBread 4 = .ok (.iconst 3, 1) := by decide +kernel
theorem dX5_takesBread_5 : decode cX5_takesBread 5 = .ok (.aload_n 0, 1) := by decide +kernel
theorem dX5_takesBread_6 : decode cX5_takesBread 6 = .ok (.getfield 156, 3) := by decide +kernel
theorem dX5_takesBread_9 : decode cX5_takesBread 9 = .ok (.imul, 1) := by decide +kernel
theorem dX5_takesBread_10 : decode cX5_takesBread 10 = .ok (.iconst 1, 1) := by decide +kernel
theorem dX5_takesBread_11 : decode cX5_takesBread 11 = .ok (.iadd, 1) := by decide +kernel
theorem dX5_takesBread_12 : decode cX5_takesBread 12 = .ok (.iload_n 1, 1) := by decide +kernel
theorem dX5_takesBread_13 : decode cX5_takesBread 13 = .ok (.bipush 48, 2) := by decide +kernel
theorem dX5_takesBread_15 : decode cX5_takesBread 15 = .ok (.isub, 1) := by decide +kernel
theorem dX5_takesBread_16 : decode cX5_takesBread 16 = .ok (.iastore, 1) := by decide +kernel
theorem dX5_takesBread_17 : decode cX5_takesBread 17 = .ok (.aload_n 0, 1) := by decide +kernel
theorem dX5_takesBread_18 : decode cX5_takesBread 18 = .ok (.iload_n 2, 1) := by decide +kernel
theorem dX5_takesBread_19 : decode cX5_takesBread 19 = .ok (.putfield 162, 3) := by decide +kernel
theorem dX5_takesBread_22 : decode cX5_takesBread 22 = .ok (.iload_n 1, 1) := by decide +kernel
theorem dX5_takesBread_23 : decode cX5_takesBread 23 = .ok (.bipush 48, 2) := by decide +kernel
theorem dX5_takesBread_25 : decode cX5_takesBread 25 = .ok (.bipush 55, 2) := by decide +kernel
theorem dX5_takesBread_27 : decode cX5_takesBread 27 = .ok (.invokestatic 35, 3) := by decide +kernel
theorem dX5_takesBread_30 : decode cX5_takesBread 30 = .ok (.ireturn, 1) := by decide +kernel
set_option maxRecDepth 20000 in
theorem ggX5_takesDigit_X5_within : GoodIn wsX5_takesDigit wsX5_within := goodIn_r _ [8] (by decide +kernel) (by decide +kernel)
set_option maxRecDepth 20000 in
theorem gX5_takesDigit_X5_within : GoodIn wsX5_takesDigit (va_wsS RX5 35 yX5_within wsX5_within) := goodIn_app (goodIn_of _ (by decide +kernel)) ggX5_takesDigit_X5_within
theorem dX5_takesDigit_0 : decode cX5_takesDigit 0 = .ok (.aload_n 0, 1) := by decide +kernel
theorem dX5_takesDigit_1 : decode cX5_takesDigit 1 = .ok (.getfield 22, 3) := by decide +kernel
theorem dX5_takesDigit_4 : decode cX5_takesDigit 4 = .ok (.iconst 3, 1) := by decide +kernel
theorem dX5_takesDigit_5 : decode cX5_takesDigit 5 = .ok (.aload_n 0, 1) := by decide +kernel
theorem dX5_takesDigit_6 : decode cX5_takesDigit 6 = .ok (.getfield 156, 3) := by decide +kernel
theorem dX5_takesDigit_9 : decode cX5_takesDigit 9 = .ok (.imul, 1) := by decide +kernel
theorem dX5_takesDigit_10 : decode cX5_takesDigit 10 = .ok (.iaload, 1) := by decide +kernel
theorem dX5_takesDigit_11 : decode cX5_takesDigit 11 = .ok (.bipush 100, 2) := by decide +kernel
theorem dX5_takesDigit_13 : decode cX5_takesDigit 13 = .ok (.if_icmp .ne 7, 3) := by decide +kernel
theorem dX5_takesDigit_16 : decode cX5_takesDigit 16 = .ok (.iconst 1, 1) := by decide +kernel
theorem dX5_takesDigit_17 : decode cX5_takesDigit 17 = .ok (.goto 4, 3) := by decide +kernel
theorem dX5_takesDigit_20 : decode cX5_takesDigit 20 = .ok (.iconst 0, 1) := by decide +kernel
theorem dX5_takesDigit_21 : decode cX5_takesDigit 21 = .ok (.istore_n 2, 1) := by decide +kernel
theorem dX5_takesDigit_22 : decode cX5_takesDigit 22 = .ok (.aload_n 0, 1) := by decide +kernel
theorem dX5_takesDigit_23 : decode cX5_takesDigit 23 = .ok (.getfield 162, 3) := by decide +kernel
theorem dX5_takesDigit_26 : decode cX5_takesDigit 26 = .ok (.iconst 4, 1) := by decide +kernel
theorem dX5_takesDigit_27 : decode cX5_takesDigit 27 = .ok (.if_icmp .ne 9, 3) := by decide +kernel
theorem dX5_takesDigit_30 : decode cX5_takesDigit 30 = .ok (.sipush 149, 3) := by decide +kernel
theorem dX5_takesDigit_33 : decode cX5_takesDigit 33 = .ok (.goto 14, 3) := by decide +kernel
theorem dX5_takesDigit_36 : decode cX5_takesDigit 36 = .ok (.iload_n 2, 1) := by decide +kernel
theorem dX5_takesDigit_37 : decode cX5_takesDigit 37 = .ok (.ifCond .eq 8, 3) := by decide +kernel
theorem dX5_takesDigit_40 : decode cX5_takesDigit 40 = .ok (.bipush 50, 2) := by decide +kernel
theorem dX5_takesDigit_42 : decode cX5_takesDigit 42 = .ok (.goto 5, 3) := by decide +kernel
theorem dX5_takesDigit_45 : decode cX5_takesDigit 45 = .ok (.bipush 100, 2) := by decide +kernel
theorem dX5_takesDigit_47 : decode cX5_takesDigit 47 = .ok (.istore_n 3, 1) := by decide +kernel
theorem dX5_takesDigit_48 : decode cX5_takesDigit 48 = .ok (.aload_n 0, 1) := by decide +kernel
theorem dX5_takesDigit_49 : decode cX5_takesDigit 49 = .ok (.getfield 159, 3) := by decide +kernel
theorem dX5_takesDigit_52 : decode cX5_takesDigit 52 = .ok (.iconst (-1), 1) := by decide +kernel
theorem dX5_takesDigit_53 : decode cX5_takesDigit 53 = .ok (.if_icmp .ne 7, 3) := by decide +kernel
theorem dX5_takesDigit_56 : decode cX5_takesDigit 56 = .ok (.iload_n 1, 1) := by decide +kernel
theorem dX5_takesDigit_57 : decode cX5_takesDigit 57 = .ok (.goto 12, 3) := by decide +kernel
theorem dX5_takesDigit_60 : decode cX5_takesDigit 60 = .ok (.bipush 10, 2) := by decide +kernel
theorem dX5_takesDigit_62 : decode cX5_takesDigit 62 = .ok (.aload_n 0, 1) := by decide +kernel
theorem dX5_takesDigit_63 : decode cX5_takesDigit 63 = .ok (.getfield 159, 3) := by decide +kernel
theorem dX5_takesDigit_66 : decode cX5_takesDigit 66 = .ok (.imul, 1) := by decide +kernel
theorem dX5_takesDigit_67 : decode cX5_takesDigit 67 = .ok (.iload_n 1, 1) := by decide +kernel
theorem dX5_takesDigit_68 : decode cX5_takesDigit 68 = .ok (.iadd, 1) := by decide +kernel
theorem dX5_takesDigit_69 : decode cX5_takesDigit 69 = .ok (.istore 4, 2) := by decide +kernel
theorem dX5_takesDigit_71 : decode cX5_takesDigit 71 = .ok (.iload_n 1, 1) := by decide +kernel
theorem dX5_takesDigit_72 : decode cX5_takesDigit 72 = .ok (.iconst 0, 1) := by decide +kernel
theorem dX5_takesDigit_73 : decode cX5_takesDigit 73 = .ok (.bipush 9, 2) := by decide +kernel
theorem dX5_takesDigit_75 : decode cX5_takesDigit 75 = .ok (.invokestatic 35, 3) := by decide +kernel
theorem dX5_takesDigit_78 : decode cX5_takesDigit 78 = .ok (.ifCond .eq 32, 3) := by decide +kernel
theorem dX5_takesDigit_81 : decode cX5_takesDigit 81 = .ok (.aload_n 0, 1) := by decide +kernel
theorem dX5_takesDigit_82 : decode cX5_takesDigit 82 = .ok (.getfield 159, 3) := by decide +kernel
theorem dX5_takesDigit_85 : decode cX5_takesDigit 85 = .ok (.ifCond .eq 25, 3) := by decide +kernel
theorem dX5_takesDigit_88 : decode cX5_takesDigit 88 = .ok (.iload 4, 2) := by decide +kernel
theorem dX5_takesDigit_90 : decode cX5_takesDigit 90 = .ok (.iload_n 2, 1) := by decide +kernel
theorem dX5_takesDigit_91 : decode cX5_takesDigit 91 = .ok (.ifCond .eq 7, 3) := by decide +kernel
theorem dX5_takesDigit_94 : decode cX5_takesDigit 94 = .ok (.iconst 1, 1) := by decide +kernel
theorem dX5_takesDigit_95 : decode cX5_takesDigit 95 = .ok (.goto 4, 3) := by decide +kernel
theorem dX5_takesDigit_98 : decode cX5_takesDigit 98 = .ok (.iconst 0, 1) := by decide +kernel
theorem dX5_takesDigit_99 : decode cX5_takesDigit 99 = .ok (.iload_n 3, 1) := by decide +kernel
theorem dX5_takesDigit_100 : decode cX5_takesDigit 100 = .ok (.invokestatic 35, 3) := by decide +kernel
theorem dX5_takesDigit_103 : decode cX5_takesDigit 103 = .ok (.ifCond .eq 7, 3) := by decide +kernel
theorem dX5_takesDigit_106 : decode cX5_takesDigit 106 = .ok (.iconst 1, 1) := by decide +kernel
theorem dX5_takesDigit_107 : decode cX5_takesDigit 107 = .ok (.goto 4, 3) := by decide +kernel
theorem dX5_takesDigit_110 : decode cX5_takesDigit 110 = .ok (.iconst 0, 1) := by decide +kernel
theorem dX5_takesDigit_111 : decode cX5_takesDigit 111 = .ok (.istore 5, 2) := by decide +kernel
theorem dX5_takesDigit_113 : decode cX5_takesDigit 113 = .ok (.aload_n 0, 1) := by decide +kernel
theorem dX5_takesDigit_114 : decode cX5_takesDigit 114 = .ok (.iload 5, 2) := by decide +kernel
theorem dX5_takesDigit_116 : decode cX5_takesDigit 116 = .ok (.ifCond .eq 8, 3) := by decide +kernel
theorem dX5_takesDigit_119 : decode cX5_takesDigit 119 = .ok (.iload 4, 2) := by decide +kernel
theorem dX5_takesDigit_121 : decode cX5_takesDigit 121 = .ok (.goto 7, 3) := by decide +kernel
theorem dX5_takesDigit_124 : decode cX5_takesDigit 124 = .ok (.aload_n 0, 1) := by decide +kernel
theorem dX5_takesDigit_125 : decode cX5_takesDigit 125 = .ok (.getfield 159, 3) := by decide +kernel
theorem dX5_takesDigit_128 : decode cX5_takesDigit 128 = .ok (.putfield 159, 3) := by decide +kernel
theorem dX5_takesDigit_131 : decode cX5_takesDigit 131 = .ok (.aload_n 0, 1) := by decide +kernel
theorem dX5_takesDigit_132 : decode cX5_takesDigit 132 = .ok (.getfield 22, 3) := by decide +kernel
theorem dX5_takesDigit_135 : decode cX5_takesDigit 135 = .ok (.iconst 3, 1) := by decide +kernel
theorem dX5_takesDigit_136 : decode cX5_takesDigit 136 = .ok (.aload_n 0, 1) := by decide +kernel
theorem dX5_takesDigit_137 : decode cX5_takesDigit 137 = .ok (.getfield 156, 3) := by decide +kernel
theorem dX5_takesDigit_140 : decode cX5_takesDigit 140 = .ok (.imul, 1) := by decide +kernel
theorem dX5_takesDigit_141 : decode cX5_takesDigit 141 = .ok (.iconst 2, 1) := by decide +kernel
theorem dX5_takesDigit_142 : decode cX5_takesDigit 142 = .ok (.iadd, 1) := by decide +kernel
theorem dX5_takesDigit_143 : decode cX5_takesDigit 143 = .ok (.aload_n 0, 1) := by decide +kernel
theorem dX5_takesDigit_144 : decode cX5_takesDigit 144 = .ok (.getfield 159, 3) := by decide +kernel
theorem dX5_takesDigit_147 : decode cX5_takesDigit 147 = .ok (.iastore, 1) := by decide +kernel
theorem dX5_takesDigit_148 : decode cX5_takesDigit 148 = .ok (.iload 5, 2) := by decide +kernel
theorem dX5_takesDigit_150 : decode cX5_takesDigit 150 = .ok (.ireturn, 1) := by decide +kernel
theorem dX5_isEnded_0 : decode cX5_isEnded 0 = .ok (.aload_n 0, 1) := by decide +kernel
theorem dX5_isEnded_1 : decode cX5_isEnded 1 = .ok (.getfield 162, 3) := by decide +kernel
theorem dX5_isEnded_4 : decode cX5_isEnded 4 = .ok (.bipush 6, 2) := by decide +kernel
theorem dX5_isEnded_6 : decode cX5_isEnded 6 = .ok (.if_icmp .eq 19, 3) := by decide +kernel
theorem dX5_isEnded_9 : decode cX5_isEnded 9 = .ok (.aload_n 0, 1) := by decide +kernel
theorem dX5_isEnded_10 : decode cX5_isEnded 10 = .ok (.getfield 162, 3) := by decide +kernel
theorem dX5_isEnded_13 : decode cX5_isEnded 13 = .ok (.iconst 3, 1) := by decide +kernel
theorem dX5_isEnded_14 : decode cX5_isEnded 14 = .ok (.if_icmp .ne 15, 3) := by decide +kernel
theorem dX5_isEnded_17 : decode cX5_isEnded 17 = .ok (.aload_n 0, 1) := by decide +kernel
theorem dX5_isEnded_18 : decode cX5_isEnded 18 = .ok (.getfield 159, 3) := by decide +kernel
theorem dX5_isEnded_21 : decode cX5_isEnded 21 = .ok (.iconst (-1), 1) := by decide +kernel
theorem dX5_isEnded_22 : decode cX5_isEnded 22 = .ok (.if_icmp .eq 7, 3) := by decide +kernel
theorem dX5_isEnded_25 : decode cX5_isEnded 25 = .ok (.iconst 1, 1) := by decide +kernel
theorem dX5_isEnded_26 : decode cX5_isEnded 26 = .ok (.goto 4, 3) := by decide +kernel
theorem dX5_isEnded_29 : decode cX5_isEnded 29 = .ok (.iconst 0, 1) := by decide +kernel
theorem dX5_isEnded_30 : decode cX5_isEnded 30 = .ok (.ireturn, 1) := by decide +kernel
set_option maxRecDepth 20000 in
theorem ggX5_takes_X5_isEnded : GoodIn wsX5_takes wsX5_isEnded := goodIn_r _ [8, 2, 3, 25, 26, 27, 28, 29, 30, 31, 32, 33, 34, 35, 36, 37] (by decide +kernel) (by decide +kernel)
set_option maxRecDepth 20000 in
theorem gX5_takes_X5_isEnded : GoodIn wsX5_takes (wsV RX5 165 RX5 yX5_isEnded wsX5_isEnded) := goodIn_app (goodIn_of _ (by decide +kernel)) ggX5_takes_X5_isEnded
set_option maxRecDepth 20000 in
theorem ggX5_takes_X5_begins : GoodIn wsX5_takes wsX5_begins := goodIn_r _ [12, 13, 1, 3, 2, 25, 26, 27, 28, 29, 30, 31, 32, 33, 34, 35, 36, 37] (by decide +kernel) (by decide +kernel)
set_option maxRecDepth 20000 in
theorem gX5_takes_X5_begins : GoodIn wsX5_takes (wsV RX5 169 RX5 yX5_begins wsX5_begins) := goodIn_app (goodIn_of _ (by decide +kernel)) ggX5_takes_X5_begins
set_option maxRecDepth 20000 in
theorem ggX5_takes_X5_takesBread : GoodIn wsX5_takes wsX5_takesBread := goodIn_r _ [17, 13, 1, 2, 18, 19, 7, 20, 25, 26, 27, 28, 29, 30, 31, 32, 33, 34, 35, 36, 37] (by decide +kernel) (by decide +kernel)
set_option maxRecDepth 20000 in
theorem gX5_takes_X5_takesBread : GoodIn wsX5_takes (wsV RX5 172 RX5 yX5_takesBread wsX5_takesBread) := goodIn_app (goodIn_of _ (by decide +kernel)) ggX5_takes_X5_takesBread
set_option maxRecDepth 20000 in
theorem ggX5_takes_X5_takesDigit : GoodIn wsX5_takes wsX5_takesDigit := goodIn_r _ [24, 13, 1, 2, 3, 18, 19, 7, 20, 25, 26, 27, 28, 29, 30, 31, 32, 33, 34, 35, 36, 37] (by decide +kernel) (by decide +kernel)
set_option maxRecDepth 20000 in
theorem gX5_takes_X5_takesDigit : GoodIn wsX5_takes (wsV RX5 175 RX5 yX5_takesDigit wsX5_takesDigit) := goodIn_app (goodIn_of _ (by decide +kernel)) ggX5_takes_X5_takesDigit
theorem dX5_takes_0 : decode cX5_takes 0 = .ok (.iload_n 1, 1) := by decide +kernel
theorem dX5_takes_1 : decode cX5_takes 1 = .ok (.bipush 59, 2) := by decide +kernel
theorem dX5_takes_3 : decode cX5_takes 3 = .ok (.if_icmp .ne 27, 3) := by decide +kernel
theorem dX5_takes_6 : decode cX5_takes 6 = .ok (.aload_n 0, 1) := by decide +kernel
theorem dX5_takes_7 : decode cX5_takes 7 = .ok (.invokevirtual 165, 3) := by decide +kernel
theorem dX5_takes_10 : decode cX5_takes 10 = .ok (.ifCond .eq 20, 3) := by decide +kernel
theorem dX5_takes_13 : decode cX5_takes 13 = .ok (.aload_n 0, 1) := by decide +kernel
theorem dX5_takes_14 : decode cX5_takes 14 = .ok (.dup, 1) := by decide +kernel
theorem dX5_takes_15 : decode cX5_takes 15 = .ok (.getfield 156, 3) := by decide +kernel
theorem dX5_takes_18 : decode cX5_takes 18 = .ok (.iconst 1, 1) := by decide +kernel
theorem dX5_takes_19 : decode cX5_takes 19 = .ok (.iadd, 1) := by decide +kernel
theorem dX5_takes_20 : decode cX5_takes 20 = .ok (.putfield 156, 3) := by decide +kernel
theorem dX5_takes_23 : decode cX5_takes 23 = .ok (.aload_n 0, 1) := by decide +kernel
theorem dX5_takes_24 : decode cX5_takes 24 = .ok (.iconst 0, 1) := by decide +kernel
theorem dX5_takes_25 : decode cX5_takes 25 = .ok (.putfield 162, 3) := by decide +kernel
theorem dX5_takes_28 : decode cX5_takes 28 = .ok (.iconst 1, 1) := by decide +kernel
theorem dX5_takes_29 : decode cX5_takes 29 = .ok (.ireturn, 1) := by decide +kernel
theorem dX5_takes_30 : decode cX5_takes 30 = .ok (.aload_n 0, 1) := by decide +kernel
theorem dX5_takes_31 : decode cX5_takes 31 = .ok (.getfield 162, 3) := by decide +kernel
theorem dX5_takes_34 : decode cX5_takes 34 = .ok (.tableswitch 91 0 6 #[42, 48, 55, 72, 91, 81, 89], 42) := by decide +kernel
theorem dX5_takes_76 : decode cX5_takes 76 = .ok (.aload_n 0, 1) := by decide +kernel
theorem dX5_takes_77 : decode cX5_takes 77 = .ok (.iload_n 1, 1) := by decide +kernel
theorem dX5_takes_78 : decode cX5_takes 78 = .ok (.invokevirtual 169, 3) := by decide +kernel
theorem dX5_takes_81 : decode cX5_takes 81 = .ok (.ireturn, 1) := by decide +kernel
theorem dX5_takes_82 : decode cX5_takes 82 = .ok (.aload_n 0, 1) := by decide +kernel
theorem dX5_takes_83 : decode cX5_takes 83 = .ok (.iload_n 1, 1) := by decide +kernel
theorem dX5_takes_84 : decode cX5_takes 84 = .ok (.iconst 2, 1) := by decide +kernel
theorem dX5_takes_85 : decode cX5_takes 85 = .ok (.invokevirtual 172, 3) := by decide +kernel
theorem dX5_takes_88 : decode cX5_takes 88 = .ok (.ireturn, 1) := by decide +kernel
theorem dX5_takes_89 : decode cX5_takes 89 = .ok (.aload_n 0, 1) := by decide +kernel
theorem dX5_takes_90 : decode cX5_takes 90 = .ok (.iconst 3, 1) := by decide +kernel
theorem dX5_takes_91 : decode cX5_takes 91 = .ok (.putfield 162, 3) := by decide +kernel
theorem dX5_takes_94 : decode cX5_takes 94 = .ok (.iload_n 1, 1) := by decide +kernel
theorem dX5_takes_95 : decode cX5_takes 95 = .ok (.bipush 61, 2) := by decide +kernel
theorem dX5_takes_97 : decode cX5_takes 97 = .ok (.if_icmp .ne 7, 3) := by decide +kernel
theorem dX5_takes_100 : decode cX5_takes 100 = .ok (.iconst 1, 1) := by decide +kernel
theorem dX5_takes_101 : decode cX5_takes 101 = .ok (.goto 4, 3) := by decide +kernel
theorem dX5_takes_104 : decode cX5_takes 104 = .ok (.iconst 0, 1) := by decide +kernel
theorem dX5_takes_105 : decode cX5_takes 105 = .ok (.ireturn, 1) := by decide +kernel
theorem dX5_takes_106 : decode cX5_takes 106 = .ok (.aload_n 0, 1) := by decide +kernel
theorem dX5_takes_107 : decode cX5_takes 107 = .ok (.iload_n 1, 1) := by decide +kernel
theorem dX5_takes_108 : decode cX5_takes 108 = .ok (.bipush 48, 2) := by decide +kernel
theorem dX5_takes_110 : decode cX5_takes 110 = .ok (.isub, 1) := by decide +kernel
theorem dX5_takes_111 : decode cX5_takes 111 = .ok (.invokevirtual 175, 3) := by decide +kernel
theorem dX5_takes_114 : decode cX5_takes 114 = .ok (.ireturn, 1) := by decide +kernel
theorem dX5_takes_115 : decode cX5_takes 115 = .ok (.aload_n 0, 1) := by decide +kernel
theorem dX5_takes_116 : decode cX5_takes 116 = .ok (.iload_n 1, 1) := by decide +kernel
theorem dX5_takes_117 : decode cX5_takes 117 = .ok (.bipush 6, 2) := by decide +kernel
theorem dX5_takes_119 : decode cX5_takes 119 = .ok (.invokevirtual 172, 3) := by decide +kernel
theorem dX5_takes_122 : decode cX5_takes 122 = .ok (.ireturn, 1) := by decide +kernel
theorem dX5_takes_123 : decode cX5_takes 123 = .ok (.iconst 0, 1) := by decide +kernel
theorem dX5_takes_124 : decode cX5_takes 124 = .ok (.ireturn, 1) := by decide +kernel
theorem dX5_takes_125 : decode cX5_takes 125 = .ok (.iload_n 1, 1) := by decide +kernel
theorem dX5_takes_126 : decode cX5_takes 126 = .ok (.bipush 64, 2) := by decide +kernel
theorem dX5_takes_128 : decode cX5_takes 128 = .ok (.if_icmp .ne 18, 3) := by decide +kernel
theorem dX5_takes_131 : decode cX5_takes 131 = .ok (.aload_n 0, 1) := by decide +kernel
theorem dX5_takes_132 : decode cX5_takes 132 = .ok (.getfield 159, 3) := by decide +kernel
theorem dX5_takes_135 : decode cX5_takes 135 = .ok (.iconst (-1), 1) := by decide +kernel
theorem dX5_takes_136 : decode cX5_takes 136 = .ok (.if_icmp .eq 10, 3) := by decide +kernel
theorem dX5_takes_139 : decode cX5_takes 139 = .ok (.aload_n 0, 1) := by decide +kernel
theorem dX5_takes_140 : decode cX5_takes 140 = .ok (.iconst 5, 1) := by decide +kernel
theorem dX5_takes_141 : decode cX5_takes 141 = .ok (.putfield 162, 3) := by decide +kernel
theorem dX5_takes_144 : decode cX5_takes 144 = .ok (.iconst 1, 1) := by decide +kernel
theorem dX5_takes_145 : decode cX5_takes 145 = .ok (.ireturn, 1) := by decide +kernel
theorem dX5_takes_146 : decode cX5_takes 146 = .ok (.aload_n 0, 1) := by decide +kernel
theorem dX5_takes_147 : decode cX5_takes 147 = .ok (.iload_n 1, 1) := by decide +kernel
theorem dX5_takes_148 : decode cX5_takes 148 = .ok (.bipush 48, 2) := by decide +kernel
theorem dX5_takes_150 : decode cX5_takes 150 = .ok (.isub, 1) := by decide +kernel
theorem dX5_takes_151 : decode cX5_takes 151 = .ok (.invokevirtual 175, 3) := by decide +kernel
theorem dX5_takes_154 : decode cX5_takes 154 = .ok (.ireturn, 1) := by decide +kernel
set_option maxRecDepth 20000 in
theorem ggX5_rightUpTo_X5_takes : GoodIn wsX5_rightUpTo wsX5_takes := goodIn_r _ [9, 1, 2, 10, 11, 12, 13, 8, 14, 15, 16, 17, 18, 19, 20, 21, 22, 23, 24, 25, 26, 27, 28, 29, 30, 31, 32, 33, 34, 35, 36, 37, 38, 39, 40, 41, 42, 43] (by decide +kernel) (by decide +kernel)
set_option maxRecDepth 20000 in
theorem gX5_rightUpTo_X5_takes : GoodIn wsX5_rightUpTo (wsV RX5 178 RX5 yX5_takes wsX5_takes) := goodIn_app (goodIn_of _ (by decide +kernel)) ggX5_rightUpTo_X5_takes
theorem dX5_rightUpTo_0 : decode cX5_rightUpTo 0 = .ok (.aload_n 0, 1) := by decide +kernel
theorem dX5_rightUpTo_1 : decode cX5_rightUpTo 1 = .ok (.iconst 0, 1) := by decide +kernel
theorem dX5_rightUpTo_2 : decode cX5_rightUpTo 2 = .ok (.putfield 156, 3) := by decide +kernel
theorem dX5_rightUpTo_5 : decode cX5_rightUpTo 5 = .ok (.aload_n 0, 1) := by decide +kernel
theorem dX5_rightUpTo_6 : decode cX5_rightUpTo 6 = .ok (.iconst 0, 1) := by decide +kernel
theorem dX5_rightUpTo_7 : decode cX5_rightUpTo 7 = .ok (.putfield 162, 3) := by decide +kernel
theorem dX5_rightUpTo_10 : decode cX5_rightUpTo 10 = .ok (.iconst 0, 1) := by decide +kernel
theorem dX5_rightUpTo_11 : decode cX5_rightUpTo 11 = .ok (.istore_n 1, 1) := by decide +kernel
theorem dX5_rightUpTo_12 : decode cX5_rightUpTo 12 = .ok (.iload_n 1, 1) := by decide +kernel
theorem dX5_rightUpTo_13 : decode cX5_rightUpTo 13 = .ok (.aload_n 0, 1) := by decide +kernel
theorem dX5_rightUpTo_14 : decode cX5_rightUpTo 14 = .ok (.getfield 153, 3) := by decide +kernel
theorem dX5_rightUpTo_17 : decode cX5_rightUpTo 17 = .ok (.if_icmp .ge 22, 3) := by decide +kernel
theorem dX5_rightUpTo_20 : decode cX5_rightUpTo 20 = .ok (.aload_n 0, 1) := by decide +kernel
theorem dX5_rightUpTo_21 : decode cX5_rightUpTo 21 = .ok (.aload_n 0, 1) := by decide +kernel
theorem dX5_rightUpTo_22 : decode cX5_rightUpTo 22 = .ok (.getfield 16, 3) := by decide +kernel
theorem dX5_rightUpTo_25 : decode cX5_rightUpTo 25 = .ok (.iload_n 1, 1) := by decide +kernel
theorem dX5_rightUpTo_26 : decode cX5_rightUpTo 26 = .ok (.iaload, 1) := by decide +kernel
theorem dX5_rightUpTo_27 : decode cX5_rightUpTo 27 = .ok (.invokevirtual 178, 3) := by decide +kernel
theorem dX5_rightUpTo_30 : decode cX5_rightUpTo 30 = .ok (.ifCond .eq 9, 3) := by decide +kernel
theorem dX5_rightUpTo_33 : decode cX5_rightUpTo 33 = .ok (.iinc 1 1, 3) := by decide +kernel
theorem dX5_rightUpTo_36 : decode cX5_rightUpTo 36 = .ok (.goto (-24), 3) := by decide +kernel
theorem dX5_rightUpTo_39 : decode cX5_rightUpTo 39 = .ok (.iload_n 1, 1) := by decide +kernel
theorem dX5_rightUpTo_40 : decode cX5_rightUpTo 40 = .ok (.ireturn, 1) := by decide +kernel
set_option maxRecDepth 20000 in
theorem ggX5_firstError_X5_rightUpTo : GoodIn wsX5_firstError wsX5_rightUpTo := goodIn_r _ [6, 7, 8, 9, 10, 11, 12, 13, 5, 14, 15, 16, 17, 18, 19, 20, 21, 22, 23, 24, 25, 26, 27, 28, 29, 30, 31, 32, 33, 34, 35, 36, 37, 38, 39, 40, 41, 42, 43, 44, 45, 46, 47, 48] (by decide +kernel) (by decide +kernel)
set_option maxRecDepth 20000 in
theorem gX5_firstError_X5_rightUpTo : GoodIn wsX5_firstError (wsV RX5 181 RX5 yX5_rightUpTo wsX5_rightUpTo) := goodIn_app (goodIn_of _ (by decide +kernel)) ggX5_firstError_X5_rightUpTo
theorem dX5_firstError_0 : decode cX5_firstError 0 = .ok (.aload_n 0, 1) := by decide +kernel
theorem dX5_firstError_1 : decode cX5_firstError 1 = .ok (.iconst 0, 1) := by decide +kernel
theorem dX5_firstError_2 : decode cX5_firstError 2 = .ok (.putfield 28, 3) := by decide +kernel
theorem dX5_firstError_5 : decode cX5_firstError 5 = .ok (.aload_n 0, 1) := by decide +kernel
theorem dX5_firstError_6 : decode cX5_firstError 6 = .ok (.invokevirtual 181, 3) := by decide +kernel
theorem dX5_firstError_9 : decode cX5_firstError 9 = .ok (.ireturn, 1) := by decide +kernel
set_option maxRecDepth 20000 in
theorem ggX5_carries_X5_passes : GoodIn wsX5_carries wsX5_passes := goodIn_r _ [6, 7, 8, 9, 5, 10, 11, 12, 13, 14, 15, 16, 17, 18, 19, 20, 21, 22, 23, 24, 25, 26, 27, 28, 29, 30, 31, 32, 33, 34, 35, 36, 37, 38, 39, 40, 41, 42, 43, 44, 45, 46, 47, 48, 49, 50, 51, 95, 96, 97, 98, 99, 100, 101, 102, 103, 104, 105, 106, 107] (by decide +kernel) (by decide +kernel)
set_option maxRecDepth 20000 in
theorem gX5_carries_X5_passes : GoodIn wsX5_carries (wsV RX5 150 RX5 yX5_passes wsX5_passes) := goodIn_app (goodIn_of _ (by decide +kernel)) ggX5_carries_X5_passes
set_option maxRecDepth 20000 in
theorem ggX5_carries_X5_isBread : GoodIn wsX5_carries wsX5_isBread := goodIn_r _ [55, 11, 56, 57, 5, 58, 95, 96, 97, 98, 99, 100, 101, 102, 103, 104, 105, 106, 107] (by decide +kernel) (by decide +kernel)
set_option maxRecDepth 20000 in
theorem gX5_carries_X5_isBread : GoodIn wsX5_carries (wsV RX5 96 RX5 yX5_isBread wsX5_isBread) := goodIn_app (goodIn_of _ (by decide +kernel)) ggX5_carries_X5_isBread
set_option maxRecDepth 20000 in
theorem ggX5_carries_X5_canRaise : GoodIn wsX5_carries wsX5_canRaise := goodIn_r _ [62, 16, 17, 18, 5, 19, 20, 21, 22, 23, 11, 63, 64, 65, 66, 32, 33, 34, 35, 67, 68, 69, 70, 95, 96, 97, 98, 99, 100, 101, 102, 103, 104, 105, 106, 107] (by decide +kernel) (by decide +kernel)
set_option maxRecDepth 20000 in
theorem gX5_carries_X5_canRaise : GoodIn wsX5_carries (wsV RX5 111 RX5 yX5_canRaise wsX5_canRaise) := goodIn_app (goodIn_of _ (by decide +kernel)) ggX5_carries_X5_canRaise
set_option maxRecDepth 20000 in
theorem ggX5_carries_X5_canLower : GoodIn wsX5_carries wsX5_canLower := goodIn_r _ [74, 16, 17, 18, 5, 19, 20, 21, 22, 23, 11, 95, 96, 97, 98, 99, 100, 101, 102, 103, 104, 105, 106, 107] (by decide +kernel) (by decide +kernel)
set_option maxRecDepth 20000 in
theorem gX5_carries_X5_canLower : GoodIn wsX5_carries (wsV RX5 117 RX5 yX5_canLower wsX5_canLower) := goodIn_app (goodIn_of _ (by decide +kernel)) ggX5_carries_X5_canLower
set_option maxRecDepth 20000 in
theorem ggX5_carries_X5_isOpen : GoodIn wsX5_carries wsX5_isOpen := goodIn_r _ [19, 20, 21, 22, 5, 23, 11, 95, 96, 97, 98, 99, 100, 101, 102, 103, 104, 105, 106, 107] (by decide +kernel) (by decide +kernel)
set_option maxRecDepth 20000 in
theorem gX5_carries_X5_isOpen : GoodIn wsX5_carries (wsV RX5 67 RX5 yX5_isOpen wsX5_isOpen) := goodIn_app (goodIn_of _ (by decide +kernel)) ggX5_carries_X5_isOpen
set_option maxRecDepth 20000 in
theorem ggX5_carries_X5_ends : GoodIn wsX5_carries wsX5_ends := goodIn_r _ [78, 79, 80, 81, 5, 82, 20, 21, 22, 23, 11, 32, 33, 34, 35, 83, 84, 85, 86, 87, 88, 89, 90, 48, 49, 50, 51, 95, 96, 97, 98, 99, 100, 101, 102, 103, 104, 105, 106, 107] (by decide +kernel) (by decide +kernel)
set_option maxRecDepth 20000 in
theorem gX5_carries_X5_ends : GoodIn wsX5_carries (wsV RX5 99 RX5 yX5_ends wsX5_ends) := goodIn_app (goodIn_of _ (by decide +kernel)) ggX5_carries_X5_ends
set_option maxRecDepth 20000 in
theorem ggX5_carries_X5_setShare : GoodIn wsX5_carries wsX5_setShare := goodIn_r _ [82, 20, 21, 22, 5, 23, 11, 32, 33, 34, 35, 83, 84, 85, 86, 87, 88, 89, 90, 48, 49, 50, 51, 95, 96, 97, 98, 99, 100, 101, 102, 103, 104, 105, 106, 107] (by decide +kernel) (by decide +kernel)
set_option maxRecDepth 20000 in
theorem gX5_carries_X5_setShare : GoodIn wsX5_carries (wsV RX5 92 RX5 yX5_setShare wsX5_setShare) := goodIn_app (goodIn_of _ (by decide +kernel)) ggX5_carries_X5_setShare
set_option maxRecDepth 20000 in
theorem ggX5_carries_X5_holds : GoodIn wsX5_carries wsX5_holds := goodIn_r _ [94, 11, 95, 96, 97, 98, 99, 100, 101, 102, 103, 104, 105, 106, 107] (by decide +kernel) (by decide +kernel)
set_option maxRecDepth 20000 in
theorem gX5_carries_X5_holds : GoodIn wsX5_carries (wsV RX5 132 RX5 yX5_holds wsX5_holds) := goodIn_app (goodIn_of _ (by decide +kernel)) ggX5_carries_X5_holds
theorem dX5_carries_0 : decode cX5_carries 0 = .ok (.aload_n 0, 1) := by decide +kernel
theorem dX5_carries_1 : decode cX5_carries 1 = .ok (.getfield 22, 3) := by decide +kernel
theorem dX5_carries_4 : decode cX5_carries 4 = .ok (.iconst 3, 1) := by decide +kernel
theorem dX5_carries_5 : decode cX5_carries 5 = .ok (.iload_n 1, 1) := by decide +kernel
theorem dX5_carries_6 : decode cX5_carries 6 = .ok (.imul, 1) := by decide +kernel
theorem dX5_carries_7 : decode cX5_carries 7 = .ok (.iaload, 1) := by decide +kernel
theorem dX5_carries_8 : decode cX5_carries 8 = .ok (.istore_n 2, 1) := by decide +kernel
theorem dX5_carries_9 : decode cX5_carries 9 = .ok (.aload_n 0, 1) := by decide +kernel
theorem dX5_carries_10 : decode cX5_carries 10 = .ok (.getfield 22, 3) := by decide +kernel
theorem dX5_carries_13 : decode cX5_carries 13 = .ok (.iconst 3, 1) := by decide +kernel
theorem dX5_carries_14 : decode cX5_carries 14 = .ok (.iload_n 1, 1) := by decide +kernel
theorem dX5_carries_15 : decode cX5_carries 15 = .ok (.imul, 1) := by decide +kernel
theorem dX5_carries_16 : decode cX5_carries 16 = .ok (.iconst 1, 1) := by decide +kernel
theorem dX5_carries_17 : decode cX5_carries 17 = .ok (.iadd, 1) := by decide +kernel
theorem dX5_carries_18 : decode cX5_carries 18 = .ok (.iaload, 1) := by decide +kernel
theorem dX5_carries_19 : decode cX5_carries 19 = .ok (.istore_n 3, 1) := by decide +kernel
theorem dX5_carries_20 : decode cX5_carries 20 = .ok (.aload_n 0, 1) := by decide +kernel
theorem dX5_carries_21 : decode cX5_carries 21 = .ok (.getfield 22, 3) := by decide +kernel
theorem dX5_carries_24 : decode cX5_carries 24 = .ok (.iconst 3, 1) := by decide +kernel
theorem dX5_carries_25 : decode cX5_carries 25 = .ok (.iload_n 1, 1) := by decide +kernel
theorem dX5_carries_26 : decode cX5_carries 26 = .ok (.imul, 1) := by decide +kernel
theorem dX5_carries_27 : decode cX5_carries 27 = .ok (.iconst 2, 1) := by decide +kernel
theorem dX5_carries_28 : decode cX5_carries 28 = .ok (.iadd, 1) := by decide +kernel
theorem dX5_carries_29 : decode cX5_carries 29 = .ok (.iaload, 1) := by decide +kernel
theorem dX5_carries_30 : decode cX5_carries 30 = .ok (.istore 4, 2) := by decide +kernel
theorem dX5_carries_32 : decode cX5_carries 32 = .ok (.iload_n 2, 1) := by decide +kernel
theorem dX5_carries_33 : decode cX5_carries 33 = .ok (.bipush 100, 2) := by decide +kernel
theorem dX5_carries_35 : decode cX5_carries 35 = .ok (.if_icmp .ne 13, 3) := by decide +kernel
theorem dX5_carries_38 : decode cX5_carries 38 = .ok (.aload_n 0, 1) := by decide +kernel
theorem dX5_carries_39 : decode cX5_carries 39 = .ok (.iload 4, 2) := by decide +kernel
theorem dX5_carries_41 : decode cX5_carries 41 = .ok (.invokevirtual 150, 3) := by decide +kernel
theorem dX5_carries_44 : decode cX5_carries 44 = .ok (.istore 5, 2) := by decide +kernel
theorem dX5_carries_46 : decode cX5_carries 46 = .ok (.iconst 1, 1) := by decide +kernel
theorem dX5_carries_47 : decode cX5_carries 47 = .ok (.ireturn, 1) := by decide +kernel
theorem dX5_carries_48 : decode cX5_carries 48 = .ok (.aload_n 0, 1) := by decide +kernel
theorem dX5_carries_49 : decode cX5_carries 49 = .ok (.iload_n 3, 1) := by decide +kernel
theorem dX5_carries_50 : decode cX5_carries 50 = .ok (.invokevirtual 96, 3) := by decide +kernel
theorem dX5_carries_53 : decode cX5_carries 53 = .ok (.ifCond .eq 53, 3) := by decide +kernel
theorem dX5_carries_56 : decode cX5_carries 56 = .ok (.iload_n 2, 1) := by decide +kernel
theorem dX5_carries_57 : decode cX5_carries 57 = .ok (.bipush 43, 2) := by decide +kernel
theorem dX5_carries_59 : decode cX5_carries 59 = .ok (.if_icmp .ne 16, 3) := by decide +kernel
theorem dX5_carries_62 : decode cX5_carries 62 = .ok (.aload_n 0, 1) := by decide +kernel
theorem dX5_carries_63 : decode cX5_carries 63 = .ok (.iload_n 3, 1) := by decide +kernel
theorem dX5_carries_64 : decode cX5_carries 64 = .ok (.iload 4, 2) := by decide +kernel
theorem dX5_carries_66 : decode cX5_carries 66 = .ok (.invokevirtual 111, 3) := by decide +kernel
theorem dX5_carries_69 : decode cX5_carries 69 = .ok (.ifCond .eq 37, 3) := by decide +kernel
theorem dX5_carries_72 : decode cX5_carries 72 = .ok (.goto 30, 3) := by decide +kernel
theorem dX5_carries_75 : decode cX5_carries 75 = .ok (.iload_n 2, 1) := by decide +kernel
theorem dX5_carries_76 : decode cX5_carries 76 = .ok (.bipush 45, 2) := by decide +kernel
theorem dX5_carries_78 : decode cX5_carries 78 = .ok (.if_icmp .ne 16, 3) := by decide +kernel
theorem dX5_carries_81 : decode cX5_carries 81 = .ok (.aload_n 0, 1) := by decide +kernel
theorem dX5_carries_82 : decode cX5_carries 82 = .ok (.iload_n 3, 1) := by decide +kernel
theorem dX5_carries_83 : decode cX5_carries 83 = .ok (.iload 4, 2) := by decide +kernel
theorem dX5_carries_85 : decode cX5_carries 85 = .ok (.invokevirtual 117, 3) := by decide +kernel
theorem dX5_carries_88 : decode cX5_carries 88 = .ok (.ifCond .eq 18, 3) := by decide +kernel
theorem dX5_carries_91 : decode cX5_carries 91 = .ok (.goto 11, 3) := by decide +kernel
theorem dX5_carries_94 : decode cX5_carries 94 = .ok (.aload_n 0, 1) := by decide +kernel
theorem dX5_carries_95 : decode cX5_carries 95 = .ok (.iload_n 3, 1) := by decide +kernel
theorem dX5_carries_96 : decode cX5_carries 96 = .ok (.invokevirtual 67, 3) := by decide +kernel
theorem dX5_carries_99 : decode cX5_carries 99 = .ok (.ifCond .eq 7, 3) := by decide +kernel
theorem dX5_carries_102 : decode cX5_carries 102 = .ok (.iconst 1, 1) := by decide +kernel
theorem dX5_carries_103 : decode cX5_carries 103 = .ok (.goto 4, 3) := by decide +kernel
theorem dX5_carries_106 : decode cX5_carries 106 = .ok (.iconst 0, 1) := by decide +kernel
theorem dX5_carries_107 : decode cX5_carries 107 = .ok (.istore 5, 2) := by decide +kernel
theorem dX5_carries_109 : decode cX5_carries 109 = .ok (.iload 5, 2) := by decide +kernel
theorem dX5_carries_111 : decode cX5_carries 111 = .ok (.ifCond .eq 17, 3) := by decide +kernel
theorem dX5_carries_114 : decode cX5_carries 114 = .ok (.iload_n 2, 1) := by decide +kernel
theorem dX5_carries_115 : decode cX5_carries 115 = .ok (.bipush 120, 2) := by decide +kernel
theorem dX5_carries_117 : decode cX5_carries 117 = .ok (.if_icmp .ne 11, 3) := by decide +kernel
theorem dX5_carries_120 : decode cX5_carries 120 = .ok (.aload_n 0, 1) := by decide +kernel
theorem dX5_carries_121 : decode cX5_carries 121 = .ok (.iload_n 3, 1) := by decide +kernel
theorem dX5_carries_122 : decode cX5_carries 122 = .ok (.invokevirtual 99, 3) := by decide +kernel
theorem dX5_carries_125 : decode cX5_carries 125 = .ok (.goto 64, 3) := by decide +kernel
theorem dX5_carries_128 : decode cX5_carries 128 = .ok (.iload 5, 2) := by decide +kernel
theorem dX5_carries_130 : decode cX5_carries 130 = .ok (.ifCond .eq 25, 3) := by decide +kernel
theorem dX5_carries_133 : decode cX5_carries 133 = .ok (.iload_n 2, 1) := by decide +kernel
theorem dX5_carries_134 : decode cX5_carries 134 = .ok (.bipush 43, 2) := by decide +kernel
theorem dX5_carries_136 : decode cX5_carries 136 = .ok (.if_icmp .eq 9, 3) := by decide +kernel
theorem dX5_carries_139 : decode cX5_carries 139 = .ok (.iload_n 2, 1) := by decide +kernel
theorem dX5_carries_140 : decode cX5_carries 140 = .ok (.bipush 45, 2) := by decide +kernel
theorem dX5_carries_142 : decode cX5_carries 142 = .ok (.if_icmp .ne 13, 3) := by decide +kernel
theorem dX5_carries_145 : decode cX5_carries 145 = .ok (.aload_n 0, 1) := by decide +kernel
theorem dX5_carries_146 : decode cX5_carries 146 = .ok (.iload_n 3, 1) := by decide +kernel
theorem dX5_carries_147 : decode cX5_carries 147 = .ok (.iload 4, 2) := by decide +kernel
theorem dX5_carries_149 : decode cX5_carries 149 = .ok (.invokevirtual 92, 3) := by decide +kernel
theorem dX5_carries_152 : decode cX5_carries 152 = .ok (.goto 37, 3) := by decide +kernel
theorem dX5_carries_155 : decode cX5_carries 155 = .ok (.iload 5, 2) := by decide +kernel
theorem dX5_carries_157 : decode cX5_carries 157 = .ok (.ifCond .eq 32, 3) := by decide +kernel
theorem dX5_carries_160 : decode cX5_carries 160 = .ok (.aload_n 0, 1) := by decide +kernel
theorem dX5_carries_161 : decode cX5_carries 161 = .ok (.iload 4, 2) := by decide +kernel
theorem dX5_carries_163 : decode cX5_carries 163 = .ok (.iload_n 3, 1) := by decide +kernel
theorem dX5_carries_164 : decode cX5_carries 164 = .ok (.iload_n 2, 1) := by decide +kernel
theorem dX5_carries_165 : decode cX5_carries 165 = .ok (.bipush 105, 2) := by decide +kernel
theorem dX5_carries_167 : decode cX5_carries 167 = .ok (.if_icmp .ne 7, 3) := by decide +kernel
theorem dX5_carries_170 : decode cX5_carries 170 = .ok (.iconst 1, 1) := by decide +kernel
theorem dX5_carries_171 : decode cX5_carries 171 = .ok (.goto 4, 3) := by decide +kernel
theorem dX5_carries_174 : decode cX5_carries 174 = .ok (.iconst 0, 1) := by decide +kernel
theorem dX5_carries_175 : decode cX5_carries 175 = .ok (.iload_n 2, 1) := by decide +kernel
theorem dX5_carries_176 : decode cX5_carries 176 = .ok (.bipush 105, 2) := by decide +kernel
theorem dX5_carries_178 : decode cX5_carries 178 = .ok (.if_icmp .ne 7, 3) := by decide +kernel
theorem dX5_carries_181 : decode cX5_carries 181 = .ok (.iconst 0, 1) := by decide +kernel
theorem dX5_carries_182 : decode cX5_carries 182 = .ok (.goto 4, 3) := by decide +kernel
theorem dX5_carries_185 : decode cX5_carries 185 = .ok (.iconst 1, 1) := by decide +kernel
theorem dX5_carries_186 : decode cX5_carries 186 = .ok (.invokevirtual 132, 3) := by decide +kernel
theorem dX5_carries_189 : decode cX5_carries 189 = .ok (.iload 5, 2) := by decide +kernel
theorem dX5_carries_191 : decode cX5_carries 191 = .ok (.ireturn, 1) := by decide +kernel
set_option maxRecDepth 20000 in
theorem ggX5_run_X5_rightUpTo : GoodIn wsX5_run wsX5_rightUpTo := goodIn_r _ [8, 3, 9, 1, 10, 11, 12, 13, 7, 14, 15, 16, 17, 18, 19, 20, 21, 22, 23, 24, 25, 26, 27, 28, 29, 30, 31, 32, 33, 34, 35, 135, 136, 137, 138, 139, 140, 141, 142, 143, 144, 145, 146, 147] (by decide +kernel) (by decide +kernel)
set_option maxRecDepth 20000 in
theorem gX5_run_X5_rightUpTo : GoodIn wsX5_run (wsV RX5 181 RX5 yX5_rightUpTo wsX5_rightUpTo) := goodIn_app (goodIn_of _ (by decide +kernel)) ggX5_run_X5_rightUpTo
set_option maxRecDepth 20000 in
theorem ggX5_run_X5_isEnded : GoodIn wsX5_run wsX5_isEnded := goodIn_r _ [19, 9, 15, 135, 136, 137, 138, 139, 140, 141, 142, 143, 144, 145, 146, 147] (by decide +kernel) (by decide +kernel)
set_option maxRecDepth 20000 in
theorem gX5_run_X5_isEnded : GoodIn wsX5_run (wsV RX5 165 RX5 yX5_isEnded wsX5_isEnded) := goodIn_app (goodIn_of _ (by decide +kernel)) ggX5_run_X5_isEnded
set_option maxRecDepth 20000 in
theorem ggX5_run_X5_save : GoodIn wsX5_run wsX5_save := goodIn_r _ [39, 40, 41, 42, 135, 136, 137, 138, 139, 140, 141, 142, 143, 144, 145, 146, 147] (by decide +kernel) (by decide +kernel)
set_option maxRecDepth 20000 in
theorem gX5_run_X5_save : GoodIn wsX5_run (wsV RX5 89 RX5 yX5_save wsX5_save) := goodIn_app (goodIn_of _ (by decide +kernel)) ggX5_run_X5_save
set_option maxRecDepth 20000 in
theorem ggX5_run_X5_carries : GoodIn wsX5_run wsX5_carries := goodIn_r _ [46, 24, 47, 48, 49, 7, 50, 51, 52, 53, 54, 42, 55, 56, 57, 58, 59, 60, 61, 62, 63, 64, 65, 66, 67, 68, 69, 70, 71, 72, 73, 74, 75, 76, 77, 78, 79, 80, 81, 82, 83, 84, 85, 86, 87, 88, 89, 90, 91, 92, 93, 94, 95, 96, 97, 98, 29, 30, 31, 99, 100, 101, 102, 103, 104, 105, 106, 107, 108, 109, 110, 111, 112, 113, 114, 115, 116, 117, 118, 119, 120, 121, 122, 123, 124, 125, 126, 127, 128, 129, 130, 131, 132, 133, 134, 135, 136, 137, 138, 139, 140, 141, 142, 143, 144, 145, 146, 147] (by decide +kernel) (by decide +kernel)
set_option maxRecDepth 20000 in
theorem gX5_run_X5_carries : GoodIn wsX5_run (wsV RX5 184 RX5 yX5_carries wsX5_carries) := goodIn_app (goodIn_of _ (by decide +kernel)) ggX5_run_X5_carries
theorem dX5_run_0 : decode cX5_run 0 = .ok (.aload_n 0, 1) := by decide +kernel
theorem dX5_run_1 : decode cX5_run 1 = .ok (.invokevirtual 181, 3) := by decide +kernel
theorem dX5_run_4 : decode cX5_run 4 = .ok (.aload_n 0, 1) := by decide +kernel
theorem dX5_run_5 : decode cX5_run 5 = .ok (.getfield 153, 3) := by decide +kernel
theorem dX5_run_8 : decode cX5_run 8 = .ok (.if_icmp .ne 14, 3) := by decide +kernel
theorem dX5_run_11 : decode cX5_run 11 = .ok (.aload_n 0, 1) := by decide +kernel
theorem dX5_run_12 : decode cX5_run 12 = .ok (.invokevirtual 165, 3) := by decide +kernel
theorem dX5_run_15 : decode cX5_run 15 = .ok (.ifCond .eq 7, 3) := by decide +kernel
theorem dX5_run_18 : decode cX5_run 18 = .ok (.iconst 1, 1) := by decide +kernel
theorem dX5_run_19 : decode cX5_run 19 = .ok (.goto 4, 3) := by decide +kernel
theorem dX5_run_22 : decode cX5_run 22 = .ok (.iconst 0, 1) := by decide +kernel
theorem dX5_run_23 : decode cX5_run 23 = .ok (.istore_n 1, 1) := by decide +kernel
theorem dX5_run_24 : decode cX5_run 24 = .ok (.aload_n 0, 1) := by decide +kernel
theorem dX5_run_25 : decode cX5_run 25 = .ok (.iload_n 1, 1) := by decide +kernel
theorem dX5_run_26 : decode cX5_run 26 = .ok (.ifCond .eq 7, 3) := by decide +kernel
theorem dX5_run_29 : decode cX5_run 29 = .ok (.iconst 0, 1) := by decide +kernel
theorem dX5_run_30 : decode cX5_run 30 = .ok (.goto 4, 3) := by decide +kernel
theorem dX5_run_33 : decode cX5_run 33 = .ok (.iconst 1, 1) := by decide +kernel
theorem dX5_run_34 : decode cX5_run 34 = .ok (.putfield 28, 3) := by decide +kernel
theorem dX5_run_37 : decode cX5_run 37 = .ok (.aload_n 0, 1) := by decide +kernel
theorem dX5_run_38 : decode cX5_run 38 = .ok (.getfield 28, 3) := by decide +kernel
theorem dX5_run_41 : decode cX5_run 41 = .ok (.ifCond .le 5, 3) := by decide +kernel
theorem dX5_run_44 : decode cX5_run 44 = .ok (.iconst 0, 1) := by decide +kernel
theorem dX5_run_45 : decode cX5_run 45 = .ok (.ireturn, 1) := by decide +kernel
theorem dX5_run_46 : decode cX5_run 46 = .ok (.aload_n 0, 1) := by decide +kernel
theorem dX5_run_47 : decode cX5_run 47 = .ok (.invokevirtual 89, 3) := by decide +kernel
theorem dX5_run_50 : decode cX5_run 50 = .ok (.aload_n 0, 1) := by decide +kernel
theorem dX5_run_51 : decode cX5_run 51 = .ok (.iconst 0, 1) := by decide +kernel
theorem dX5_run_52 : decode cX5_run 52 = .ok (.putfield 153, 3) := by decide +kernel
theorem dX5_run_55 : decode cX5_run 55 = .ok (.iconst 0, 1) := by decide +kernel
theorem dX5_run_56 : decode cX5_run 56 = .ok (.istore_n 2, 1) := by decide +kernel
theorem dX5_run_57 : decode cX5_run 57 = .ok (.iload_n 2, 1) := by decide +kernel
theorem dX5_run_58 : decode cX5_run 58 = .ok (.aload_n 0, 1) := by decide +kernel
theorem dX5_run_59 : decode cX5_run 59 = .ok (.getfield 156, 3) := by decide +kernel
theorem dX5_run_62 : decode cX5_run 62 = .ok (.if_icmp .gt 17, 3) := by decide +kernel
theorem dX5_run_65 : decode cX5_run 65 = .ok (.aload_n 0, 1) := by decide +kernel
theorem dX5_run_66 : decode cX5_run 66 = .ok (.iload_n 2, 1) := by decide +kernel
theorem dX5_run_67 : decode cX5_run 67 = .ok (.invokevirtual 184, 3) := by decide +kernel
theorem dX5_run_70 : decode cX5_run 70 = .ok (.ifCond .eq 9, 3) := by decide +kernel
theorem dX5_run_73 : decode cX5_run 73 = .ok (.iinc 2 1, 3) := by decide +kernel
theorem dX5_run_76 : decode cX5_run 76 = .ok (.goto (-19), 3) := by decide +kernel
theorem dX5_run_79 : decode cX5_run 79 = .ok (.iload_n 2, 1) := by decide +kernel
theorem dX5_run_80 : decode cX5_run 80 = .ok (.ireturn, 1) := by decide +kernel
theorem dX5_undo_0 : decode cX5_undo 0 = .ok (.aload_n 0, 1) := by decide +kernel
theorem dX5_undo_1 : decode cX5_undo 1 = .ok (.aload_n 0, 1) := by decide +kernel
theorem dX5_undo_2 : decode cX5_undo 2 = .ok (.getfield 32, 3) := by decide +kernel
theorem dX5_undo_5 : decode cX5_undo 5 = .ok (.ifCond .le 7, 3) := by decide +kernel
theorem dX5_undo_8 : decode cX5_undo 8 = .ok (.iconst 0, 1) := by decide +kernel
theorem dX5_undo_9 : decode cX5_undo 9 = .ok (.goto 4, 3) := by decide +kernel
theorem dX5_undo_12 : decode cX5_undo 12 = .ok (.iconst 1, 1) := by decide +kernel
theorem dX5_undo_13 : decode cX5_undo 13 = .ok (.putfield 28, 3) := by decide +kernel
theorem dX5_undo_16 : decode cX5_undo 16 = .ok (.aload_n 0, 1) := by decide +kernel
theorem dX5_undo_17 : decode cX5_undo 17 = .ok (.getfield 28, 3) := by decide +kernel
theorem dX5_undo_20 : decode cX5_undo 20 = .ok (.ifCond .le 5, 3) := by decide +kernel
theorem dX5_undo_23 : decode cX5_undo 23 = .ok (.iconst 0, 1) := by decide +kernel
theorem dX5_undo_24 : decode cX5_undo 24 = .ok (.ireturn, 1) := by decide +kernel
theorem dX5_undo_25 : decode cX5_undo 25 = .ok (.aload_n 0, 1) := by decide +kernel
theorem dX5_undo_26 : decode cX5_undo 26 = .ok (.dup, 1) := by decide +kernel
theorem dX5_undo_27 : decode cX5_undo 27 = .ok (.getfield 32, 3) := by decide +kernel
theorem dX5_undo_30 : decode cX5_undo 30 = .ok (.iconst 1, 1) := by decide +kernel
theorem dX5_undo_31 : decode cX5_undo 31 = .ok (.isub, 1) := by decide +kernel
theorem dX5_undo_32 : decode cX5_undo 32 = .ok (.putfield 32, 3) := by decide +kernel
theorem dX5_undo_35 : decode cX5_undo 35 = .ok (.iconst 0, 1) := by decide +kernel
theorem dX5_undo_36 : decode cX5_undo 36 = .ok (.istore_n 1, 1) := by decide +kernel
theorem dX5_undo_37 : decode cX5_undo 37 = .ok (.iload_n 1, 1) := by decide +kernel
theorem dX5_undo_38 : decode cX5_undo 38 = .ok (.sipush 954, 3) := by decide +kernel
theorem dX5_undo_41 : decode cX5_undo 41 = .ok (.if_icmp .ge 30, 3) := by decide +kernel
theorem dX5_undo_44 : decode cX5_undo 44 = .ok (.aload_n 0, 1) := by decide +kernel
theorem dX5_undo_45 : decode cX5_undo 45 = .ok (.getfield 7, 3) := by decide +kernel
theorem dX5_undo_48 : decode cX5_undo 48 = .ok (.iload_n 1, 1) := by decide +kernel
theorem dX5_undo_49 : decode cX5_undo 49 = .ok (.aload_n 0, 1) := by decide +kernel
theorem dX5_undo_50 : decode cX5_undo 50 = .ok (.getfield 13, 3) := by decide +kernel
theorem dX5_undo_53 : decode cX5_undo 53 = .ok (.sipush 954, 3) := by decide +kernel
theorem dX5_undo_56 : decode cX5_undo 56 = .ok (.aload_n 0, 1) := by decide +kernel
theorem dX5_undo_57 : decode cX5_undo 57 = .ok (.getfield 32, 3) := by decide +kernel
theorem dX5_undo_60 : decode cX5_undo 60 = .ok (.imul, 1) := by decide +kernel
theorem dX5_undo_61 : decode cX5_undo 61 = .ok (.iload_n 1, 1) := by decide +kernel
theorem dX5_undo_62 : decode cX5_undo 62 = .ok (.iadd, 1) := by decide +kernel
theorem dX5_undo_63 : decode cX5_undo 63 = .ok (.iaload, 1) := by decide +kernel
theorem dX5_undo_64 : decode cX5_undo 64 = .ok (.iastore, 1) := by decide +kernel
theorem dX5_undo_65 : decode cX5_undo 65 = .ok (.iinc 1 1, 3) := by decide +kernel
theorem dX5_undo_68 : decode cX5_undo 68 = .ok (.goto (-31), 3) := by decide +kernel
theorem dX5_undo_71 : decode cX5_undo 71 = .ok (.aload_n 0, 1) := by decide +kernel
theorem dX5_undo_72 : decode cX5_undo 72 = .ok (.getfield 32, 3) := by decide +kernel
theorem dX5_undo_75 : decode cX5_undo 75 = .ok (.ireturn, 1) := by decide +kernel
set_option maxRecDepth 20000 in
theorem ggX5_eats_X5_isPerson : GoodIn wsX5_eats wsX5_isPerson := goodIn_r _ [5, 6, 7, 4, 8] (by decide +kernel) (by decide +kernel)
set_option maxRecDepth 20000 in
theorem gX5_eats_X5_isPerson : GoodIn wsX5_eats (va_wsS RX5 136 yX5_isPerson wsX5_isPerson) := goodIn_app (goodIn_of _ (by decide +kernel)) ggX5_eats_X5_isPerson
set_option maxRecDepth 20000 in
theorem ggX5_eats_X5_isBread : GoodIn wsX5_eats wsX5_isBread := goodIn_r _ [12, 13, 6, 7, 4, 8, 50, 51, 52, 53, 54, 55, 56, 57, 58, 59, 60, 61, 62] (by decide +kernel) (by decide +kernel)
set_option maxRecDepth 20000 in
theorem gX5_eats_X5_isBread : GoodIn wsX5_eats (wsV RX5 96 RX5 yX5_isBread wsX5_isBread) := goodIn_app (goodIn_of _ (by decide +kernel)) ggX5_eats_X5_isBread
set_option maxRecDepth 20000 in
theorem ggX5_eats_X5_eatsNow : GoodIn wsX5_eats wsX5_eatsNow := goodIn_r _ [17, 18, 19, 20, 4, 21, 22, 23, 24, 25, 13, 26, 27, 28, 29, 30, 31, 32, 33, 34, 35, 36, 37, 38, 39, 40, 41, 42, 43, 44, 45, 46, 47, 48, 49, 50, 51, 52, 53, 54, 55, 56, 57, 58, 59, 60, 61, 62] (by decide +kernel) (by decide +kernel)
set_option maxRecDepth 20000 in
theorem gX5_eats_X5_eatsNow : GoodIn wsX5_eats (wsV RX5 83 RX5 yX5_eatsNow wsX5_eatsNow) := goodIn_app (goodIn_of _ (by decide +kernel)) ggX5_eats_X5_eatsNow
theorem dX5_eats_0 : decode cX5_eats 0 = .ok (.aload_n 0, 1) := by decide +kernel
theorem dX5_eats_1 : decode cX5_eats 1 = .ok (.iload_n 1, 1) := by decide +kernel
theorem dX5_eats_2 : decode cX5_eats 2 = .ok (.invokestatic 136, 3) := by decide +kernel
theorem dX5_eats_5 : decode cX5_eats 5 = .ok (.ifCond .eq 15, 3) := by decide +kernel
theorem dX5_eats_8 : decode cX5_eats 8 = .ok (.aload_n 0, 1) := by decide +kernel
theorem dX5_eats_9 : decode cX5_eats 9 = .ok (.iload_n 2, 1) := by decide +kernel
theorem dX5_eats_10 : decode cX5_eats 10 = .ok (.invokevirtual 96, 3) := by decide +kernel
theorem dX5_eats_13 : decode cX5_eats 13 = .ok (.ifCond .eq 7, 3) := by decide +kernel
theorem dX5_eats_16 : decode cX5_eats 16 = .ok (.iconst 0, 1) := by decide +kernel
theorem dX5_eats_17 : decode cX5_eats 17 = .ok (.goto 4, 3) := by decide +kernel
theorem dX5_eats_20 : decode cX5_eats 20 = .ok (.iconst 1, 1) := by decide +kernel
theorem dX5_eats_21 : decode cX5_eats 21 = .ok (.putfield 28, 3) := by decide +kernel
theorem dX5_eats_24 : decode cX5_eats 24 = .ok (.aload_n 0, 1) := by decide +kernel
theorem dX5_eats_25 : decode cX5_eats 25 = .ok (.getfield 28, 3) := by decide +kernel
theorem dX5_eats_28 : decode cX5_eats 28 = .ok (.ifCond .le 7, 3) := by decide +kernel
theorem dX5_eats_31 : decode cX5_eats 31 = .ok (.iconst 0, 1) := by decide +kernel
theorem dX5_eats_32 : decode cX5_eats 32 = .ok (.goto 9, 3) := by decide +kernel
theorem dX5_eats_35 : decode cX5_eats 35 = .ok (.aload_n 0, 1) := by decide +kernel
theorem dX5_eats_36 : decode cX5_eats 36 = .ok (.iload_n 1, 1) := by decide +kernel
theorem dX5_eats_37 : decode cX5_eats 37 = .ok (.iload_n 2, 1) := by decide +kernel
theorem dX5_eats_38 : decode cX5_eats 38 = .ok (.invokevirtual 83, 3) := by decide +kernel
theorem dX5_eats_41 : decode cX5_eats 41 = .ok (.ireturn, 1) := by decide +kernel
set_option maxRecDepth 20000 in
theorem ggX5_bucket_X5_isPerson : GoodIn wsX5_bucket wsX5_isPerson := goodIn_r _ [5, 6, 7, 4, 8] (by decide +kernel) (by decide +kernel)
set_option maxRecDepth 20000 in
theorem gX5_bucket_X5_isPerson : GoodIn wsX5_bucket (va_wsS RX5 136 yX5_isPerson wsX5_isPerson) := goodIn_app (goodIn_of _ (by decide +kernel)) ggX5_bucket_X5_isPerson
set_option maxRecDepth 20000 in
theorem ggX5_bucket_X5_isBread : GoodIn wsX5_bucket wsX5_isBread := goodIn_r _ [12, 13, 6, 7, 4, 8, 34, 35, 36, 37, 38, 39, 40, 41, 42, 43, 44, 45, 46] (by decide +kernel) (by decide +kernel)
set_option maxRecDepth 20000 in
theorem gX5_bucket_X5_isBread : GoodIn wsX5_bucket (wsV RX5 96 RX5 yX5_isBread wsX5_isBread) := goodIn_app (goodIn_of _ (by decide +kernel)) ggX5_bucket_X5_isBread
set_option maxRecDepth 20000 in
theorem ggX5_bucket_X5_saltOf : GoodIn wsX5_bucket wsX5_saltOf := goodIn_r _ [17, 13, 18, 19, 20, 4, 21, 22, 23, 24, 25, 34, 35, 36, 37, 38, 39, 40, 41, 42, 43, 44, 45, 46] (by decide +kernel) (by decide +kernel)
set_option maxRecDepth 20000 in
theorem gX5_bucket_X5_saltOf : GoodIn wsX5_bucket (wsV RX5 73 RX5 yX5_saltOf wsX5_saltOf) := goodIn_app (goodIn_of _ (by decide +kernel)) ggX5_bucket_X5_saltOf
set_option maxRecDepth 20000 in
theorem ggX5_bucket_X5_bucketBy : GoodIn wsX5_bucket wsX5_bucketBy := goodIn_r _ [28, 29, 30, 31, 32, 33] (by decide +kernel) (by decide +kernel)
set_option maxRecDepth 20000 in
theorem gX5_bucket_X5_bucketBy : GoodIn wsX5_bucket (va_wsS RX5 76 yX5_bucketBy wsX5_bucketBy) := goodIn_app (goodIn_of _ (by decide +kernel)) ggX5_bucket_X5_bucketBy
theorem dX5_bucket_0 : decode cX5_bucket 0 = .ok (.aload_n 0, 1) := by decide +kernel
theorem dX5_bucket_1 : decode cX5_bucket 1 = .ok (.iload_n 1, 1) := by decide +kernel
theorem dX5_bucket_2 : decode cX5_bucket 2 = .ok (.invokestatic 136, 3) := by decide +kernel
theorem dX5_bucket_5 : decode cX5_bucket 5 = .ok (.ifCond .eq 15, 3) := by decide +kernel
theorem dX5_bucket_8 : decode cX5_bucket 8 = .ok (.aload_n 0, 1) := by decide +kernel
theorem dX5_bucket_9 : decode cX5_bucket 9 = .ok (.iload_n 2, 1) := by decide +kernel
theorem dX5_bucket_10 : decode cX5_bucket 10 = .ok (.invokevirtual 96, 3) := by decide +kernel
theorem dX5_bucket_13 : decode cX5_bucket 13 = .ok (.ifCond .eq 7, 3) := by decide +kernel
theorem dX5_bucket_16 : decode cX5_bucket 16 = .ok (.iconst 0, 1) := by decide +kernel
theorem dX5_bucket_17 : decode cX5_bucket 17 = .ok (.goto 4, 3) := by decide +kernel
theorem dX5_bucket_20 : decode cX5_bucket 20 = .ok (.iconst 1, 1) := by decide +kernel
theorem dX5_bucket_21 : decode cX5_bucket 21 = .ok (.putfield 28, 3) := by decide +kernel
theorem dX5_bucket_24 : decode cX5_bucket 24 = .ok (.aload_n 0, 1) := by decide +kernel
theorem dX5_bucket_25 : decode cX5_bucket 25 = .ok (.getfield 28, 3) := by decide +kernel
theorem dX5_bucket_28 : decode cX5_bucket 28 = .ok (.ifCond .le 7, 3) := by decide +kernel
theorem dX5_bucket_31 : decode cX5_bucket 31 = .ok (.iconst 0, 1) := by decide +kernel
theorem dX5_bucket_32 : decode cX5_bucket 32 = .ok (.goto 12, 3) := by decide +kernel
theorem dX5_bucket_35 : decode cX5_bucket 35 = .ok (.iload_n 1, 1) := by decide +kernel
theorem dX5_bucket_36 : decode cX5_bucket 36 = .ok (.aload_n 0, 1) := by decide +kernel
theorem dX5_bucket_37 : decode cX5_bucket 37 = .ok (.iload_n 2, 1) := by decide +kernel
theorem dX5_bucket_38 : decode cX5_bucket 38 = .ok (.invokevirtual 73, 3) := by decide +kernel
theorem dX5_bucket_41 : decode cX5_bucket 41 = .ok (.invokestatic 76, 3) := by decide +kernel
theorem dX5_bucket_44 : decode cX5_bucket 44 = .ok (.ireturn, 1) := by decide +kernel
set_option maxRecDepth 20000 in
theorem ggX5_lowestOf_X5_owns : GoodIn wsX5_lowestOf wsX5_owns := goodIn_r _ [5, 6, 7, 8, 9, 4, 10, 11, 12, 13, 14, 15, 16, 17, 18, 19, 20, 21, 22, 23, 24, 25, 26, 27] (by decide +kernel) (by decide +kernel)
set_option maxRecDepth 20000 in
theorem gX5_lowestOf_X5_owns : GoodIn wsX5_lowestOf (wsV RX5 79 RX5 yX5_owns wsX5_owns) := goodIn_app (goodIn_of _ (by decide +kernel)) ggX5_lowestOf_X5_owns
theorem dX5_lowestOf_0 : decode cX5_lowestOf 0 = .ok (.iconst 0, 1) := by decide +kernel
theorem dX5_lowestOf_1 : decode cX5_lowestOf 1 = .ok (.istore_n 2, 1) := by decide +kernel
theorem dX5_lowestOf_2 : decode cX5_lowestOf 2 = .ok (.iload_n 2, 1) := by decide +kernel
theorem dX5_lowestOf_3 : decode cX5_lowestOf 3 = .ok (.bipush 100, 2) := by decide +kernel
theorem dX5_lowestOf_5 : decode cX5_lowestOf 5 = .ok (.if_icmp .ge 18, 3) := by decide +kernel
theorem dX5_lowestOf_8 : decode cX5_lowestOf 8 = .ok (.aload_n 0, 1) := by decide +kernel
theorem dX5_lowestOf_9 : decode cX5_lowestOf 9 = .ok (.iload_n 1, 1) := by decide +kernel
theorem dX5_lowestOf_10 : decode cX5_lowestOf 10 = .ok (.iload_n 2, 1) := by decide +kernel
theorem dX5_lowestOf_11 : decode cX5_lowestOf 11 = .ok (.invokevirtual 79, 3) := by decide +kernel
theorem dX5_lowestOf_14 : decode cX5_lowestOf 14 = .ok (.ifCond .ne 9, 3) := by decide +kernel
theorem dX5_lowestOf_17 : decode cX5_lowestOf 17 = .ok (.iinc 2 1, 3) := by decide +kernel
theorem dX5_lowestOf_20 : decode cX5_lowestOf 20 = .ok (.goto (-18), 3) := by decide +kernel
theorem dX5_lowestOf_23 : decode cX5_lowestOf 23 = .ok (.iload_n 2, 1) := by decide +kernel
theorem dX5_lowestOf_24 : decode cX5_lowestOf 24 = .ok (.bipush 100, 2) := by decide +kernel
theorem dX5_lowestOf_26 : decode cX5_lowestOf 26 = .ok (.if_icmp .ne 7, 3) := by decide +kernel
theorem dX5_lowestOf_29 : decode cX5_lowestOf 29 = .ok (.iconst (-1), 1) := by decide +kernel
theorem dX5_lowestOf_30 : decode cX5_lowestOf 30 = .ok (.goto 4, 3) := by decide +kernel
theorem dX5_lowestOf_33 : decode cX5_lowestOf 33 = .ok (.iload_n 2, 1) := by decide +kernel
theorem dX5_lowestOf_34 : decode cX5_lowestOf 34 = .ok (.ireturn, 1) := by decide +kernel
set_option maxRecDepth 20000 in
theorem ggX5_highestOf_X5_owns : GoodIn wsX5_highestOf wsX5_owns := goodIn_r _ [5, 6, 7, 8, 9, 4, 10, 11, 12, 13, 14, 15, 16, 17, 18, 19, 20, 21, 22, 23, 24, 25, 26, 27] (by decide +kernel) (by decide +kernel)
set_option maxRecDepth 20000 in
theorem gX5_highestOf_X5_owns : GoodIn wsX5_highestOf (wsV RX5 79 RX5 yX5_owns wsX5_owns) := goodIn_app (goodIn_of _ (by decide +kernel)) ggX5_highestOf_X5_owns
theorem dX5_highestOf_0 : decode cX5_highestOf 0 = .ok (.bipush 99, 2) := by decide +kernel
theorem dX5_highestOf_2 : decode cX5_highestOf 2 = .ok (.istore_n 2, 1) := by decide +kernel
theorem dX5_highestOf_3 : decode cX5_highestOf 3 = .ok (.iload_n 2, 1) := by decide +kernel
theorem dX5_highestOf_4 : decode cX5_highestOf 4 = .ok (.ifCond .lt 18, 3) := by decide +kernel
theorem dX5_highestOf_7 : decode cX5_highestOf 7 = .ok (.aload_n 0, 1) := by decide +kernel
theorem dX5_highestOf_8 : decode cX5_highestOf 8 = .ok (.iload_n 1, 1) := by decide +kernel
theorem dX5_highestOf_9 : decode cX5_highestOf 9 = .ok (.iload_n 2, 1) := by decide +kernel
theorem dX5_highestOf_10 : decode cX5_highestOf 10 = .ok (.invokevirtual 79, 3) := by decide +kernel
theorem dX5_highestOf_13 : decode cX5_highestOf 13 = .ok (.ifCond .ne 9, 3) := by decide +kernel
theorem dX5_highestOf_16 : decode cX5_highestOf 16 = .ok (.iinc 2 (-1), 3) := by decide +kernel
theorem dX5_highestOf_19 : decode cX5_highestOf 19 = .ok (.goto (-16), 3) := by decide +kernel
theorem dX5_highestOf_22 : decode cX5_highestOf 22 = .ok (.iload_n 2, 1) := by decide +kernel
theorem dX5_highestOf_23 : decode cX5_highestOf 23 = .ok (.ireturn, 1) := by decide +kernel
set_option maxRecDepth 20000 in
theorem ggX5_breadNow_X5_of : GoodIn wsX5_breadNow wsX5_of := goodIn_r _ [5, 6, 55, 56, 57, 58, 59, 60, 61, 62, 63, 64, 65, 66, 67] (by decide +kernel) (by decide +kernel)
set_option maxRecDepth 20000 in
theorem gX5_breadNow_X5_of : GoodIn wsX5_breadNow (wsV RX5 39 RX5 yX5_of wsX5_of) := goodIn_app (goodIn_of _ (by decide +kernel)) ggX5_breadNow_X5_of
set_option maxRecDepth 20000 in
theorem ggX5_breadNow_X5_saltOf : GoodIn wsX5_breadNow wsX5_saltOf := goodIn_r _ [10, 6, 11, 12, 13, 4, 14, 1, 2, 3, 5, 55, 56, 57, 58, 59, 60, 61, 62, 63, 64, 65, 66, 67] (by decide +kernel) (by decide +kernel)
set_option maxRecDepth 20000 in
theorem gX5_breadNow_X5_saltOf : GoodIn wsX5_breadNow (wsV RX5 73 RX5 yX5_saltOf wsX5_saltOf) := goodIn_app (goodIn_of _ (by decide +kernel)) ggX5_breadNow_X5_saltOf
set_option maxRecDepth 20000 in
theorem ggX5_breadNow_X5_eaters : GoodIn wsX5_breadNow wsX5_eaters := goodIn_r _ [18, 19, 20, 21, 4, 22, 23, 24, 25, 26, 1, 2, 3, 5, 6, 27, 28, 29, 30, 7, 8, 9, 10, 11, 12, 13, 14, 31, 32, 33, 34, 35, 36, 37, 38, 39, 40, 41, 42, 55, 56, 57, 58, 59, 60, 61, 62, 63, 64, 65, 66, 67] (by decide +kernel) (by decide +kernel)
set_option maxRecDepth 20000 in
theorem gX5_breadNow_X5_eaters : GoodIn wsX5_breadNow (wsV RX5 114 RX5 yX5_eaters wsX5_eaters) := goodIn_app (goodIn_of _ (by decide +kernel)) ggX5_breadNow_X5_eaters
set_option maxRecDepth 20000 in
theorem ggX5_breadNow_X5_personsWith : GoodIn wsX5_breadNow wsX5_personsWith := goodIn_r _ [46, 27, 28, 29, 4, 30, 6, 55, 56, 57, 58, 59, 60, 61, 62, 63, 64, 65, 66, 67] (by decide +kernel) (by decide +kernel)
set_option maxRecDepth 20000 in
theorem gX5_breadNow_X5_personsWith : GoodIn wsX5_breadNow (wsV RX5 102 RX5 yX5_personsWith wsX5_personsWith) := goodIn_app (goodIn_of _ (by decide +kernel)) ggX5_breadNow_X5_personsWith
set_option maxRecDepth 20000 in
theorem ggX5_breadNow_X5_lowestOf : GoodIn wsX5_breadNow wsX5_lowestOf := goodIn_r _ [50, 39, 40, 41, 4, 42, 6, 11, 12, 13, 14, 1, 2, 3, 5, 55, 56, 57, 58, 59, 60, 61, 62, 63, 64, 65, 66, 67] (by decide +kernel) (by decide +kernel)
set_option maxRecDepth 20000 in
theorem gX5_breadNow_X5_lowestOf : GoodIn wsX5_breadNow (wsV RX5 187 RX5 yX5_lowestOf wsX5_lowestOf) := goodIn_app (goodIn_of _ (by decide +kernel)) ggX5_breadNow_X5_lowestOf
set_option maxRecDepth 20000 in
theorem ggX5_breadNow_X5_highestOf : GoodIn wsX5_breadNow wsX5_highestOf := goodIn_r _ [54, 39, 40, 41, 4, 42, 6, 11, 12, 13, 14, 1, 2, 3, 5, 55, 56, 57, 58, 59, 60, 61, 62, 63, 64, 65, 66, 67] (by decide +kernel) (by decide +kernel)
set_option maxRecDepth 20000 in
theorem gX5_breadNow_X5_highestOf : GoodIn wsX5_breadNow (wsV RX5 190 RX5 yX5_highestOf wsX5_highestOf) := goodIn_app (goodIn_of _ (by decide +kernel)) ggX5_breadNow_X5_highestOf
theorem dX5_breadNow_0 : decode cX5_breadNow 0 = .ok (.iload_n 2, 1) := by decide +kernel
theorem dX5_breadNow_1 : decode cX5_breadNow 1 = .ok (.tableswitch 118 0 10 #[59, 59, 66, 59, 59, 72, 78, 87, 94, 103, 112], 59) := by decide +kernel
theorem dX5_breadNow_60 : decode cX5_breadNow 60 = .ok (.aload_n 0, 1) := by decide +kernel
theorem dX5_breadNow_61 : decode cX5_breadNow 61 = .ok (.iload_n 1, 1) := by decide +kernel
theorem dX5_breadNow_62 : decode cX5_breadNow 62 = .ok (.iload_n 2, 1) := by decide +kernel
theorem dX5_breadNow_63 : decode cX5_breadNow 63 = .ok (.invokevirtual 39, 3) := by decide +kernel
theorem dX5_breadNow_66 : decode cX5_breadNow 66 = .ok (.ireturn, 1) := by decide +kernel
theorem dX5_breadNow_67 : decode cX5_breadNow 67 = .ok (.aload_n 0, 1) := by decide +kernel
theorem dX5_breadNow_68 : decode cX5_breadNow 68 = .ok (.iload_n 1, 1) := by decide +kernel
theorem dX5_breadNow_69 : decode cX5_breadNow 69 = .ok (.invokevirtual 73, 3) := by decide +kernel
theorem dX5_breadNow_72 : decode cX5_breadNow 72 = .ok (.ireturn, 1) := by decide +kernel
theorem dX5_breadNow_73 : decode cX5_breadNow 73 = .ok (.aload_n 0, 1) := by decide +kernel
theorem dX5_breadNow_74 : decode cX5_breadNow 74 = .ok (.iload_n 1, 1) := by decide +kernel
theorem dX5_breadNow_75 : decode cX5_breadNow 75 = .ok (.invokevirtual 114, 3) := by decide +kernel
theorem dX5_breadNow_78 : decode cX5_breadNow 78 = .ok (.ireturn, 1) := by decide +kernel
theorem dX5_breadNow_79 : decode cX5_breadNow 79 = .ok (.aload_n 0, 1) := by decide +kernel
theorem dX5_breadNow_80 : decode cX5_breadNow 80 = .ok (.sipush 653, 3) := by decide +kernel
theorem dX5_breadNow_83 : decode cX5_breadNow 83 = .ok (.iload_n 1, 1) := by decide +kernel
theorem dX5_breadNow_84 : decode cX5_breadNow 84 = .ok (.invokevirtual 102, 3) := by decide +kernel
theorem dX5_breadNow_87 : decode cX5_breadNow 87 = .ok (.ireturn, 1) := by decide +kernel
theorem dX5_breadNow_88 : decode cX5_breadNow 88 = .ok (.aload_n 0, 1) := by decide +kernel
theorem dX5_breadNow_89 : decode cX5_breadNow 89 = .ok (.iload_n 1, 1) := by decide +kernel
theorem dX5_breadNow_90 : decode cX5_breadNow 90 = .ok (.iconst 5, 1) := by decide +kernel
theorem dX5_breadNow_91 : decode cX5_breadNow 91 = .ok (.invokevirtual 39, 3) := by decide +kernel
theorem dX5_breadNow_94 : decode cX5_breadNow 94 = .ok (.ireturn, 1) := by decide +kernel
theorem dX5_breadNow_95 : decode cX5_breadNow 95 = .ok (.aload_n 0, 1) := by decide +kernel
theorem dX5_breadNow_96 : decode cX5_breadNow 96 = .ok (.sipush 353, 3) := by decide +kernel
theorem dX5_breadNow_99 : decode cX5_breadNow 99 = .ok (.iload_n 1, 1) := by decide +kernel
theorem dX5_breadNow_100 : decode cX5_breadNow 100 = .ok (.invokevirtual 102, 3) := by decide +kernel
theorem dX5_breadNow_103 : decode cX5_breadNow 103 = .ok (.ireturn, 1) := by decide +kernel
theorem dX5_breadNow_104 : decode cX5_breadNow 104 = .ok (.aload_n 0, 1) := by decide +kernel
theorem dX5_breadNow_105 : decode cX5_breadNow 105 = .ok (.sipush 503, 3) := by decide +kernel
theorem dX5_breadNow_108 : decode cX5_breadNow 108 = .ok (.iload_n 1, 1) := by decide +kernel
theorem dX5_breadNow_109 : decode cX5_breadNow 109 = .ok (.invokevirtual 102, 3) := by decide +kernel
theorem dX5_breadNow_112 : decode cX5_breadNow 112 = .ok (.ireturn, 1) := by decide +kernel
theorem dX5_breadNow_113 : decode cX5_breadNow 113 = .ok (.aload_n 0, 1) := by decide +kernel
theorem dX5_breadNow_114 : decode cX5_breadNow 114 = .ok (.iload_n 1, 1) := by decide +kernel
theorem dX5_breadNow_115 : decode cX5_breadNow 115 = .ok (.invokevirtual 187, 3) := by decide +kernel
theorem dX5_breadNow_118 : decode cX5_breadNow 118 = .ok (.ireturn, 1) := by decide +kernel
theorem dX5_breadNow_119 : decode cX5_breadNow 119 = .ok (.aload_n 0, 1) := by decide +kernel
theorem dX5_breadNow_120 : decode cX5_breadNow 120 = .ok (.iload_n 1, 1) := by decide +kernel
theorem dX5_breadNow_121 : decode cX5_breadNow 121 = .ok (.invokevirtual 190, 3) := by decide +kernel
theorem dX5_breadNow_124 : decode cX5_breadNow 124 = .ok (.ireturn, 1) := by decide +kernel
set_option maxRecDepth 20000 in
theorem ggX5_bread_X5_isBread : GoodIn wsX5_bread wsX5_isBread := goodIn_r _ [6, 7, 8, 9, 5, 10, 67, 68, 69, 70, 71, 72, 73, 74, 75, 76, 77, 78, 79] (by decide +kernel) (by decide +kernel)
set_option maxRecDepth 20000 in
theorem gX5_bread_X5_isBread : GoodIn wsX5_bread (wsV RX5 96 RX5 yX5_isBread wsX5_isBread) := goodIn_app (goodIn_of _ (by decide +kernel)) ggX5_bread_X5_isBread
set_option maxRecDepth 20000 in
theorem ggX5_bread_X5_within : GoodIn wsX5_bread wsX5_within := goodIn_r _ [10] (by decide +kernel) (by decide +kernel)
set_option maxRecDepth 20000 in
theorem gX5_bread_X5_within : GoodIn wsX5_bread (va_wsS RX5 35 yX5_within wsX5_within) := goodIn_app (goodIn_of _ (by decide +kernel)) ggX5_bread_X5_within
set_option maxRecDepth 20000 in
theorem ggX5_bread_X5_breadNow : GoodIn wsX5_bread wsX5_breadNow := goodIn_r _ [14, 15, 16, 17, 5, 18, 7, 19, 20, 21, 22, 23, 24, 25, 26, 27, 28, 29, 30, 31, 32, 33, 34, 35, 36, 37, 38, 39, 40, 41, 42, 43, 44, 45, 46, 47, 48, 49, 50, 51, 52, 53, 54, 55, 56, 57, 58, 59, 60, 61, 62, 63, 64, 65, 66, 67, 68, 69, 70, 71, 72, 73, 74, 75, 76, 77, 78, 79] (by decide +kernel) (by decide +kernel)
set_option maxRecDepth 20000 in
theorem gX5_bread_X5_breadNow : GoodIn wsX5_bread (wsV RX5 193 RX5 yX5_breadNow wsX5_breadNow) := goodIn_app (goodIn_of _ (by decide +kernel)) ggX5_bread_X5_breadNow
theorem dX5_bread_0 : decode cX5_bread 0 = .ok (.aload_n 0, 1) := by decide +kernel
theorem dX5_bread_1 : decode cX5_bread 1 = .ok (.aload_n 0, 1) := by decide +kernel
theorem dX5_bread_2 : decode cX5_bread 2 = .ok (.iload_n 1, 1) := by decide +kernel
theorem dX5_bread_3 : decode cX5_bread 3 = .ok (.invokevirtual 96, 3) := by decide +kernel
theorem dX5_bread_6 : decode cX5_bread 6 = .ok (.ifCond .ne 7, 3) := by decide +kernel
theorem dX5_bread_9 : decode cX5_bread 9 = .ok (.iconst 1, 1) := by decide +kernel
theorem dX5_bread_10 : decode cX5_bread 10 = .ok (.goto 18, 3) := by decide +kernel
theorem dX5_bread_13 : decode cX5_bread 13 = .ok (.iload_n 2, 1) := by decide +kernel
theorem dX5_bread_14 : decode cX5_bread 14 = .ok (.iconst 0, 1) := by decide +kernel
theorem dX5_bread_15 : decode cX5_bread 15 = .ok (.bipush 11, 2) := by decide +kernel
theorem dX5_bread_17 : decode cX5_bread 17 = .ok (.invokestatic 35, 3) := by decide +kernel
theorem dX5_bread_20 : decode cX5_bread 20 = .ok (.ifCond .eq 7, 3) := by decide +kernel
theorem dX5_bread_23 : decode cX5_bread 23 = .ok (.iconst 0, 1) := by decide +kernel
theorem dX5_bread_24 : decode cX5_bread 24 = .ok (.goto 4, 3) := by decide +kernel
theorem dX5_bread_27 : decode cX5_bread 27 = .ok (.iconst 2, 1) := by decide +kernel
theorem dX5_bread_28 : decode cX5_bread 28 = .ok (.putfield 28, 3) := by decide +kernel
theorem dX5_bread_31 : decode cX5_bread 31 = .ok (.aload_n 0, 1) := by decide +kernel
theorem dX5_bread_32 : decode cX5_bread 32 = .ok (.getfield 28, 3) := by decide +kernel
theorem dX5_bread_35 : decode cX5_bread 35 = .ok (.ifCond .le 7, 3) := by decide +kernel
theorem dX5_bread_38 : decode cX5_bread 38 = .ok (.iconst 0, 1) := by decide +kernel
theorem dX5_bread_39 : decode cX5_bread 39 = .ok (.goto 9, 3) := by decide +kernel
theorem dX5_bread_42 : decode cX5_bread 42 = .ok (.aload_n 0, 1) := by decide +kernel
theorem dX5_bread_43 : decode cX5_bread 43 = .ok (.iload_n 1, 1) := by decide +kernel
theorem dX5_bread_44 : decode cX5_bread 44 = .ok (.iload_n 2, 1) := by decide +kernel
theorem dX5_bread_45 : decode cX5_bread 45 = .ok (.invokevirtual 193, 3) := by decide +kernel
theorem dX5_bread_48 : decode cX5_bread 48 = .ok (.ireturn, 1) := by decide +kernel
set_option maxRecDepth 20000 in
theorem ggX5_personNow_X5_breadsOf : GoodIn wsX5_personNow wsX5_breadsOf := goodIn_r _ [6, 1, 7, 8, 9, 5, 10, 11, 12, 13, 14, 15, 16, 17, 18, 19, 20, 21, 22, 23, 24, 25, 26, 27, 28, 29, 30, 31, 32, 33, 34, 35, 36, 37, 38, 39, 40, 41, 42, 43, 44, 45, 46, 47, 48, 49, 50, 51, 52, 53, 54, 55] (by decide +kernel) (by decide +kernel)
set_option maxRecDepth 20000 in
theorem gX5_personNow_X5_breadsOf : GoodIn wsX5_personNow (wsV RX5 196 RX5 yX5_breadsOf wsX5_breadsOf) := goodIn_app (goodIn_of _ (by decide +kernel)) ggX5_personNow_X5_breadsOf
theorem dX5_personNow_0 : decode cX5_personNow 0 = .ok (.iload_n 2, 1) := by decide +kernel
theorem dX5_personNow_1 : decode cX5_personNow 1 = .ok (.tableswitch 70 0 3 #[31, 37, 48, 59], 31) := by decide +kernel
theorem dX5_personNow_32 : decode cX5_personNow 32 = .ok (.aload_n 0, 1) := by decide +kernel
theorem dX5_personNow_33 : decode cX5_personNow 33 = .ok (.iload_n 1, 1) := by decide +kernel
theorem dX5_personNow_34 : decode cX5_personNow 34 = .ok (.invokevirtual 196, 3) := by decide +kernel
theorem dX5_personNow_37 : decode cX5_personNow 37 = .ok (.ireturn, 1) := by decide +kernel
theorem dX5_personNow_38 : decode cX5_personNow 38 = .ok (.aload_n 0, 1) := by decide +kernel
theorem dX5_personNow_39 : decode cX5_personNow 39 = .ok (.getfield 7, 3) := by decide +kernel
theorem dX5_personNow_42 : decode cX5_personNow 42 = .ok (.sipush 653, 3) := by decide +kernel
theorem dX5_personNow_45 : decode cX5_personNow 45 = .ok (.iload_n 1, 1) := by decide +kernel
theorem dX5_personNow_46 : decode cX5_personNow 46 = .ok (.iadd, 1) := by decide +kernel
theorem dX5_personNow_47 : decode cX5_personNow 47 = .ok (.iaload, 1) := by decide +kernel
theorem dX5_personNow_48 : decode cX5_personNow 48 = .ok (.ireturn, 1) := by decide +kernel
theorem dX5_personNow_49 : decode cX5_personNow 49 = .ok (.aload_n 0, 1) := by decide +kernel
theorem dX5_personNow_50 : decode cX5_personNow 50 = .ok (.getfield 7, 3) := by decide +kernel
theorem dX5_personNow_53 : decode cX5_personNow 53 = .ok (.sipush 353, 3) := by decide +kernel
theorem dX5_personNow_56 : decode cX5_personNow 56 = .ok (.iload_n 1, 1) := by decide +kernel
theorem dX5_personNow_57 : decode cX5_personNow 57 = .ok (.iadd, 1) := by decide +kernel
theorem dX5_personNow_58 : decode cX5_personNow 58 = .ok (.iaload, 1) := by decide +kernel
theorem dX5_personNow_59 : decode cX5_personNow 59 = .ok (.ireturn, 1) := by decide +kernel
theorem dX5_personNow_60 : decode cX5_personNow 60 = .ok (.aload_n 0, 1) := by decide +kernel
theorem dX5_personNow_61 : decode cX5_personNow 61 = .ok (.getfield 7, 3) := by decide +kernel
theorem dX5_personNow_64 : decode cX5_personNow 64 = .ok (.sipush 503, 3) := by decide +kernel
theorem dX5_personNow_67 : decode cX5_personNow 67 = .ok (.iload_n 1, 1) := by decide +kernel
theorem dX5_personNow_68 : decode cX5_personNow 68 = .ok (.iadd, 1) := by decide +kernel
theorem dX5_personNow_69 : decode cX5_personNow 69 = .ok (.iaload, 1) := by decide +kernel
theorem dX5_personNow_70 : decode cX5_personNow 70 = .ok (.ireturn, 1) := by decide +kernel
theorem dX5_personNow_71 : decode cX5_personNow 71 = .ok (.aload_n 0, 1) := by decide +kernel
theorem dX5_personNow_72 : decode cX5_personNow 72 = .ok (.getfield 7, 3) := by decide +kernel
theorem dX5_personNow_75 : decode cX5_personNow 75 = .ok (.sipush 803, 3) := by decide +kernel
theorem dX5_personNow_78 : decode cX5_personNow 78 = .ok (.iload_n 1, 1) := by decide +kernel
theorem dX5_personNow_79 : decode cX5_personNow 79 = .ok (.iadd, 1) := by decide +kernel
theorem dX5_personNow_80 : decode cX5_personNow 80 = .ok (.iaload, 1) := by decide +kernel
theorem dX5_personNow_81 : decode cX5_personNow 81 = .ok (.ireturn, 1) := by decide +kernel
set_option maxRecDepth 20000 in
theorem ggX5_person_X5_isPerson : GoodIn wsX5_person wsX5_isPerson := goodIn_r _ [5, 6, 7, 4, 8] (by decide +kernel) (by decide +kernel)
set_option maxRecDepth 20000 in
theorem gX5_person_X5_isPerson : GoodIn wsX5_person (va_wsS RX5 136 yX5_isPerson wsX5_isPerson) := goodIn_app (goodIn_of _ (by decide +kernel)) ggX5_person_X5_isPerson
set_option maxRecDepth 20000 in
theorem ggX5_person_X5_within : GoodIn wsX5_person wsX5_within := goodIn_r _ [8] (by decide +kernel) (by decide +kernel)
set_option maxRecDepth 20000 in
theorem gX5_person_X5_within : GoodIn wsX5_person (va_wsS RX5 35 yX5_within wsX5_within) := goodIn_app (goodIn_of _ (by decide +kernel)) ggX5_person_X5_within
set_option maxRecDepth 20000 in
theorem ggX5_person_X5_personNow : GoodIn wsX5_person wsX5_personNow := goodIn_r _ [12, 13, 14, 15, 16, 4, 17, 18, 19, 20, 21, 22, 23, 24, 25, 26, 27, 28, 29, 30, 31, 32, 33, 34, 35, 36, 37, 38, 39, 40, 41, 42, 43, 44, 45, 46, 47, 48, 49, 50, 51, 52, 53, 54, 55, 56, 57, 58, 59, 60, 61, 62, 63, 64, 65, 66] (by decide +kernel) (by decide +kernel)
set_option maxRecDepth 20000 in
theorem gX5_person_X5_personNow : GoodIn wsX5_person (wsV RX5 199 RX5 yX5_personNow wsX5_personNow) := goodIn_app (goodIn_of _ (by decide +kernel)) ggX5_person_X5_personNow
theorem dX5_person_0 : decode cX5_person 0 = .ok (.aload_n 0, 1) := by decide +kernel
theorem dX5_person_1 : decode cX5_person 1 = .ok (.iload_n 1, 1) := by decide +kernel
theorem dX5_person_2 : decode cX5_person 2 = .ok (.invokestatic 136, 3) := by decide +kernel
theorem dX5_person_5 : decode cX5_person 5 = .ok (.ifCond .ne 7, 3) := by decide +kernel
theorem dX5_person_8 : decode cX5_person 8 = .ok (.iconst 1, 1) := by decide +kernel
theorem dX5_person_9 : decode cX5_person 9 = .ok (.goto 17, 3) := by decide +kernel
theorem dX5_person_12 : decode cX5_person 12 = .ok (.iload_n 2, 1) := by decide +kernel
theorem dX5_person_13 : decode cX5_person 13 = .ok (.iconst 0, 1) := by decide +kernel
theorem dX5_person_14 : decode cX5_person 14 = .ok (.iconst 4, 1) := by decide +kernel
theorem dX5_person_15 : decode cX5_person 15 = .ok (.invokestatic 35, 3) := by decide +kernel
theorem dX5_person_18 : decode cX5_person 18 = .ok (.ifCond .eq 7, 3) := by decide +kernel
theorem dX5_person_21 : decode cX5_person 21 = .ok (.iconst 0, 1) := by decide +kernel
theorem dX5_person_22 : decode cX5_person 22 = .ok (.goto 4, 3) := by decide +kernel
theorem dX5_person_25 : decode cX5_person 25 = .ok (.iconst 2, 1) := by decide +kernel
theorem dX5_person_26 : decode cX5_person 26 = .ok (.putfield 28, 3) := by decide +kernel
theorem dX5_person_29 : decode cX5_person 29 = .ok (.aload_n 0, 1) := by decide +kernel
theorem dX5_person_30 : decode cX5_person 30 = .ok (.getfield 28, 3) := by decide +kernel
theorem dX5_person_33 : decode cX5_person 33 = .ok (.ifCond .le 7, 3) := by decide +kernel
theorem dX5_person_36 : decode cX5_person 36 = .ok (.iconst 0, 1) := by decide +kernel
theorem dX5_person_37 : decode cX5_person 37 = .ok (.goto 9, 3) := by decide +kernel
theorem dX5_person_40 : decode cX5_person 40 = .ok (.aload_n 0, 1) := by decide +kernel
theorem dX5_person_41 : decode cX5_person 41 = .ok (.iload_n 1, 1) := by decide +kernel
theorem dX5_person_42 : decode cX5_person 42 = .ok (.iload_n 2, 1) := by decide +kernel
theorem dX5_person_43 : decode cX5_person 43 = .ok (.invokevirtual 199, 3) := by decide +kernel
theorem dX5_person_46 : decode cX5_person 46 = .ok (.ireturn, 1) := by decide +kernel
set_option maxRecDepth 20000 in
theorem ggX5_owner_X5_isGroup : GoodIn wsX5_owner wsX5_isGroup := goodIn_r _ [6, 7, 8, 5, 9] (by decide +kernel) (by decide +kernel)
set_option maxRecDepth 20000 in
theorem gX5_owner_X5_isGroup : GoodIn wsX5_owner (va_wsS RX5 129 yX5_isGroup wsX5_isGroup) := goodIn_app (goodIn_of _ (by decide +kernel)) ggX5_owner_X5_isGroup
set_option maxRecDepth 20000 in
theorem ggX5_owner_X5_within : GoodIn wsX5_owner wsX5_within := goodIn_r _ [9] (by decide +kernel) (by decide +kernel)
set_option maxRecDepth 20000 in
theorem gX5_owner_X5_within : GoodIn wsX5_owner (va_wsS RX5 35 yX5_within wsX5_within) := goodIn_app (goodIn_of _ (by decide +kernel)) ggX5_owner_X5_within
theorem dX5_owner_0 : decode cX5_owner 0 = .ok (.aload_n 0, 1) := by decide +kernel
theorem dX5_owner_1 : decode cX5_owner 1 = .ok (.iload_n 1, 1) := by decide +kernel
theorem dX5_owner_2 : decode cX5_owner 2 = .ok (.invokestatic 129, 3) := by decide +kernel
theorem dX5_owner_5 : decode cX5_owner 5 = .ok (.ifCond .eq 17, 3) := by decide +kernel
theorem dX5_owner_8 : decode cX5_owner 8 = .ok (.iload_n 2, 1) := by decide +kernel
theorem dX5_owner_9 : decode cX5_owner 9 = .ok (.iconst 0, 1) := by decide +kernel
theorem dX5_owner_10 : decode cX5_owner 10 = .ok (.bipush 99, 2) := by decide +kernel
theorem dX5_owner_12 : decode cX5_owner 12 = .ok (.invokestatic 35, 3) := by decide +kernel
theorem dX5_owner_15 : decode cX5_owner 15 = .ok (.ifCond .eq 7, 3) := by decide +kernel
theorem dX5_owner_18 : decode cX5_owner 18 = .ok (.iconst 0, 1) := by decide +kernel
theorem dX5_owner_19 : decode cX5_owner 19 = .ok (.goto 4, 3) := by decide +kernel
theorem dX5_owner_22 : decode cX5_owner 22 = .ok (.iconst 1, 1) := by decide +kernel
theorem dX5_owner_23 : decode cX5_owner 23 = .ok (.putfield 28, 3) := by decide +kernel
theorem dX5_owner_26 : decode cX5_owner 26 = .ok (.aload_n 0, 1) := by decide +kernel
theorem dX5_owner_27 : decode cX5_owner 27 = .ok (.getfield 28, 3) := by decide +kernel
theorem dX5_owner_30 : decode cX5_owner 30 = .ok (.ifCond .le 7, 3) := by decide +kernel
theorem dX5_owner_33 : decode cX5_owner 33 = .ok (.iconst 0, 1) := by decide +kernel
theorem dX5_owner_34 : decode cX5_owner 34 = .ok (.goto 17, 3) := by decide +kernel
theorem dX5_owner_37 : decode cX5_owner 37 = .ok (.aload_n 0, 1) := by decide +kernel
theorem dX5_owner_38 : decode cX5_owner 38 = .ok (.getfield 7, 3) := by decide +kernel
theorem dX5_owner_41 : decode cX5_owner 41 = .ok (.bipush 53, 2) := by decide +kernel
theorem dX5_owner_43 : decode cX5_owner 43 = .ok (.bipush 100, 2) := by decide +kernel
theorem dX5_owner_45 : decode cX5_owner 45 = .ok (.iload_n 1, 1) := by decide +kernel
theorem dX5_owner_46 : decode cX5_owner 46 = .ok (.imul, 1) := by decide +kernel
theorem dX5_owner_47 : decode cX5_owner 47 = .ok (.iadd, 1) := by decide +kernel
theorem dX5_owner_48 : decode cX5_owner 48 = .ok (.iload_n 2, 1) := by decide +kernel
theorem dX5_owner_49 : decode cX5_owner 49 = .ok (.iadd, 1) := by decide +kernel
theorem dX5_owner_50 : decode cX5_owner 50 = .ok (.iaload, 1) := by decide +kernel
theorem dX5_owner_51 : decode cX5_owner 51 = .ok (.ireturn, 1) := by decide +kernel
theorem dX5_ones_0 : decode cX5_ones 0 = .ok (.iconst 0, 1) := by decide +kernel
theorem dX5_ones_1 : decode cX5_ones 1 = .ok (.istore_n 1, 1) := by decide +kernel
theorem dX5_ones_2 : decode cX5_ones 2 = .ok (.iconst 0, 1) := by decide +kernel
theorem dX5_ones_3 : decode cX5_ones 3 = .ok (.istore_n 2, 1) := by decide +kernel
theorem dX5_ones_4 : decode cX5_ones 4 = .ok (.iload_n 2, 1) := by decide +kernel
theorem dX5_ones_5 : decode cX5_ones 5 = .ok (.bipush 8, 2) := by decide +kernel
theorem dX5_ones_7 : decode cX5_ones 7 = .ok (.if_icmp .ge 17, 3) := by decide +kernel
theorem dX5_ones_10 : decode cX5_ones 10 = .ok (.iload_n 1, 1) := by decide +kernel
theorem dX5_ones_11 : decode cX5_ones 11 = .ok (.iload_n 0, 1) := by decide +kernel
theorem dX5_ones_12 : decode cX5_ones 12 = .ok (.iload_n 2, 1) := by decide +kernel
theorem dX5_ones_13 : decode cX5_ones 13 = .ok (.ishr, 1) := by decide +kernel
theorem dX5_ones_14 : decode cX5_ones 14 = .ok (.iconst 1, 1) := by decide +kernel
theorem dX5_ones_15 : decode cX5_ones 15 = .ok (.iand, 1) := by decide +kernel
theorem dX5_ones_16 : decode cX5_ones 16 = .ok (.iadd, 1) := by decide +kernel
theorem dX5_ones_17 : decode cX5_ones 17 = .ok (.istore_n 1, 1) := by decide +kernel
theorem dX5_ones_18 : decode cX5_ones 18 = .ok (.iinc 2 1, 3) := by decide +kernel
theorem dX5_ones_21 : decode cX5_ones 21 = .ok (.goto (-17), 3) := by decide +kernel
theorem dX5_ones_24 : decode cX5_ones 24 = .ok (.iload_n 1, 1) := by decide +kernel
theorem dX5_ones_25 : decode cX5_ones 25 = .ok (.ireturn, 1) := by decide +kernel
set_option maxRecDepth 20000 in
theorem ggX5_eatsTwo_X5_breadsOf : GoodIn wsX5_eatsTwo wsX5_breadsOf := goodIn_r _ [6, 1, 7, 8, 9, 5, 10, 11, 12, 13, 14, 15, 16, 17, 18, 19, 20, 21, 22, 23, 24, 25, 26, 27, 28, 29, 30, 31, 32, 33, 34, 35, 36, 37, 38, 39, 40, 41, 42, 43, 44, 45, 46, 47, 48, 49, 50, 51, 52, 53, 54, 55] (by decide +kernel) (by decide +kernel)
set_option maxRecDepth 20000 in
theorem gX5_eatsTwo_X5_breadsOf : GoodIn wsX5_eatsTwo (wsV RX5 196 RX5 yX5_breadsOf wsX5_breadsOf) := goodIn_app (goodIn_of _ (by decide +kernel)) ggX5_eatsTwo_X5_breadsOf
set_option maxRecDepth 20000 in
theorem ggX5_eatsTwo_X5_of : GoodIn wsX5_eatsTwo wsX5_of := goodIn_r _ [18, 1, 43, 44, 45, 46, 47, 48, 49, 50, 51, 52, 53, 54, 55] (by decide +kernel) (by decide +kernel)
set_option maxRecDepth 20000 in
theorem gX5_eatsTwo_X5_of : GoodIn wsX5_eatsTwo (wsV RX5 39 RX5 yX5_of wsX5_of) := goodIn_app (goodIn_of _ (by decide +kernel)) ggX5_eatsTwo_X5_of
theorem dX5_eatsTwo_0 : decode cX5_eatsTwo 0 = .ok (.aload_n 0, 1) := by decide +kernel
theorem dX5_eatsTwo_1 : decode cX5_eatsTwo 1 = .ok (.iload_n 1, 1) := by decide +kernel
theorem dX5_eatsTwo_2 : decode cX5_eatsTwo 2 = .ok (.invokevirtual 196, 3) := by decide +kernel
theorem dX5_eatsTwo_5 : decode cX5_eatsTwo 5 = .ok (.istore_n 2, 1) := by decide +kernel
theorem dX5_eatsTwo_6 : decode cX5_eatsTwo 6 = .ok (.iconst 0, 1) := by decide +kernel
theorem dX5_eatsTwo_7 : decode cX5_eatsTwo 7 = .ok (.istore_n 3, 1) := by decide +kernel
theorem dX5_eatsTwo_8 : decode cX5_eatsTwo 8 = .ok (.iconst 0, 1) := by decide +kernel
theorem dX5_eatsTwo_9 : decode cX5_eatsTwo 9 = .ok (.istore 4, 2) := by decide +kernel
theorem dX5_eatsTwo_11 : decode cX5_eatsTwo 11 = .ok (.iload 4, 2) := by decide +kernel
theorem dX5_eatsTwo_13 : decode cX5_eatsTwo 13 = .ok (.iconst 3, 1) := by decide +kernel
theorem dX5_eatsTwo_14 : decode cX5_eatsTwo 14 = .ok (.if_icmp .ge 75, 3) := by decide +kernel
theorem dX5_eatsTwo_17 : decode cX5_eatsTwo 17 = .ok (.iconst 0, 1) := by decide +kernel
theorem dX5_eatsTwo_18 : decode cX5_eatsTwo 18 = .ok (.istore 5, 2) := by decide +kernel
theorem dX5_eatsTwo_20 : decode cX5_eatsTwo 20 = .ok (.iconst 0, 1) := by decide +kernel
theorem dX5_eatsTwo_21 : decode cX5_eatsTwo 21 = .ok (.istore 6, 2) := by decide +kernel
theorem dX5_eatsTwo_23 : decode cX5_eatsTwo 23 = .ok (.iload 6, 2) := by decide +kernel
theorem dX5_eatsTwo_25 : decode cX5_eatsTwo 25 = .ok (.aload_n 0, 1) := by decide +kernel
theorem dX5_eatsTwo_26 : decode cX5_eatsTwo 26 = .ok (.getfield 7, 3) := by decide +kernel
theorem dX5_eatsTwo_29 : decode cX5_eatsTwo 29 = .ok (.iconst 1, 1) := by decide +kernel
theorem dX5_eatsTwo_30 : decode cX5_eatsTwo 30 = .ok (.iaload, 1) := by decide +kernel
theorem dX5_eatsTwo_31 : decode cX5_eatsTwo 31 = .ok (.if_icmp .ge 36, 3) := by decide +kernel
theorem dX5_eatsTwo_34 : decode cX5_eatsTwo 34 = .ok (.iload 5, 2) := by decide +kernel
theorem dX5_eatsTwo_36 : decode cX5_eatsTwo 36 = .ok (.aload_n 0, 1) := by decide +kernel
theorem dX5_eatsTwo_37 : decode cX5_eatsTwo 37 = .ok (.iload 6, 2) := by decide +kernel
theorem dX5_eatsTwo_39 : decode cX5_eatsTwo 39 = .ok (.iconst 1, 1) := by decide +kernel
theorem dX5_eatsTwo_40 : decode cX5_eatsTwo 40 = .ok (.invokevirtual 39, 3) := by decide +kernel
theorem dX5_eatsTwo_43 : decode cX5_eatsTwo 43 = .ok (.iload 4, 2) := by decide +kernel
theorem dX5_eatsTwo_45 : decode cX5_eatsTwo 45 = .ok (.if_icmp .ne 12, 3) := by decide +kernel
theorem dX5_eatsTwo_48 : decode cX5_eatsTwo 48 = .ok (.iload_n 2, 1) := by decide +kernel
theorem dX5_eatsTwo_49 : decode cX5_eatsTwo 49 = .ok (.iload 6, 2) := by decide +kernel
theorem dX5_eatsTwo_51 : decode cX5_eatsTwo 51 = .ok (.ishr, 1) := by decide +kernel
theorem dX5_eatsTwo_52 : decode cX5_eatsTwo 52 = .ok (.iconst 1, 1) := by decide +kernel
theorem dX5_eatsTwo_53 : decode cX5_eatsTwo 53 = .ok (.iand, 1) := by decide +kernel
theorem dX5_eatsTwo_54 : decode cX5_eatsTwo 54 = .ok (.goto 4, 3) := by decide +kernel
theorem dX5_eatsTwo_57 : decode cX5_eatsTwo 57 = .ok (.iconst 0, 1) := by decide +kernel
theorem dX5_eatsTwo_58 : decode cX5_eatsTwo 58 = .ok (.iadd, 1) := by decide +kernel
theorem dX5_eatsTwo_59 : decode cX5_eatsTwo 59 = .ok (.istore 5, 2) := by decide +kernel
theorem dX5_eatsTwo_61 : decode cX5_eatsTwo 61 = .ok (.iinc 6 1, 3) := by decide +kernel
theorem dX5_eatsTwo_64 : decode cX5_eatsTwo 64 = .ok (.goto (-41), 3) := by decide +kernel
theorem dX5_eatsTwo_67 : decode cX5_eatsTwo 67 = .ok (.iload_n 3, 1) := by decide +kernel
theorem dX5_eatsTwo_68 : decode cX5_eatsTwo 68 = .ok (.ifCond .ne 9, 3) := by decide +kernel
theorem dX5_eatsTwo_71 : decode cX5_eatsTwo 71 = .ok (.iload 5, 2) := by decide +kernel
theorem dX5_eatsTwo_73 : decode cX5_eatsTwo 73 = .ok (.iconst 1, 1) := by decide +kernel
theorem dX5_eatsTwo_74 : decode cX5_eatsTwo 74 = .ok (.if_icmp .le 7, 3) := by decide +kernel
theorem dX5_eatsTwo_77 : decode cX5_eatsTwo 77 = .ok (.iconst 1, 1) := by decide +kernel
theorem dX5_eatsTwo_78 : decode cX5_eatsTwo 78 = .ok (.goto 4, 3) := by decide +kernel
theorem dX5_eatsTwo_81 : decode cX5_eatsTwo 81 = .ok (.iconst 0, 1) := by decide +kernel
theorem dX5_eatsTwo_82 : decode cX5_eatsTwo 82 = .ok (.istore_n 3, 1) := by decide +kernel
theorem dX5_eatsTwo_83 : decode cX5_eatsTwo 83 = .ok (.iinc 4 1, 3) := by decide +kernel
theorem dX5_eatsTwo_86 : decode cX5_eatsTwo 86 = .ok (.goto (-75), 3) := by decide +kernel
theorem dX5_eatsTwo_89 : decode cX5_eatsTwo 89 = .ok (.iload_n 3, 1) := by decide +kernel
theorem dX5_eatsTwo_90 : decode cX5_eatsTwo 90 = .ok (.ireturn, 1) := by decide +kernel
set_option maxRecDepth 20000 in
theorem ggX5_sumOf_X5_ones : GoodIn wsX5_sumOf wsX5_ones := goodIn_r _ [5] (by decide +kernel) (by decide +kernel)
set_option maxRecDepth 20000 in
theorem gX5_sumOf_X5_ones : GoodIn wsX5_sumOf (va_wsS RX5 202 yX5_ones wsX5_ones) := goodIn_app (goodIn_of _ (by decide +kernel)) ggX5_sumOf_X5_ones
set_option maxRecDepth 20000 in
theorem ggX5_sumOf_X5_breadsOf : GoodIn wsX5_sumOf wsX5_breadsOf := goodIn_r _ [9, 1, 10, 11, 12, 4, 13, 14, 15, 16, 17, 18, 19, 20, 21, 22, 23, 24, 25, 26, 27, 28, 29, 30, 31, 32, 33, 34, 35, 36, 37, 38, 39, 40, 41, 42, 43, 44, 45, 50, 51, 52, 53, 54, 55, 56, 57, 58, 59, 60, 61, 62] (by decide +kernel) (by decide +kernel)
set_option maxRecDepth 20000 in
theorem gX5_sumOf_X5_breadsOf : GoodIn wsX5_sumOf (wsV RX5 196 RX5 yX5_breadsOf wsX5_breadsOf) := goodIn_app (goodIn_of _ (by decide +kernel)) ggX5_sumOf_X5_breadsOf
set_option maxRecDepth 20000 in
theorem ggX5_sumOf_X5_eatsTwo : GoodIn wsX5_sumOf wsX5_eatsTwo := goodIn_r _ [49, 1, 6, 7, 8, 4, 9, 10, 11, 12, 13, 14, 15, 16, 17, 18, 19, 20, 21, 22, 23, 24, 25, 26, 27, 28, 29, 30, 31, 32, 33, 34, 35, 36, 37, 38, 39, 40, 41, 42, 43, 44, 45, 50, 51, 52, 53, 54, 55, 56, 57, 58, 59, 60, 61, 62] (by decide +kernel) (by decide +kernel)
set_option maxRecDepth 20000 in
theorem gX5_sumOf_X5_eatsTwo : GoodIn wsX5_sumOf (wsV RX5 205 RX5 yX5_eatsTwo wsX5_eatsTwo) := goodIn_app (goodIn_of _ (by decide +kernel)) ggX5_sumOf_X5_eatsTwo
theorem dX5_sumOf_0 : decode cX5_sumOf 0 = .ok (.iconst 0, 1) := by decide +kernel
theorem dX5_sumOf_1 : decode cX5_sumOf 1 = .ok (.istore_n 2, 1) := by decide +kernel
theorem dX5_sumOf_2 : decode cX5_sumOf 2 = .ok (.iconst 0, 1) := by decide +kernel
theorem dX5_sumOf_3 : decode cX5_sumOf 3 = .ok (.istore_n 3, 1) := by decide +kernel
theorem dX5_sumOf_4 : decode cX5_sumOf 4 = .ok (.iload_n 3, 1) := by decide +kernel
theorem dX5_sumOf_5 : decode cX5_sumOf 5 = .ok (.sipush 150, 3) := by decide +kernel
theorem dX5_sumOf_8 : decode cX5_sumOf 8 = .ok (.if_icmp .ge 148, 3) := by decide +kernel
theorem dX5_sumOf_11 : decode cX5_sumOf 11 = .ok (.aload_n 0, 1) := by decide +kernel
theorem dX5_sumOf_12 : decode cX5_sumOf 12 = .ok (.getfield 7, 3) := by decide +kernel
theorem dX5_sumOf_15 : decode cX5_sumOf 15 = .ok (.sipush 353, 3) := by decide +kernel
theorem dX5_sumOf_18 : decode cX5_sumOf 18 = .ok (.iload_n 3, 1) := by decide +kernel
theorem dX5_sumOf_19 : decode cX5_sumOf 19 = .ok (.iadd, 1) := by decide +kernel
theorem dX5_sumOf_20 : decode cX5_sumOf 20 = .ok (.iaload, 1) := by decide +kernel
theorem dX5_sumOf_21 : decode cX5_sumOf 21 = .ok (.invokestatic 202, 3) := by decide +kernel
theorem dX5_sumOf_24 : decode cX5_sumOf 24 = .ok (.aload_n 0, 1) := by decide +kernel
theorem dX5_sumOf_25 : decode cX5_sumOf 25 = .ok (.getfield 7, 3) := by decide +kernel
theorem dX5_sumOf_28 : decode cX5_sumOf 28 = .ok (.sipush 503, 3) := by decide +kernel
theorem dX5_sumOf_31 : decode cX5_sumOf 31 = .ok (.iload_n 3, 1) := by decide +kernel
theorem dX5_sumOf_32 : decode cX5_sumOf 32 = .ok (.iadd, 1) := by decide +kernel
theorem dX5_sumOf_33 : decode cX5_sumOf 33 = .ok (.iaload, 1) := by decide +kernel
theorem dX5_sumOf_34 : decode cX5_sumOf 34 = .ok (.invokestatic 202, 3) := by decide +kernel
theorem dX5_sumOf_37 : decode cX5_sumOf 37 = .ok (.iadd, 1) := by decide +kernel
theorem dX5_sumOf_38 : decode cX5_sumOf 38 = .ok (.istore 4, 2) := by decide +kernel
theorem dX5_sumOf_40 : decode cX5_sumOf 40 = .ok (.iload_n 1, 1) := by decide +kernel
theorem dX5_sumOf_41 : decode cX5_sumOf 41 = .ok (.iconst 4, 1) := by decide +kernel
theorem dX5_sumOf_42 : decode cX5_sumOf 42 = .ok (.if_icmp .ne 19, 3) := by decide +kernel
theorem dX5_sumOf_45 : decode cX5_sumOf 45 = .ok (.aload_n 0, 1) := by decide +kernel
theorem dX5_sumOf_46 : decode cX5_sumOf 46 = .ok (.iload_n 3, 1) := by decide +kernel
theorem dX5_sumOf_47 : decode cX5_sumOf 47 = .ok (.invokevirtual 196, 3) := by decide +kernel
theorem dX5_sumOf_50 : decode cX5_sumOf 50 = .ok (.ifCond .le 7, 3) := by decide +kernel
theorem dX5_sumOf_53 : decode cX5_sumOf 53 = .ok (.iconst 1, 1) := by decide +kernel
theorem dX5_sumOf_54 : decode cX5_sumOf 54 = .ok (.goto 52, 3) := by decide +kernel
theorem dX5_sumOf_57 : decode cX5_sumOf 57 = .ok (.iconst 0, 1) := by decide +kernel
theorem dX5_sumOf_58 : decode cX5_sumOf 58 = .ok (.goto 48, 3) := by decide +kernel
theorem dX5_sumOf_61 : decode cX5_sumOf 61 = .ok (.iload_n 1, 1) := by decide +kernel
theorem dX5_sumOf_62 : decode cX5_sumOf 62 = .ok (.iconst 5, 1) := by decide +kernel
theorem dX5_sumOf_63 : decode cX5_sumOf 63 = .ok (.if_icmp .ne 24, 3) := by decide +kernel
theorem dX5_sumOf_66 : decode cX5_sumOf 66 = .ok (.aload_n 0, 1) := by decide +kernel
theorem dX5_sumOf_67 : decode cX5_sumOf 67 = .ok (.getfield 7, 3) := by decide +kernel
theorem dX5_sumOf_70 : decode cX5_sumOf 70 = .ok (.sipush 653, 3) := by decide +kernel
theorem dX5_sumOf_73 : decode cX5_sumOf 73 = .ok (.iload_n 3, 1) := by decide +kernel
theorem dX5_sumOf_74 : decode cX5_sumOf 74 = .ok (.iadd, 1) := by decide +kernel
theorem dX5_sumOf_75 : decode cX5_sumOf 75 = .ok (.iaload, 1) := by decide +kernel
theorem dX5_sumOf_76 : decode cX5_sumOf 76 = .ok (.ifCond .le 7, 3) := by decide +kernel
theorem dX5_sumOf_79 : decode cX5_sumOf 79 = .ok (.iconst 1, 1) := by decide +kernel
theorem dX5_sumOf_80 : decode cX5_sumOf 80 = .ok (.goto 26, 3) := by decide +kernel
theorem dX5_sumOf_83 : decode cX5_sumOf 83 = .ok (.iconst 0, 1) := by decide +kernel
theorem dX5_sumOf_84 : decode cX5_sumOf 84 = .ok (.goto 22, 3) := by decide +kernel
theorem dX5_sumOf_87 : decode cX5_sumOf 87 = .ok (.iload_n 1, 1) := by decide +kernel
theorem dX5_sumOf_88 : decode cX5_sumOf 88 = .ok (.bipush 6, 2) := by decide +kernel
theorem dX5_sumOf_90 : decode cX5_sumOf 90 = .ok (.if_icmp .ne 15, 3) := by decide +kernel
theorem dX5_sumOf_93 : decode cX5_sumOf 93 = .ok (.aload_n 0, 1) := by decide +kernel
theorem dX5_sumOf_94 : decode cX5_sumOf 94 = .ok (.iload_n 3, 1) := by decide +kernel
theorem dX5_sumOf_95 : decode cX5_sumOf 95 = .ok (.invokevirtual 205, 3) := by decide +kernel
theorem dX5_sumOf_98 : decode cX5_sumOf 98 = .ok (.ifCond .eq 7, 3) := by decide +kernel
theorem dX5_sumOf_101 : decode cX5_sumOf 101 = .ok (.iconst 1, 1) := by decide +kernel
theorem dX5_sumOf_102 : decode cX5_sumOf 102 = .ok (.goto 4, 3) := by decide +kernel
theorem dX5_sumOf_105 : decode cX5_sumOf 105 = .ok (.iconst 0, 1) := by decide +kernel
theorem dX5_sumOf_106 : decode cX5_sumOf 106 = .ok (.istore 5, 2) := by decide +kernel
theorem dX5_sumOf_108 : decode cX5_sumOf 108 = .ok (.iload_n 2, 1) := by decide +kernel
theorem dX5_sumOf_109 : decode cX5_sumOf 109 = .ok (.iload_n 1, 1) := by decide +kernel
theorem dX5_sumOf_110 : decode cX5_sumOf 110 = .ok (.iconst 3, 1) := by decide +kernel
theorem dX5_sumOf_111 : decode cX5_sumOf 111 = .ok (.if_icmp .ne 16, 3) := by decide +kernel
theorem dX5_sumOf_114 : decode cX5_sumOf 114 = .ok (.aload_n 0, 1) := by decide +kernel
theorem dX5_sumOf_115 : decode cX5_sumOf 115 = .ok (.getfield 7, 3) := by decide +kernel
theorem dX5_sumOf_118 : decode cX5_sumOf 118 = .ok (.sipush 803, 3) := by decide +kernel
theorem dX5_sumOf_121 : decode cX5_sumOf 121 = .ok (.iload_n 3, 1) := by decide +kernel
theorem dX5_sumOf_122 : decode cX5_sumOf 122 = .ok (.iadd, 1) := by decide +kernel
theorem dX5_sumOf_123 : decode cX5_sumOf 123 = .ok (.iaload, 1) := by decide +kernel
theorem dX5_sumOf_124 : decode cX5_sumOf 124 = .ok (.goto 24, 3) := by decide +kernel
theorem dX5_sumOf_127 : decode cX5_sumOf 127 = .ok (.iload_n 1, 1) := by decide +kernel
theorem dX5_sumOf_128 : decode cX5_sumOf 128 = .ok (.bipush 7, 2) := by decide +kernel
theorem dX5_sumOf_130 : decode cX5_sumOf 130 = .ok (.if_icmp .ne 8, 3) := by decide +kernel
theorem dX5_sumOf_133 : decode cX5_sumOf 133 = .ok (.iload 4, 2) := by decide +kernel
theorem dX5_sumOf_135 : decode cX5_sumOf 135 = .ok (.goto 13, 3) := by decide +kernel
theorem dX5_sumOf_138 : decode cX5_sumOf 138 = .ok (.iload 5, 2) := by decide +kernel
theorem dX5_sumOf_140 : decode cX5_sumOf 140 = .ok (.ifCond .eq 7, 3) := by decide +kernel
theorem dX5_sumOf_143 : decode cX5_sumOf 143 = .ok (.iconst 1, 1) := by decide +kernel
theorem dX5_sumOf_144 : decode cX5_sumOf 144 = .ok (.goto 4, 3) := by decide +kernel
theorem dX5_sumOf_147 : decode cX5_sumOf 147 = .ok (.iconst 0, 1) := by decide +kernel
theorem dX5_sumOf_148 : decode cX5_sumOf 148 = .ok (.iadd, 1) := by decide +kernel
theorem dX5_sumOf_149 : decode cX5_sumOf 149 = .ok (.istore_n 2, 1) := by decide +kernel
theorem dX5_sumOf_150 : decode cX5_sumOf 150 = .ok (.iinc 3 1, 3) := by decide +kernel
theorem dX5_sumOf_153 : decode cX5_sumOf 153 = .ok (.goto (-149), 3) := by decide +kernel
theorem dX5_sumOf_156 : decode cX5_sumOf 156 = .ok (.iload_n 2, 1) := by decide +kernel
theorem dX5_sumOf_157 : decode cX5_sumOf 157 = .ok (.ireturn, 1) := by decide +kernel
set_option maxRecDepth 20000 in
theorem ggX5_openBreads_X5_of : GoodIn wsX5_openBreads wsX5_of := goodIn_r _ [6, 1, 7, 8, 9, 10, 11, 12, 13, 14, 15, 16, 17, 18, 19] (by decide +kernel) (by decide +kernel)
set_option maxRecDepth 20000 in
theorem gX5_openBreads_X5_of : GoodIn wsX5_openBreads (wsV RX5 39 RX5 yX5_of wsX5_of) := goodIn_app (goodIn_of _ (by decide +kernel)) ggX5_openBreads_X5_of
theorem dX5_openBreads_0 : decode cX5_openBreads 0 = .ok (.iconst 0, 1) := by decide +kernel
theorem dX5_openBreads_1 : decode cX5_openBreads 1 = .ok (.istore_n 1, 1) := by decide +kernel
theorem dX5_openBreads_2 : decode cX5_openBreads 2 = .ok (.iconst 0, 1) := by decide +kernel
theorem dX5_openBreads_3 : decode cX5_openBreads 3 = .ok (.istore_n 2, 1) := by decide +kernel
theorem dX5_openBreads_4 : decode cX5_openBreads 4 = .ok (.iload_n 2, 1) := by decide +kernel
theorem dX5_openBreads_5 : decode cX5_openBreads 5 = .ok (.aload_n 0, 1) := by decide +kernel
theorem dX5_openBreads_6 : decode cX5_openBreads 6 = .ok (.getfield 7, 3) := by decide +kernel
theorem dX5_openBreads_9 : decode cX5_openBreads 9 = .ok (.iconst 1, 1) := by decide +kernel
theorem dX5_openBreads_10 : decode cX5_openBreads 10 = .ok (.iaload, 1) := by decide +kernel
theorem dX5_openBreads_11 : decode cX5_openBreads 11 = .ok (.if_icmp .ge 18, 3) := by decide +kernel
theorem dX5_openBreads_14 : decode cX5_openBreads 14 = .ok (.iload_n 1, 1) := by decide +kernel
theorem dX5_openBreads_15 : decode cX5_openBreads 15 = .ok (.aload_n 0, 1) := by decide +kernel
theorem dX5_openBreads_16 : decode cX5_openBreads 16 = .ok (.iload_n 2, 1) := by decide +kernel
theorem dX5_openBreads_17 : decode cX5_openBreads 17 = .ok (.iconst 0, 1) := by decide +kernel
theorem dX5_openBreads_18 : decode cX5_openBreads 18 = .ok (.invokevirtual 39, 3) := by decide +kernel
theorem dX5_openBreads_21 : decode cX5_openBreads 21 = .ok (.iadd, 1) := by decide +kernel
theorem dX5_openBreads_22 : decode cX5_openBreads 22 = .ok (.istore_n 1, 1) := by decide +kernel
theorem dX5_openBreads_23 : decode cX5_openBreads 23 = .ok (.iinc 2 1, 3) := by decide +kernel
theorem dX5_openBreads_26 : decode cX5_openBreads 26 = .ok (.goto (-22), 3) := by decide +kernel
theorem dX5_openBreads_29 : decode cX5_openBreads 29 = .ok (.iload_n 1, 1) := by decide +kernel
theorem dX5_openBreads_30 : decode cX5_openBreads 30 = .ok (.ireturn, 1) := by decide +kernel
set_option maxRecDepth 20000 in
theorem ggX5_counted_X5_freeOf : GoodIn wsX5_counted wsX5_freeOf := goodIn_r _ [7, 1, 63, 64, 65, 66, 67, 68, 69, 70, 71, 72, 73, 74, 75] (by decide +kernel) (by decide +kernel)
set_option maxRecDepth 20000 in
theorem gX5_counted_X5_freeOf : GoodIn wsX5_counted (wsV RX5 52 RX5 yX5_freeOf wsX5_freeOf) := goodIn_app (goodIn_of _ (by decide +kernel)) ggX5_counted_X5_freeOf
set_option maxRecDepth 20000 in
theorem ggX5_counted_X5_openBreads : GoodIn wsX5_counted wsX5_openBreads := goodIn_r _ [11, 1, 12, 13, 14, 6, 15, 63, 64, 65, 66, 67, 68, 69, 70, 71, 72, 73, 74, 75] (by decide +kernel) (by decide +kernel)
set_option maxRecDepth 20000 in
theorem gX5_counted_X5_openBreads : GoodIn wsX5_counted (wsV RX5 208 RX5 yX5_openBreads wsX5_openBreads) := goodIn_app (goodIn_of _ (by decide +kernel)) ggX5_counted_X5_openBreads
set_option maxRecDepth 20000 in
theorem ggX5_counted_X5_sumOf : GoodIn wsX5_counted wsX5_sumOf := goodIn_r _ [19, 1, 20, 21, 6, 22, 23, 24, 25, 26, 27, 28, 29, 30, 31, 32, 33, 34, 12, 13, 14, 15, 35, 36, 37, 38, 39, 40, 41, 42, 43, 44, 45, 46, 47, 48, 49, 50, 51, 52, 53, 54, 55, 56, 57, 58, 59, 60, 61, 62, 63, 64, 65, 66, 67, 68, 69, 70, 71, 72, 73, 74, 75] (by decide +kernel) (by decide +kernel)
set_option maxRecDepth 20000 in
theorem gX5_counted_X5_sumOf : GoodIn wsX5_counted (wsV RX5 211 RX5 yX5_sumOf wsX5_sumOf) := goodIn_app (goodIn_of _ (by decide +kernel)) ggX5_counted_X5_sumOf
theorem dX5_counted_0 : decode cX5_counted 0 = .ok (.iload_n 1, 1) := by decide +kernel
theorem dX5_counted_1 : decode cX5_counted 1 = .ok (.bipush 19, 2) := by decide +kernel
theorem dX5_counted_3 : decode cX5_counted 3 = .ok (.if_icmp .le 12, 3) := by decide +kernel
theorem dX5_counted_6 : decode cX5_counted 6 = .ok (.aload_n 0, 1) := by decide +kernel
theorem dX5_counted_7 : decode cX5_counted 7 = .ok (.iload_n 1, 1) := by decide +kernel
theorem dX5_counted_8 : decode cX5_counted 8 = .ok (.bipush 20, 2) := by decide +kernel
theorem dX5_counted_10 : decode cX5_counted 10 = .ok (.isub, 1) := by decide +kernel
theorem dX5_counted_11 : decode cX5_counted 11 = .ok (.invokevirtual 52, 3) := by decide +kernel
theorem dX5_counted_14 : decode cX5_counted 14 = .ok (.ireturn, 1) := by decide +kernel
theorem dX5_counted_15 : decode cX5_counted 15 = .ok (.iload_n 1, 1) := by decide +kernel
theorem dX5_counted_16 : decode cX5_counted 16 = .ok (.bipush 9, 2) := by decide +kernel
theorem dX5_counted_18 : decode cX5_counted 18 = .ok (.if_icmp .le 15, 3) := by decide +kernel
theorem dX5_counted_21 : decode cX5_counted 21 = .ok (.aload_n 0, 1) := by decide +kernel
theorem dX5_counted_22 : decode cX5_counted 22 = .ok (.getfield 7, 3) := by decide +kernel
theorem dX5_counted_25 : decode cX5_counted 25 = .ok (.iconst 2, 1) := by decide +kernel
theorem dX5_counted_26 : decode cX5_counted 26 = .ok (.iload_n 1, 1) := by decide +kernel
theorem dX5_counted_27 : decode cX5_counted 27 = .ok (.iadd, 1) := by decide +kernel
theorem dX5_counted_28 : decode cX5_counted 28 = .ok (.bipush 10, 2) := by decide +kernel
theorem dX5_counted_30 : decode cX5_counted 30 = .ok (.isub, 1) := by decide +kernel
theorem dX5_counted_31 : decode cX5_counted 31 = .ok (.iaload, 1) := by decide +kernel
theorem dX5_counted_32 : decode cX5_counted 32 = .ok (.ireturn, 1) := by decide +kernel
theorem dX5_counted_33 : decode cX5_counted 33 = .ok (.iload_n 1, 1) := by decide +kernel
theorem dX5_counted_34 : decode cX5_counted 34 = .ok (.tableswitch 74 0 8 #[50, 57, 62, 74, 74, 74, 74, 74, 69], 50) := by decide +kernel
theorem dX5_counted_84 : decode cX5_counted 84 = .ok (.aload_n 0, 1) := by decide +kernel
theorem dX5_counted_85 : decode cX5_counted 85 = .ok (.getfield 7, 3) := by decide +kernel
theorem dX5_counted_88 : decode cX5_counted 88 = .ok (.iconst 1, 1) := by decide +kernel
theorem dX5_counted_89 : decode cX5_counted 89 = .ok (.iaload, 1) := by decide +kernel
theorem dX5_counted_90 : decode cX5_counted 90 = .ok (.ireturn, 1) := by decide +kernel
theorem dX5_counted_91 : decode cX5_counted 91 = .ok (.aload_n 0, 1) := by decide +kernel
theorem dX5_counted_92 : decode cX5_counted 92 = .ok (.invokevirtual 208, 3) := by decide +kernel
theorem dX5_counted_95 : decode cX5_counted 95 = .ok (.ireturn, 1) := by decide +kernel
theorem dX5_counted_96 : decode cX5_counted 96 = .ok (.aload_n 0, 1) := by decide +kernel
theorem dX5_counted_97 : decode cX5_counted 97 = .ok (.getfield 7, 3) := by decide +kernel
theorem dX5_counted_100 : decode cX5_counted 100 = .ok (.iconst 0, 1) := by decide +kernel
theorem dX5_counted_101 : decode cX5_counted 101 = .ok (.iaload, 1) := by decide +kernel
theorem dX5_counted_102 : decode cX5_counted 102 = .ok (.ireturn, 1) := by decide +kernel
theorem dX5_counted_103 : decode cX5_counted 103 = .ok (.aload_n 0, 1) := by decide +kernel
theorem dX5_counted_104 : decode cX5_counted 104 = .ok (.getfield 32, 3) := by decide +kernel
theorem dX5_counted_107 : decode cX5_counted 107 = .ok (.ireturn, 1) := by decide +kernel
theorem dX5_counted_108 : decode cX5_counted 108 = .ok (.aload_n 0, 1) := by decide +kernel
theorem dX5_counted_109 : decode cX5_counted 109 = .ok (.iload_n 1, 1) := by decide +kernel
theorem dX5_counted_110 : decode cX5_counted 110 = .ok (.invokevirtual 211, 3) := by decide +kernel
theorem dX5_counted_113 : decode cX5_counted 113 = .ok (.ireturn, 1) := by decide +kernel
set_option maxRecDepth 20000 in
theorem ggX5_count_X5_within : GoodIn wsX5_count wsX5_within := goodIn_r _ [5] (by decide +kernel) (by decide +kernel)
set_option maxRecDepth 20000 in
theorem gX5_count_X5_within : GoodIn wsX5_count (va_wsS RX5 35 yX5_within wsX5_within) := goodIn_app (goodIn_of _ (by decide +kernel)) ggX5_count_X5_within
set_option maxRecDepth 20000 in
theorem ggX5_count_X5_counted : GoodIn wsX5_count wsX5_counted := goodIn_r _ [9, 10, 11, 12, 13, 14, 4, 15, 16, 17, 18, 19, 20, 21, 22, 23, 24, 25, 26, 27, 28, 29, 30, 31, 32, 33, 34, 35, 36, 37, 38, 39, 40, 41, 42, 43, 44, 45, 46, 47, 48, 49, 50, 51, 52, 53, 54, 55, 56, 57, 58, 59, 60, 61, 62, 63, 64, 65, 66, 67, 68, 69, 70, 71, 72, 73, 74, 75, 76, 77, 78, 79, 80, 81, 82, 83] (by decide +kernel) (by decide +kernel)
set_option maxRecDepth 20000 in
theorem gX5_count_X5_counted : GoodIn wsX5_count (wsV RX5 214 RX5 yX5_counted wsX5_counted) := goodIn_app (goodIn_of _ (by decide +kernel)) ggX5_count_X5_counted
theorem dX5_count_0 : decode cX5_count 0 = .ok (.aload_n 0, 1) := by decide +kernel
theorem dX5_count_1 : decode cX5_count 1 = .ok (.iload_n 1, 1) := by decide +kernel
theorem dX5_count_2 : decode cX5_count 2 = .ok (.iconst 0, 1) := by decide +kernel
theorem dX5_count_3 : decode cX5_count 3 = .ok (.bipush 8, 2) := by decide +kernel
theorem dX5_count_5 : decode cX5_count 5 = .ok (.invokestatic 35, 3) := by decide +kernel
theorem dX5_count_8 : decode cX5_count 8 = .ok (.ifCond .ne 25, 3) := by decide +kernel
theorem dX5_count_11 : decode cX5_count 11 = .ok (.iload_n 1, 1) := by decide +kernel
theorem dX5_count_12 : decode cX5_count 12 = .ok (.bipush 10, 2) := by decide +kernel
theorem dX5_count_14 : decode cX5_count 14 = .ok (.bipush 12, 2) := by decide +kernel
theorem dX5_count_16 : decode cX5_count 16 = .ok (.invokestatic 35, 3) := by decide +kernel
theorem dX5_count_19 : decode cX5_count 19 = .ok (.ifCond .ne 14, 3) := by decide +kernel
theorem dX5_count_22 : decode cX5_count 22 = .ok (.iload_n 1, 1) := by decide +kernel
theorem dX5_count_23 : decode cX5_count 23 = .ok (.bipush 20, 2) := by decide +kernel
theorem dX5_count_25 : decode cX5_count 25 = .ok (.bipush 22, 2) := by decide +kernel
theorem dX5_count_27 : decode cX5_count 27 = .ok (.invokestatic 35, 3) := by decide +kernel
theorem dX5_count_30 : decode cX5_count 30 = .ok (.ifCond .eq 7, 3) := by decide +kernel
theorem dX5_count_33 : decode cX5_count 33 = .ok (.iconst 0, 1) := by decide +kernel
theorem dX5_count_34 : decode cX5_count 34 = .ok (.goto 4, 3) := by decide +kernel
theorem dX5_count_37 : decode cX5_count 37 = .ok (.iconst 1, 1) := by decide +kernel
theorem dX5_count_38 : decode cX5_count 38 = .ok (.putfield 28, 3) := by decide +kernel
theorem dX5_count_41 : decode cX5_count 41 = .ok (.aload_n 0, 1) := by decide +kernel
theorem dX5_count_42 : decode cX5_count 42 = .ok (.getfield 28, 3) := by decide +kernel
theorem dX5_count_45 : decode cX5_count 45 = .ok (.ifCond .le 7, 3) := by decide +kernel
theorem dX5_count_48 : decode cX5_count 48 = .ok (.iconst 0, 1) := by decide +kernel
theorem dX5_count_49 : decode cX5_count 49 = .ok (.goto 8, 3) := by decide +kernel
theorem dX5_count_52 : decode cX5_count 52 = .ok (.aload_n 0, 1) := by decide +kernel
theorem dX5_count_53 : decode cX5_count 53 = .ok (.iload_n 1, 1) := by decide +kernel
theorem dX5_count_54 : decode cX5_count 54 = .ok (.invokevirtual 214, 3) := by decide +kernel
theorem dX5_count_57 : decode cX5_count 57 = .ok (.ireturn, 1) := by decide +kernel
set_option maxRecDepth 20000 in
theorem ggX5_bothEat_X5_eatsNow : GoodIn wsX5_bothEat wsX5_eatsNow := goodIn_r _ [5, 6, 7, 8, 4, 9, 10, 11, 12, 13, 14, 15, 16, 17, 18, 19, 20, 21, 22, 23, 24, 25, 26, 27, 28, 29, 30, 31, 32, 33, 34, 35, 36, 37, 38, 39, 40, 41, 42, 43, 44, 45, 46, 47, 48, 49, 50, 51] (by decide +kernel) (by decide +kernel)
set_option maxRecDepth 20000 in
theorem gX5_bothEat_X5_eatsNow : GoodIn wsX5_bothEat (wsV RX5 83 RX5 yX5_eatsNow wsX5_eatsNow) := goodIn_app (goodIn_of _ (by decide +kernel)) ggX5_bothEat_X5_eatsNow
theorem dX5_bothEat_0 : decode cX5_bothEat 0 = .ok (.iconst 0, 1) := by decide +kernel
theorem dX5_bothEat_1 : decode cX5_bothEat 1 = .ok (.istore_n 3, 1) := by decide +kernel
theorem dX5_bothEat_2 : decode cX5_bothEat 2 = .ok (.iconst 0, 1) := by decide +kernel
theorem dX5_bothEat_3 : decode cX5_bothEat 3 = .ok (.istore 4, 2) := by decide +kernel
theorem dX5_bothEat_5 : decode cX5_bothEat 5 = .ok (.iload 4, 2) := by decide +kernel
theorem dX5_bothEat_7 : decode cX5_bothEat 7 = .ok (.sipush 150, 3) := by decide +kernel
theorem dX5_bothEat_10 : decode cX5_bothEat 10 = .ok (.if_icmp .ge 37, 3) := by decide +kernel
theorem dX5_bothEat_13 : decode cX5_bothEat 13 = .ok (.iload_n 3, 1) := by decide +kernel
theorem dX5_bothEat_14 : decode cX5_bothEat 14 = .ok (.aload_n 0, 1) := by decide +kernel
theorem dX5_bothEat_15 : decode cX5_bothEat 15 = .ok (.iload 4, 2) := by decide +kernel
theorem dX5_bothEat_17 : decode cX5_bothEat 17 = .ok (.iload_n 1, 1) := by decide +kernel
theorem dX5_bothEat_18 : decode cX5_bothEat 18 = .ok (.invokevirtual 83, 3) := by decide +kernel
theorem dX5_bothEat_21 : decode cX5_bothEat 21 = .ok (.ifCond .le 17, 3) := by decide +kernel
theorem dX5_bothEat_24 : decode cX5_bothEat 24 = .ok (.aload_n 0, 1) := by decide +kernel
theorem dX5_bothEat_25 : decode cX5_bothEat 25 = .ok (.iload 4, 2) := by decide +kernel
theorem dX5_bothEat_27 : decode cX5_bothEat 27 = .ok (.iload_n 2, 1) := by decide +kernel
theorem dX5_bothEat_28 : decode cX5_bothEat 28 = .ok (.invokevirtual 83, 3) := by decide +kernel
theorem dX5_bothEat_31 : decode cX5_bothEat 31 = .ok (.ifCond .le 7, 3) := by decide +kernel
theorem dX5_bothEat_34 : decode cX5_bothEat 34 = .ok (.iconst 1, 1) := by decide +kernel
theorem dX5_bothEat_35 : decode cX5_bothEat 35 = .ok (.goto 4, 3) := by decide +kernel
theorem dX5_bothEat_38 : decode cX5_bothEat 38 = .ok (.iconst 0, 1) := by decide +kernel
theorem dX5_bothEat_39 : decode cX5_bothEat 39 = .ok (.iadd, 1) := by decide +kernel
theorem dX5_bothEat_40 : decode cX5_bothEat 40 = .ok (.istore_n 3, 1) := by decide +kernel
theorem dX5_bothEat_41 : decode cX5_bothEat 41 = .ok (.iinc 4 1, 3) := by decide +kernel
theorem dX5_bothEat_44 : decode cX5_bothEat 44 = .ok (.goto (-39), 3) := by decide +kernel
theorem dX5_bothEat_47 : decode cX5_bothEat 47 = .ok (.iload_n 3, 1) := by decide +kernel
theorem dX5_bothEat_48 : decode cX5_bothEat 48 = .ok (.ireturn, 1) := by decide +kernel
set_option maxRecDepth 20000 in
theorem ggX5_overlap_X5_isBread : GoodIn wsX5_overlap wsX5_isBread := goodIn_r _ [6, 7, 8, 9, 5, 10, 51, 52, 53, 54, 55, 56, 57, 58, 59, 60, 61, 62, 63] (by decide +kernel) (by decide +kernel)
set_option maxRecDepth 20000 in
theorem gX5_overlap_X5_isBread : GoodIn wsX5_overlap (wsV RX5 96 RX5 yX5_isBread wsX5_isBread) := goodIn_app (goodIn_of _ (by decide +kernel)) ggX5_overlap_X5_isBread
set_option maxRecDepth 20000 in
theorem ggX5_overlap_X5_bothEat : GoodIn wsX5_overlap wsX5_bothEat := goodIn_r _ [14, 15, 16, 17, 5, 18, 19, 20, 21, 22, 23, 24, 25, 26, 7, 27, 28, 29, 30, 31, 32, 33, 34, 35, 36, 37, 38, 39, 40, 41, 42, 43, 44, 45, 46, 47, 48, 49, 50, 51, 52, 53, 54, 55, 56, 57, 58, 59, 60, 61, 62, 63] (by decide +kernel) (by decide +kernel)
set_option maxRecDepth 20000 in
theorem gX5_overlap_X5_bothEat : GoodIn wsX5_overlap (wsV RX5 217 RX5 yX5_bothEat wsX5_bothEat) := goodIn_app (goodIn_of _ (by decide +kernel)) ggX5_overlap_X5_bothEat
theorem dX5_overlap_0 : decode cX5_overlap 0 = .ok (.aload_n 0, 1) := by decide +kernel
theorem dX5_overlap_1 : decode cX5_overlap 1 = .ok (.aload_n 0, 1) := by decide +kernel
theorem dX5_overlap_2 : decode cX5_overlap 2 = .ok (.iload_n 1, 1) := by decide +kernel
theorem dX5_overlap_3 : decode cX5_overlap 3 = .ok (.invokevirtual 96, 3) := by decide +kernel
theorem dX5_overlap_6 : decode cX5_overlap 6 = .ok (.ifCond .eq 15, 3) := by decide +kernel
theorem dX5_overlap_9 : decode cX5_overlap 9 = .ok (.aload_n 0, 1) := by decide +kernel
theorem dX5_overlap_10 : decode cX5_overlap 10 = .ok (.iload_n 2, 1) := by decide +kernel
theorem dX5_overlap_11 : decode cX5_overlap 11 = .ok (.invokevirtual 96, 3) := by decide +kernel
theorem dX5_overlap_14 : decode cX5_overlap 14 = .ok (.ifCond .eq 7, 3) := by decide +kernel
theorem dX5_overlap_17 : decode cX5_overlap 17 = .ok (.iconst 0, 1) := by decide +kernel
theorem dX5_overlap_18 : decode cX5_overlap 18 = .ok (.goto 4, 3) := by decide +kernel
theorem dX5_overlap_21 : decode cX5_overlap 21 = .ok (.iconst 1, 1) := by decide +kernel
theorem dX5_overlap_22 : decode cX5_overlap 22 = .ok (.putfield 28, 3) := by decide +kernel
theorem dX5_overlap_25 : decode cX5_overlap 25 = .ok (.aload_n 0, 1) := by decide +kernel
theorem dX5_overlap_26 : decode cX5_overlap 26 = .ok (.getfield 28, 3) := by decide +kernel
theorem dX5_overlap_29 : decode cX5_overlap 29 = .ok (.ifCond .le 7, 3) := by decide +kernel
theorem dX5_overlap_32 : decode cX5_overlap 32 = .ok (.iconst 0, 1) := by decide +kernel
theorem dX5_overlap_33 : decode cX5_overlap 33 = .ok (.goto 9, 3) := by decide +kernel
theorem dX5_overlap_36 : decode cX5_overlap 36 = .ok (.aload_n 0, 1) := by decide +kernel
theorem dX5_overlap_37 : decode cX5_overlap 37 = .ok (.iload_n 1, 1) := by decide +kernel
theorem dX5_overlap_38 : decode cX5_overlap 38 = .ok (.iload_n 2, 1) := by decide +kernel
theorem dX5_overlap_39 : decode cX5_overlap 39 = .ok (.invokevirtual 217, 3) := by decide +kernel
theorem dX5_overlap_42 : decode cX5_overlap 42 = .ok (.ireturn, 1) := by decide +kernel
set_option maxRecDepth 20000 in
theorem ggX5_keepShare_X5_of : GoodIn wsX5_keepShare wsX5_of := goodIn_r _ [7, 2, 8, 9, 10, 11, 12, 13, 14, 15, 16, 17, 18, 19, 20] (by decide +kernel) (by decide +kernel)
set_option maxRecDepth 20000 in
theorem gX5_keepShare_X5_of : GoodIn wsX5_keepShare (wsV RX5 39 RX5 yX5_of wsX5_of) := goodIn_app (goodIn_of _ (by decide +kernel)) ggX5_keepShare_X5_of
theorem dX5_keepShare_0 : decode cX5_keepShare 0 = .ok (.iconst 0, 1) := by decide +kernel
theorem dX5_keepShare_1 : decode cX5_keepShare 1 = .ok (.istore_n 2, 1) := by decide +kernel
theorem dX5_keepShare_2 : decode cX5_keepShare 2 = .ok (.iload_n 2, 1) := by decide +kernel
theorem dX5_keepShare_3 : decode cX5_keepShare 3 = .ok (.sipush 300, 3) := by decide +kernel
theorem dX5_keepShare_6 : decode cX5_keepShare 6 = .ok (.if_icmp .ge 24, 3) := by decide +kernel
theorem dX5_keepShare_9 : decode cX5_keepShare 9 = .ok (.aload_n 0, 1) := by decide +kernel
theorem dX5_keepShare_10 : decode cX5_keepShare 10 = .ok (.getfield 25, 3) := by decide +kernel
theorem dX5_keepShare_13 : decode cX5_keepShare 13 = .ok (.iload_n 2, 1) := by decide +kernel
theorem dX5_keepShare_14 : decode cX5_keepShare 14 = .ok (.aload_n 0, 1) := by decide +kernel
theorem dX5_keepShare_15 : decode cX5_keepShare 15 = .ok (.getfield 7, 3) := by decide +kernel
theorem dX5_keepShare_18 : decode cX5_keepShare 18 = .ok (.bipush 53, 2) := by decide +kernel
theorem dX5_keepShare_20 : decode cX5_keepShare 20 = .ok (.iload_n 2, 1) := by decide +kernel
theorem dX5_keepShare_21 : decode cX5_keepShare 21 = .ok (.iadd, 1) := by decide +kernel
theorem dX5_keepShare_22 : decode cX5_keepShare 22 = .ok (.iaload, 1) := by decide +kernel
theorem dX5_keepShare_23 : decode cX5_keepShare 23 = .ok (.iastore, 1) := by decide +kernel
theorem dX5_keepShare_24 : decode cX5_keepShare 24 = .ok (.iinc 2 1, 3) := by decide +kernel
theorem dX5_keepShare_27 : decode cX5_keepShare 27 = .ok (.goto (-25), 3) := by decide +kernel
theorem dX5_keepShare_30 : decode cX5_keepShare 30 = .ok (.aload_n 0, 1) := by decide +kernel
theorem dX5_keepShare_31 : decode cX5_keepShare 31 = .ok (.iload_n 1, 1) := by decide +kernel
theorem dX5_keepShare_32 : decode cX5_keepShare 32 = .ok (.iconst 3, 1) := by decide +kernel
theorem dX5_keepShare_33 : decode cX5_keepShare 33 = .ok (.invokevirtual 39, 3) := by decide +kernel
theorem dX5_keepShare_36 : decode cX5_keepShare 36 = .ok (.ireturn, 1) := by decide +kernel
set_option maxRecDepth 20000 in
theorem ggX5_layBack_X5_put : GoodIn wsX5_layBack wsX5_put := goodIn_r _ [7, 1, 8, 9, 10, 11, 12, 13, 14, 15, 16, 17, 18, 19, 20] (by decide +kernel) (by decide +kernel)
set_option maxRecDepth 20000 in
theorem gX5_layBack_X5_put : GoodIn wsX5_layBack (wsV RX5 63 RX5 yX5_put wsX5_put) := goodIn_app (goodIn_of _ (by decide +kernel)) ggX5_layBack_X5_put
theorem dX5_layBack_0 : decode cX5_layBack 0 = .ok (.iconst 0, 1) := by decide +kernel
theorem dX5_layBack_1 : decode cX5_layBack 1 = .ok (.istore_n 3, 1) := by decide +kernel
theorem dX5_layBack_2 : decode cX5_layBack 2 = .ok (.iload_n 3, 1) := by decide +kernel
theorem dX5_layBack_3 : decode cX5_layBack 3 = .ok (.sipush 300, 3) := by decide +kernel
theorem dX5_layBack_6 : decode cX5_layBack 6 = .ok (.if_icmp .ge 24, 3) := by decide +kernel
theorem dX5_layBack_9 : decode cX5_layBack 9 = .ok (.aload_n 0, 1) := by decide +kernel
theorem dX5_layBack_10 : decode cX5_layBack 10 = .ok (.getfield 7, 3) := by decide +kernel
theorem dX5_layBack_13 : decode cX5_layBack 13 = .ok (.bipush 53, 2) := by decide +kernel
theorem dX5_layBack_15 : decode cX5_layBack 15 = .ok (.iload_n 3, 1) := by decide +kernel
theorem dX5_layBack_16 : decode cX5_layBack 16 = .ok (.iadd, 1) := by decide +kernel
theorem dX5_layBack_17 : decode cX5_layBack 17 = .ok (.aload_n 0, 1) := by decide +kernel
theorem dX5_layBack_18 : decode cX5_layBack 18 = .ok (.getfield 25, 3) := by decide +kernel
theorem dX5_layBack_21 : decode cX5_layBack 21 = .ok (.iload_n 3, 1) := by decide +kernel
theorem dX5_layBack_22 : decode cX5_layBack 22 = .ok (.iaload, 1) := by decide +kernel
theorem dX5_layBack_23 : decode cX5_layBack 23 = .ok (.iastore, 1) := by decide +kernel
theorem dX5_layBack_24 : decode cX5_layBack 24 = .ok (.iinc 3 1, 3) := by decide +kernel
theorem dX5_layBack_27 : decode cX5_layBack 27 = .ok (.goto (-25), 3) := by decide +kernel
theorem dX5_layBack_30 : decode cX5_layBack 30 = .ok (.aload_n 0, 1) := by decide +kernel
theorem dX5_layBack_31 : decode cX5_layBack 31 = .ok (.iload_n 1, 1) := by decide +kernel
theorem dX5_layBack_32 : decode cX5_layBack 32 = .ok (.iconst 3, 1) := by decide +kernel
theorem dX5_layBack_33 : decode cX5_layBack 33 = .ok (.iload_n 2, 1) := by decide +kernel
theorem dX5_layBack_34 : decode cX5_layBack 34 = .ok (.invokevirtual 63, 3) := by decide +kernel
theorem dX5_layBack_37 : decode cX5_layBack 37 = .ok (.return_, 1) := by decide +kernel
set_option maxRecDepth 20000 in
theorem ggX5_sharedThen_X5_canRaise : GoodIn wsX5_sharedThen wsX5_canRaise := goodIn_r _ [5, 6, 7, 8, 4, 9, 10, 11, 12, 13, 14, 15, 16, 17, 18, 19, 20, 21, 22, 23, 24, 25, 26, 84, 85, 86, 87, 88, 89, 90, 91, 92, 93, 94, 95, 96] (by decide +kernel) (by decide +kernel)
set_option maxRecDepth 20000 in
theorem gX5_sharedThen_X5_canRaise : GoodIn wsX5_sharedThen (wsV RX5 111 RX5 yX5_canRaise wsX5_canRaise) := goodIn_app (goodIn_of _ (by decide +kernel)) ggX5_sharedThen_X5_canRaise
set_option maxRecDepth 20000 in
theorem ggX5_sharedThen_X5_canLower : GoodIn wsX5_sharedThen wsX5_canLower := goodIn_r _ [30, 6, 7, 8, 4, 9, 10, 11, 12, 13, 14, 84, 85, 86, 87, 88, 89, 90, 91, 92, 93, 94, 95, 96] (by decide +kernel) (by decide +kernel)
set_option maxRecDepth 20000 in
theorem gX5_sharedThen_X5_canLower : GoodIn wsX5_sharedThen (wsV RX5 117 RX5 yX5_canLower wsX5_canLower) := goodIn_app (goodIn_of _ (by decide +kernel)) ggX5_sharedThen_X5_canLower
set_option maxRecDepth 20000 in
theorem ggX5_sharedThen_X5_keepShare : GoodIn wsX5_sharedThen wsX5_keepShare := goodIn_r _ [34, 35, 14, 10, 11, 12, 4, 13, 84, 85, 86, 87, 88, 89, 90, 91, 92, 93, 94, 95, 96] (by decide +kernel) (by decide +kernel)
set_option maxRecDepth 20000 in
theorem gX5_sharedThen_X5_keepShare : GoodIn wsX5_sharedThen (wsV RX5 220 RX5 yX5_keepShare wsX5_keepShare) := goodIn_app (goodIn_of _ (by decide +kernel)) ggX5_sharedThen_X5_keepShare
set_option maxRecDepth 20000 in
theorem ggX5_sharedThen_X5_setShare : GoodIn wsX5_sharedThen wsX5_setShare := goodIn_r _ [39, 10, 11, 12, 4, 13, 14, 19, 20, 21, 22, 40, 41, 42, 43, 44, 45, 46, 47, 48, 49, 50, 51, 84, 85, 86, 87, 88, 89, 90, 91, 92, 93, 94, 95, 96] (by decide +kernel) (by decide +kernel)
set_option maxRecDepth 20000 in
theorem gX5_sharedThen_X5_setShare : GoodIn wsX5_sharedThen (wsV RX5 92 RX5 yX5_setShare wsX5_setShare) := goodIn_app (goodIn_of _ (by decide +kernel)) ggX5_sharedThen_X5_setShare
set_option maxRecDepth 20000 in
theorem ggX5_sharedThen_X5_eaters : GoodIn wsX5_sharedThen wsX5_eaters := goodIn_r _ [55, 56, 57, 58, 4, 59, 6, 7, 8, 9, 10, 11, 12, 13, 14, 60, 61, 62, 63, 64, 65, 66, 67, 19, 20, 21, 22, 68, 69, 70, 71, 72, 73, 74, 75, 76, 77, 78, 79, 84, 85, 86, 87, 88, 89, 90, 91, 92, 93, 94, 95, 96] (by decide +kernel) (by decide +kernel)
set_option maxRecDepth 20000 in
theorem gX5_sharedThen_X5_eaters : GoodIn wsX5_sharedThen (wsV RX5 114 RX5 yX5_eaters wsX5_eaters) := goodIn_app (goodIn_of _ (by decide +kernel)) ggX5_sharedThen_X5_eaters
set_option maxRecDepth 20000 in
theorem ggX5_sharedThen_X5_layBack : GoodIn wsX5_sharedThen wsX5_layBack := goodIn_r _ [83, 14, 35, 48, 49, 50, 4, 51, 84, 85, 86, 87, 88, 89, 90, 91, 92, 93, 94, 95, 96] (by decide +kernel) (by decide +kernel)
set_option maxRecDepth 20000 in
theorem gX5_sharedThen_X5_layBack : GoodIn wsX5_sharedThen (wsV RX5 223 RX5 yX5_layBack wsX5_layBack) := goodIn_app (goodIn_of _ (by decide +kernel)) ggX5_sharedThen_X5_layBack
theorem dX5_sharedThen_0 : decode cX5_sharedThen 0 = .ok (.aload_n 0, 1) := by decide +kernel
theorem dX5_sharedThen_1 : decode cX5_sharedThen 1 = .ok (.iload_n 1, 1) := by decide +kernel
theorem dX5_sharedThen_2 : decode cX5_sharedThen 2 = .ok (.iload_n 2, 1) := by decide +kernel
theorem dX5_sharedThen_3 : decode cX5_sharedThen 3 = .ok (.invokevirtual 111, 3) := by decide +kernel
theorem dX5_sharedThen_6 : decode cX5_sharedThen 6 = .ok (.ifCond .ne 14, 3) := by decide +kernel
theorem dX5_sharedThen_9 : decode cX5_sharedThen 9 = .ok (.aload_n 0, 1) := by decide +kernel
theorem dX5_sharedThen_10 : decode cX5_sharedThen 10 = .ok (.iload_n 1, 1) := by decide +kernel
theorem dX5_sharedThen_11 : decode cX5_sharedThen 11 = .ok (.iload_n 2, 1) := by decide +kernel
theorem dX5_sharedThen_12 : decode cX5_sharedThen 12 = .ok (.invokevirtual 117, 3) := by decide +kernel
theorem dX5_sharedThen_15 : decode cX5_sharedThen 15 = .ok (.ifCond .ne 5, 3) := by decide +kernel
theorem dX5_sharedThen_18 : decode cX5_sharedThen 18 = .ok (.iconst (-1), 1) := by decide +kernel
theorem dX5_sharedThen_19 : decode cX5_sharedThen 19 = .ok (.ireturn, 1) := by decide +kernel
theorem dX5_sharedThen_20 : decode cX5_sharedThen 20 = .ok (.aload_n 0, 1) := by decide +kernel
theorem dX5_sharedThen_21 : decode cX5_sharedThen 21 = .ok (.iload_n 1, 1) := by decide +kernel
theorem dX5_sharedThen_22 : decode cX5_sharedThen 22 = .ok (.invokevirtual 220, 3) := by decide +kernel
theorem dX5_sharedThen_25 : decode cX5_sharedThen 25 = .ok (.istore_n 3, 1) := by decide +kernel
theorem dX5_sharedThen_26 : decode cX5_sharedThen 26 = .ok (.aload_n 0, 1) := by decide +kernel
theorem dX5_sharedThen_27 : decode cX5_sharedThen 27 = .ok (.iload_n 1, 1) := by decide +kernel
theorem dX5_sharedThen_28 : decode cX5_sharedThen 28 = .ok (.iload_n 2, 1) := by decide +kernel
theorem dX5_sharedThen_29 : decode cX5_sharedThen 29 = .ok (.invokevirtual 92, 3) := by decide +kernel
theorem dX5_sharedThen_32 : decode cX5_sharedThen 32 = .ok (.aload_n 0, 1) := by decide +kernel
theorem dX5_sharedThen_33 : decode cX5_sharedThen 33 = .ok (.iload_n 1, 1) := by decide +kernel
theorem dX5_sharedThen_34 : decode cX5_sharedThen 34 = .ok (.invokevirtual 114, 3) := by decide +kernel
theorem dX5_sharedThen_37 : decode cX5_sharedThen 37 = .ok (.istore 4, 2) := by decide +kernel
theorem dX5_sharedThen_39 : decode cX5_sharedThen 39 = .ok (.aload_n 0, 1) := by decide +kernel
theorem dX5_sharedThen_40 : decode cX5_sharedThen 40 = .ok (.iload_n 1, 1) := by decide +kernel
theorem dX5_sharedThen_41 : decode cX5_sharedThen 41 = .ok (.iload_n 3, 1) := by decide +kernel
theorem dX5_sharedThen_42 : decode cX5_sharedThen 42 = .ok (.invokevirtual 223, 3) := by decide +kernel
theorem dX5_sharedThen_45 : decode cX5_sharedThen 45 = .ok (.iload 4, 2) := by decide +kernel
theorem dX5_sharedThen_47 : decode cX5_sharedThen 47 = .ok (.ireturn, 1) := by decide +kernel
set_option maxRecDepth 20000 in
theorem ggX5_ifShare_X5_isBread : GoodIn wsX5_ifShare wsX5_isBread := goodIn_r _ [6, 7, 8, 9, 5, 10, 99, 100, 101, 102, 103, 104, 105, 106, 107, 108, 109, 110, 111] (by decide +kernel) (by decide +kernel)
set_option maxRecDepth 20000 in
theorem gX5_ifShare_X5_isBread : GoodIn wsX5_ifShare (wsV RX5 96 RX5 yX5_isBread wsX5_isBread) := goodIn_app (goodIn_of _ (by decide +kernel)) ggX5_ifShare_X5_isBread
set_option maxRecDepth 20000 in
theorem ggX5_ifShare_X5_isShare : GoodIn wsX5_ifShare wsX5_isShare := goodIn_r _ [13, 8, 9, 5, 10] (by decide +kernel) (by decide +kernel)
set_option maxRecDepth 20000 in
theorem gX5_ifShare_X5_isShare : GoodIn wsX5_ifShare (va_wsS RX5 108 yX5_isShare wsX5_isShare) := goodIn_app (goodIn_of _ (by decide +kernel)) ggX5_ifShare_X5_isShare
set_option maxRecDepth 20000 in
theorem ggX5_ifShare_X5_sharedThen : GoodIn wsX5_ifShare wsX5_sharedThen := goodIn_r _ [17, 18, 19, 20, 5, 21, 22, 23, 24, 25, 26, 27, 28, 29, 7, 30, 31, 32, 33, 34, 35, 36, 37, 38, 39, 40, 41, 42, 43, 44, 45, 46, 47, 48, 49, 50, 51, 52, 53, 54, 55, 56, 57, 58, 59, 60, 61, 62, 63, 64, 65, 66, 67, 68, 69, 70, 71, 72, 73, 74, 75, 76, 77, 78, 79, 80, 81, 82, 83, 84, 85, 86, 87, 88, 89, 90, 91, 92, 93, 94, 95, 96, 97, 98, 99, 100, 101, 102, 103, 104, 105, 106, 107, 108, 109, 110, 111] (by decide +kernel) (by decide +kernel)
set_option maxRecDepth 20000 in
theorem gX5_ifShare_X5_sharedThen : GoodIn wsX5_ifShare (wsV RX5 226 RX5 yX5_sharedThen wsX5_sharedThen) := goodIn_app (goodIn_of _ (by decide +kernel)) ggX5_ifShare_X5_sharedThen
theorem dX5_ifShare_0 : decode cX5_ifShare 0 = .ok (.aload_n 0, 1) := by decide +kernel
theorem dX5_ifShare_1 : decode cX5_ifShare 1 = .ok (.aload_n 0, 1) := by decide +kernel
theorem dX5_ifShare_2 : decode cX5_ifShare 2 = .ok (.iload_n 1, 1) := by decide +kernel
theorem dX5_ifShare_3 : decode cX5_ifShare 3 = .ok (.invokevirtual 96, 3) := by decide +kernel
theorem dX5_ifShare_6 : decode cX5_ifShare 6 = .ok (.ifCond .ne 7, 3) := by decide +kernel
theorem dX5_ifShare_9 : decode cX5_ifShare 9 = .ok (.iconst 1, 1) := by decide +kernel
theorem dX5_ifShare_10 : decode cX5_ifShare 10 = .ok (.goto 15, 3) := by decide +kernel
theorem dX5_ifShare_13 : decode cX5_ifShare 13 = .ok (.iload_n 2, 1) := by decide +kernel
theorem dX5_ifShare_14 : decode cX5_ifShare 14 = .ok (.invokestatic 108, 3) := by decide +kernel
theorem dX5_ifShare_17 : decode cX5_ifShare 17 = .ok (.ifCond .eq 7, 3) := by decide +kernel
theorem dX5_ifShare_20 : decode cX5_ifShare 20 = .ok (.iconst 0, 1) := by decide +kernel
theorem dX5_ifShare_21 : decode cX5_ifShare 21 = .ok (.goto 4, 3) := by decide +kernel
theorem dX5_ifShare_24 : decode cX5_ifShare 24 = .ok (.iconst 2, 1) := by decide +kernel
theorem dX5_ifShare_25 : decode cX5_ifShare 25 = .ok (.putfield 28, 3) := by decide +kernel
theorem dX5_ifShare_28 : decode cX5_ifShare 28 = .ok (.aload_n 0, 1) := by decide +kernel
theorem dX5_ifShare_29 : decode cX5_ifShare 29 = .ok (.getfield 28, 3) := by decide +kernel
theorem dX5_ifShare_32 : decode cX5_ifShare 32 = .ok (.ifCond .le 7, 3) := by decide +kernel
theorem dX5_ifShare_35 : decode cX5_ifShare 35 = .ok (.iconst 0, 1) := by decide +kernel
theorem dX5_ifShare_36 : decode cX5_ifShare 36 = .ok (.goto 9, 3) := by decide +kernel
theorem dX5_ifShare_39 : decode cX5_ifShare 39 = .ok (.aload_n 0, 1) := by decide +kernel
theorem dX5_ifShare_40 : decode cX5_ifShare 40 = .ok (.iload_n 1, 1) := by decide +kernel
theorem dX5_ifShare_41 : decode cX5_ifShare 41 = .ok (.iload_n 2, 1) := by decide +kernel
theorem dX5_ifShare_42 : decode cX5_ifShare 42 = .ok (.invokevirtual 226, 3) := by decide +kernel
theorem dX5_ifShare_45 : decode cX5_ifShare 45 = .ok (.ireturn, 1) := by decide +kernel
set_option maxRecDepth 20000 in
theorem ggX5_leastShare_X5_isOpen : GoodIn wsX5_leastShare wsX5_isOpen := goodIn_r _ [5, 6, 7, 8, 4, 9, 10, 88, 89, 90, 91, 92, 93, 94, 95, 96, 97, 98, 99, 100] (by decide +kernel) (by decide +kernel)
set_option maxRecDepth 20000 in
theorem gX5_leastShare_X5_isOpen : GoodIn wsX5_leastShare (wsV RX5 67 RX5 yX5_isOpen wsX5_isOpen) := goodIn_app (goodIn_of _ (by decide +kernel)) ggX5_leastShare_X5_isOpen
set_option maxRecDepth 20000 in
theorem ggX5_leastShare_X5_sharedThen : GoodIn wsX5_leastShare wsX5_sharedThen := goodIn_r _ [14, 15, 16, 17, 4, 18, 1, 2, 3, 5, 6, 7, 8, 9, 10, 19, 20, 21, 22, 23, 24, 25, 26, 27, 28, 29, 30, 31, 32, 33, 34, 35, 36, 37, 38, 39, 40, 41, 42, 43, 44, 45, 46, 47, 48, 49, 50, 51, 52, 53, 54, 55, 56, 57, 58, 59, 60, 61, 62, 63, 64, 65, 66, 67, 68, 69, 70, 71, 72, 73, 74, 75, 76, 77, 78, 79, 80, 81, 82, 83, 84, 85, 86, 87, 88, 89, 90, 91, 92, 93, 94, 95, 96, 97, 98, 99, 100] (by decide +kernel) (by decide +kernel)
set_option maxRecDepth 20000 in
theorem gX5_leastShare_X5_sharedThen : GoodIn wsX5_leastShare (wsV RX5 226 RX5 yX5_sharedThen wsX5_sharedThen) := goodIn_app (goodIn_of _ (by decide +kernel)) ggX5_leastShare_X5_sharedThen
theorem dX5_leastShare_0 : decode cX5_leastShare 0 = .ok (.iconst 0, 1) := by decide +kernel
theorem dX5_leastShare_1 : decode cX5_leastShare 1 = .ok (.istore_n 3, 1) := by decide +kernel
theorem dX5_leastShare_2 : decode cX5_leastShare 2 = .ok (.iload_n 3, 1) := by decide +kernel
theorem dX5_leastShare_3 : decode cX5_leastShare 3 = .ok (.bipush 100, 2) := by decide +kernel
theorem dX5_leastShare_5 : decode cX5_leastShare 5 = .ok (.if_icmp .gt 29, 3) := by decide +kernel
theorem dX5_leastShare_8 : decode cX5_leastShare 8 = .ok (.aload_n 0, 1) := by decide +kernel
theorem dX5_leastShare_9 : decode cX5_leastShare 9 = .ok (.iload_n 1, 1) := by decide +kernel
theorem dX5_leastShare_10 : decode cX5_leastShare 10 = .ok (.invokevirtual 67, 3) := by decide +kernel
theorem dX5_leastShare_13 : decode cX5_leastShare 13 = .ok (.ifCond .eq 21, 3) := by decide +kernel
theorem dX5_leastShare_16 : decode cX5_leastShare 16 = .ok (.aload_n 0, 1) := by decide +kernel
theorem dX5_leastShare_17 : decode cX5_leastShare 17 = .ok (.iload_n 1, 1) := by decide +kernel
theorem dX5_leastShare_18 : decode cX5_leastShare 18 = .ok (.iload_n 3, 1) := by decide +kernel
theorem dX5_leastShare_19 : decode cX5_leastShare 19 = .ok (.invokevirtual 226, 3) := by decide +kernel
theorem dX5_leastShare_22 : decode cX5_leastShare 22 = .ok (.iload_n 2, 1) := by decide +kernel
theorem dX5_leastShare_23 : decode cX5_leastShare 23 = .ok (.if_icmp .lt 5, 3) := by decide +kernel
theorem dX5_leastShare_26 : decode cX5_leastShare 26 = .ok (.iload_n 3, 1) := by decide +kernel
theorem dX5_leastShare_27 : decode cX5_leastShare 27 = .ok (.ireturn, 1) := by decide +kernel
theorem dX5_leastShare_28 : decode cX5_leastShare 28 = .ok (.iinc 3 1, 3) := by decide +kernel
theorem dX5_leastShare_31 : decode cX5_leastShare 31 = .ok (.goto (-29), 3) := by decide +kernel
theorem dX5_leastShare_34 : decode cX5_leastShare 34 = .ok (.iconst (-1), 1) := by decide +kernel
theorem dX5_leastShare_35 : decode cX5_leastShare 35 = .ok (.ireturn, 1) := by decide +kernel
set_option maxRecDepth 20000 in
theorem ggX5_shareFor_X5_isBread : GoodIn wsX5_shareFor wsX5_isBread := goodIn_r _ [6, 7, 8, 9, 5, 10, 100, 101, 102, 103, 104, 105, 106, 107, 108, 109, 110, 111, 112] (by decide +kernel) (by decide +kernel)
set_option maxRecDepth 20000 in
theorem gX5_shareFor_X5_isBread : GoodIn wsX5_shareFor (wsV RX5 96 RX5 yX5_isBread wsX5_isBread) := goodIn_app (goodIn_of _ (by decide +kernel)) ggX5_shareFor_X5_isBread
set_option maxRecDepth 20000 in
theorem ggX5_shareFor_X5_within : GoodIn wsX5_shareFor wsX5_within := goodIn_r _ [10] (by decide +kernel) (by decide +kernel)
set_option maxRecDepth 20000 in
theorem gX5_shareFor_X5_within : GoodIn wsX5_shareFor (va_wsS RX5 35 yX5_within wsX5_within) := goodIn_app (goodIn_of _ (by decide +kernel)) ggX5_shareFor_X5_within
set_option maxRecDepth 20000 in
theorem ggX5_shareFor_X5_leastShare : GoodIn wsX5_shareFor wsX5_leastShare := goodIn_r _ [14, 15, 16, 17, 5, 18, 19, 20, 21, 22, 7, 23, 24, 25, 26, 27, 28, 29, 30, 31, 32, 33, 34, 35, 36, 37, 38, 39, 40, 41, 42, 43, 44, 45, 46, 47, 48, 49, 50, 51, 52, 53, 54, 55, 56, 57, 58, 59, 60, 61, 62, 63, 64, 65, 66, 67, 68, 69, 70, 71, 72, 73, 74, 75, 76, 77, 78, 79, 80, 81, 82, 83, 84, 85, 86, 87, 88, 89, 90, 91, 92, 93, 94, 95, 96, 97, 98, 99, 100, 101, 102, 103, 104, 105, 106, 107, 108, 109, 110, 111, 112] (by decide +kernel) (by decide +kernel)
set_option maxRecDepth 20000 in
theorem gX5_shareFor_X5_leastShare : GoodIn wsX5_shareFor (wsV RX5 229 RX5 yX5_leastShare wsX5_leastShare) := goodIn_app (goodIn_of _ (by decide +kernel)) ggX5_shareFor_X5_leastShare
theorem dX5_shareFor_0 : decode cX5_shareFor 0 = .ok (.aload_n 0, 1) := by decide +kernel
theorem dX5_shareFor_1 : decode cX5_shareFor 1 = .ok (.aload_n 0, 1) := by decide +kernel
theorem dX5_shareFor_2 : decode cX5_shareFor 2 = .ok (.iload_n 1, 1) := by decide +kernel
theorem dX5_shareFor_3 : decode cX5_shareFor 3 = .ok (.invokevirtual 96, 3) := by decide +kernel
theorem dX5_shareFor_6 : decode cX5_shareFor 6 = .ok (.ifCond .ne 7, 3) := by decide +kernel
theorem dX5_shareFor_9 : decode cX5_shareFor 9 = .ok (.iconst 1, 1) := by decide +kernel
theorem dX5_shareFor_10 : decode cX5_shareFor 10 = .ok (.goto 19, 3) := by decide +kernel
theorem dX5_shareFor_13 : decode cX5_shareFor 13 = .ok (.iload_n 2, 1) := by decide +kernel
theorem dX5_shareFor_14 : decode cX5_shareFor 14 = .ok (.iconst 0, 1) := by decide +kernel
theorem dX5_shareFor_15 : decode cX5_shareFor 15 = .ok (.sipush 150, 3) := by decide +kernel
theorem dX5_shareFor_18 : decode cX5_shareFor 18 = .ok (.invokestatic 35, 3) := by decide +kernel
theorem dX5_shareFor_21 : decode cX5_shareFor 21 = .ok (.ifCond .eq 7, 3) := by decide +kernel
theorem dX5_shareFor_24 : decode cX5_shareFor 24 = .ok (.iconst 0, 1) := by decide +kernel
theorem dX5_shareFor_25 : decode cX5_shareFor 25 = .ok (.goto 4, 3) := by decide +kernel
theorem dX5_shareFor_28 : decode cX5_shareFor 28 = .ok (.iconst 2, 1) := by decide +kernel
theorem dX5_shareFor_29 : decode cX5_shareFor 29 = .ok (.putfield 28, 3) := by decide +kernel
theorem dX5_shareFor_32 : decode cX5_shareFor 32 = .ok (.aload_n 0, 1) := by decide +kernel
theorem dX5_shareFor_33 : decode cX5_shareFor 33 = .ok (.getfield 28, 3) := by decide +kernel
theorem dX5_shareFor_36 : decode cX5_shareFor 36 = .ok (.ifCond .le 7, 3) := by decide +kernel
theorem dX5_shareFor_39 : decode cX5_shareFor 39 = .ok (.iconst 0, 1) := by decide +kernel
theorem dX5_shareFor_40 : decode cX5_shareFor 40 = .ok (.goto 9, 3) := by decide +kernel
theorem dX5_shareFor_43 : decode cX5_shareFor 43 = .ok (.aload_n 0, 1) := by decide +kernel
theorem dX5_shareFor_44 : decode cX5_shareFor 44 = .ok (.iload_n 1, 1) := by decide +kernel
theorem dX5_shareFor_45 : decode cX5_shareFor 45 = .ok (.iload_n 2, 1) := by decide +kernel
theorem dX5_shareFor_46 : decode cX5_shareFor 46 = .ok (.invokevirtual 229, 3) := by decide +kernel
theorem dX5_shareFor_49 : decode cX5_shareFor 49 = .ok (.ireturn, 1) := by decide +kernel
set_option maxRecDepth 20000 in
theorem ggX5_saltFor_X5_hasOwnSalt : GoodIn wsX5_saltFor wsX5_hasOwnSalt := goodIn_r _ [5, 6, 7, 8, 4, 9, 10, 11, 12, 13, 14, 15, 16, 17, 18, 57, 58, 59, 60, 61, 62, 63, 64, 65, 66, 67, 68, 69] (by decide +kernel) (by decide +kernel)
set_option maxRecDepth 20000 in
theorem gX5_saltFor_X5_hasOwnSalt : GoodIn wsX5_saltFor (wsV RX5 120 RX5 yX5_hasOwnSalt wsX5_hasOwnSalt) := goodIn_app (goodIn_of _ (by decide +kernel)) ggX5_saltFor_X5_hasOwnSalt
set_option maxRecDepth 20000 in
theorem ggX5_saltFor_X5_of : GoodIn wsX5_saltFor wsX5_of := goodIn_r _ [13, 14, 57, 58, 59, 60, 61, 62, 63, 64, 65, 66, 67, 68, 69] (by decide +kernel) (by decide +kernel)
set_option maxRecDepth 20000 in
theorem gX5_saltFor_X5_of : GoodIn wsX5_saltFor (wsV RX5 39 RX5 yX5_of wsX5_of) := goodIn_app (goodIn_of _ (by decide +kernel)) ggX5_saltFor_X5_of
set_option maxRecDepth 20000 in
theorem ggX5_saltFor_X5_isSalt : GoodIn wsX5_saltFor wsX5_isSalt := goodIn_r _ [21, 22, 23, 4, 24] (by decide +kernel) (by decide +kernel)
set_option maxRecDepth 20000 in
theorem gX5_saltFor_X5_isSalt : GoodIn wsX5_saltFor (va_wsS RX5 86 yX5_isSalt wsX5_isSalt) := goodIn_app (goodIn_of _ (by decide +kernel)) ggX5_saltFor_X5_isSalt
set_option maxRecDepth 20000 in
theorem ggX5_saltFor_X5_put : GoodIn wsX5_saltFor wsX5_put := goodIn_r _ [28, 14, 57, 58, 59, 60, 61, 62, 63, 64, 65, 66, 67, 68, 69] (by decide +kernel) (by decide +kernel)
set_option maxRecDepth 20000 in
theorem gX5_saltFor_X5_put : GoodIn wsX5_saltFor (wsV RX5 63 RX5 yX5_put wsX5_put) := goodIn_app (goodIn_of _ (by decide +kernel)) ggX5_saltFor_X5_put
set_option maxRecDepth 20000 in
theorem ggX5_saltFor_X5_eaters : GoodIn wsX5_saltFor wsX5_eaters := goodIn_r _ [32, 33, 34, 35, 4, 36, 6, 7, 8, 9, 10, 11, 12, 13, 14, 37, 38, 39, 40, 41, 42, 43, 44, 15, 16, 17, 18, 45, 46, 47, 48, 49, 50, 51, 52, 53, 54, 55, 56, 57, 58, 59, 60, 61, 62, 63, 64, 65, 66, 67, 68, 69] (by decide +kernel) (by decide +kernel)
set_option maxRecDepth 20000 in
theorem gX5_saltFor_X5_eaters : GoodIn wsX5_saltFor (wsV RX5 114 RX5 yX5_eaters wsX5_eaters) := goodIn_app (goodIn_of _ (by decide +kernel)) ggX5_saltFor_X5_eaters
theorem dX5_saltFor_0 : decode cX5_saltFor 0 = .ok (.aload_n 0, 1) := by decide +kernel
theorem dX5_saltFor_1 : decode cX5_saltFor 1 = .ok (.iload_n 1, 1) := by decide +kernel
theorem dX5_saltFor_2 : decode cX5_saltFor 2 = .ok (.invokevirtual 120, 3) := by decide +kernel
theorem dX5_saltFor_5 : decode cX5_saltFor 5 = .ok (.ifCond .ne 5, 3) := by decide +kernel
theorem dX5_saltFor_8 : decode cX5_saltFor 8 = .ok (.iconst (-1), 1) := by decide +kernel
theorem dX5_saltFor_9 : decode cX5_saltFor 9 = .ok (.ireturn, 1) := by decide +kernel
theorem dX5_saltFor_10 : decode cX5_saltFor 10 = .ok (.aload_n 0, 1) := by decide +kernel
theorem dX5_saltFor_11 : decode cX5_saltFor 11 = .ok (.iload_n 1, 1) := by decide +kernel
theorem dX5_saltFor_12 : decode cX5_saltFor 12 = .ok (.iconst 2, 1) := by decide +kernel
theorem dX5_saltFor_13 : decode cX5_saltFor 13 = .ok (.invokevirtual 39, 3) := by decide +kernel
theorem dX5_saltFor_16 : decode cX5_saltFor 16 = .ok (.istore_n 3, 1) := by decide +kernel
theorem dX5_saltFor_17 : decode cX5_saltFor 17 = .ok (.iconst (-1), 1) := by decide +kernel
theorem dX5_saltFor_18 : decode cX5_saltFor 18 = .ok (.istore 4, 2) := by decide +kernel
theorem dX5_saltFor_20 : decode cX5_saltFor 20 = .ok (.iconst (-1), 1) := by decide +kernel
theorem dX5_saltFor_21 : decode cX5_saltFor 21 = .ok (.istore 5, 2) := by decide +kernel
theorem dX5_saltFor_23 : decode cX5_saltFor 23 = .ok (.iload_n 2, 1) := by decide +kernel
theorem dX5_saltFor_24 : decode cX5_saltFor 24 = .ok (.istore 6, 2) := by decide +kernel
theorem dX5_saltFor_26 : decode cX5_saltFor 26 = .ok (.iload 6, 2) := by decide +kernel
theorem dX5_saltFor_28 : decode cX5_saltFor 28 = .ok (.iload_n 2, 1) := by decide +kernel
theorem dX5_saltFor_29 : decode cX5_saltFor 29 = .ok (.bipush 20, 2) := by decide +kernel
theorem dX5_saltFor_31 : decode cX5_saltFor 31 = .ok (.iadd, 1) := by decide +kernel
theorem dX5_saltFor_32 : decode cX5_saltFor 32 = .ok (.if_icmp .ge 64, 3) := by decide +kernel
theorem dX5_saltFor_35 : decode cX5_saltFor 35 = .ok (.iload 6, 2) := by decide +kernel
theorem dX5_saltFor_37 : decode cX5_saltFor 37 = .ok (.invokestatic 86, 3) := by decide +kernel
theorem dX5_saltFor_40 : decode cX5_saltFor 40 = .ok (.ifCond .eq 56, 3) := by decide +kernel
theorem dX5_saltFor_43 : decode cX5_saltFor 43 = .ok (.aload_n 0, 1) := by decide +kernel
theorem dX5_saltFor_44 : decode cX5_saltFor 44 = .ok (.iload_n 1, 1) := by decide +kernel
theorem dX5_saltFor_45 : decode cX5_saltFor 45 = .ok (.iconst 2, 1) := by decide +kernel
theorem dX5_saltFor_46 : decode cX5_saltFor 46 = .ok (.iload 6, 2) := by decide +kernel
theorem dX5_saltFor_48 : decode cX5_saltFor 48 = .ok (.invokevirtual 63, 3) := by decide +kernel
theorem dX5_saltFor_51 : decode cX5_saltFor 51 = .ok (.aload_n 0, 1) := by decide +kernel
theorem dX5_saltFor_52 : decode cX5_saltFor 52 = .ok (.iload_n 1, 1) := by decide +kernel
theorem dX5_saltFor_53 : decode cX5_saltFor 53 = .ok (.invokevirtual 114, 3) := by decide +kernel
theorem dX5_saltFor_56 : decode cX5_saltFor 56 = .ok (.istore 7, 2) := by decide +kernel
theorem dX5_saltFor_58 : decode cX5_saltFor 58 = .ok (.iload 7, 2) := by decide +kernel
theorem dX5_saltFor_60 : decode cX5_saltFor 60 = .ok (.iload 5, 2) := by decide +kernel
theorem dX5_saltFor_62 : decode cX5_saltFor 62 = .ok (.if_icmp .le 8, 3) := by decide +kernel
theorem dX5_saltFor_65 : decode cX5_saltFor 65 = .ok (.iload 6, 2) := by decide +kernel
theorem dX5_saltFor_67 : decode cX5_saltFor 67 = .ok (.goto 5, 3) := by decide +kernel
theorem dX5_saltFor_70 : decode cX5_saltFor 70 = .ok (.iload 4, 2) := by decide +kernel
theorem dX5_saltFor_72 : decode cX5_saltFor 72 = .ok (.istore 4, 2) := by decide +kernel
theorem dX5_saltFor_74 : decode cX5_saltFor 74 = .ok (.iload 7, 2) := by decide +kernel
theorem dX5_saltFor_76 : decode cX5_saltFor 76 = .ok (.iload 5, 2) := by decide +kernel
theorem dX5_saltFor_78 : decode cX5_saltFor 78 = .ok (.if_icmp .le 8, 3) := by decide +kernel
theorem dX5_saltFor_81 : decode cX5_saltFor 81 = .ok (.iload 7, 2) := by decide +kernel
theorem dX5_saltFor_83 : decode cX5_saltFor 83 = .ok (.goto 5, 3) := by decide +kernel
theorem dX5_saltFor_86 : decode cX5_saltFor 86 = .ok (.iload 5, 2) := by decide +kernel
theorem dX5_saltFor_88 : decode cX5_saltFor 88 = .ok (.istore 5, 2) := by decide +kernel
theorem dX5_saltFor_90 : decode cX5_saltFor 90 = .ok (.iinc 6 1, 3) := by decide +kernel
theorem dX5_saltFor_93 : decode cX5_saltFor 93 = .ok (.goto (-67), 3) := by decide +kernel
theorem dX5_saltFor_96 : decode cX5_saltFor 96 = .ok (.aload_n 0, 1) := by decide +kernel
theorem dX5_saltFor_97 : decode cX5_saltFor 97 = .ok (.iload_n 1, 1) := by decide +kernel
theorem dX5_saltFor_98 : decode cX5_saltFor 98 = .ok (.iconst 2, 1) := by decide +kernel
theorem dX5_saltFor_99 : decode cX5_saltFor 99 = .ok (.iload_n 3, 1) := by decide +kernel
theorem dX5_saltFor_100 : decode cX5_saltFor 100 = .ok (.invokevirtual 63, 3) := by decide +kernel
theorem dX5_saltFor_103 : decode cX5_saltFor 103 = .ok (.iload 4, 2) := by decide +kernel
theorem dX5_saltFor_105 : decode cX5_saltFor 105 = .ok (.ireturn, 1) := by decide +kernel
set_option maxRecDepth 20000 in
theorem ggX5_bestSalt_X5_isBread : GoodIn wsX5_bestSalt wsX5_isBread := goodIn_r _ [6, 7, 8, 9, 5, 10, 66, 67, 68, 69, 70, 71, 72, 73, 74, 75, 76, 77, 78] (by decide +kernel) (by decide +kernel)
set_option maxRecDepth 20000 in
theorem gX5_bestSalt_X5_isBread : GoodIn wsX5_bestSalt (wsV RX5 96 RX5 yX5_isBread wsX5_isBread) := goodIn_app (goodIn_of _ (by decide +kernel)) ggX5_bestSalt_X5_isBread
set_option maxRecDepth 20000 in
theorem ggX5_bestSalt_X5_isSalt : GoodIn wsX5_bestSalt wsX5_isSalt := goodIn_r _ [13, 8, 9, 5, 10] (by decide +kernel) (by decide +kernel)
set_option maxRecDepth 20000 in
theorem gX5_bestSalt_X5_isSalt : GoodIn wsX5_bestSalt (va_wsS RX5 86 yX5_isSalt wsX5_isSalt) := goodIn_app (goodIn_of _ (by decide +kernel)) ggX5_bestSalt_X5_isSalt
set_option maxRecDepth 20000 in
theorem ggX5_bestSalt_X5_saltFor : GoodIn wsX5_bestSalt wsX5_saltFor := goodIn_r _ [17, 18, 19, 20, 5, 21, 22, 23, 24, 25, 26, 27, 28, 29, 7, 30, 31, 32, 33, 11, 12, 13, 8, 9, 10, 34, 35, 36, 37, 38, 39, 40, 41, 42, 43, 44, 45, 46, 47, 48, 49, 50, 51, 52, 53, 54, 55, 56, 57, 58, 59, 60, 61, 62, 63, 64, 65, 66, 67, 68, 69, 70, 71, 72, 73, 74, 75, 76, 77, 78] (by decide +kernel) (by decide +kernel)
set_option maxRecDepth 20000 in
theorem gX5_bestSalt_X5_saltFor : GoodIn wsX5_bestSalt (wsV RX5 232 RX5 yX5_saltFor wsX5_saltFor) := goodIn_app (goodIn_of _ (by decide +kernel)) ggX5_bestSalt_X5_saltFor
theorem dX5_bestSalt_0 : decode cX5_bestSalt 0 = .ok (.aload_n 0, 1) := by decide +kernel
theorem dX5_bestSalt_1 : decode cX5_bestSalt 1 = .ok (.aload_n 0, 1) := by decide +kernel
theorem dX5_bestSalt_2 : decode cX5_bestSalt 2 = .ok (.iload_n 1, 1) := by decide +kernel
theorem dX5_bestSalt_3 : decode cX5_bestSalt 3 = .ok (.invokevirtual 96, 3) := by decide +kernel
theorem dX5_bestSalt_6 : decode cX5_bestSalt 6 = .ok (.ifCond .ne 7, 3) := by decide +kernel
theorem dX5_bestSalt_9 : decode cX5_bestSalt 9 = .ok (.iconst 1, 1) := by decide +kernel
theorem dX5_bestSalt_10 : decode cX5_bestSalt 10 = .ok (.goto 15, 3) := by decide +kernel
theorem dX5_bestSalt_13 : decode cX5_bestSalt 13 = .ok (.iload_n 2, 1) := by decide +kernel
theorem dX5_bestSalt_14 : decode cX5_bestSalt 14 = .ok (.invokestatic 86, 3) := by decide +kernel
theorem dX5_bestSalt_17 : decode cX5_bestSalt 17 = .ok (.ifCond .eq 7, 3) := by decide +kernel
theorem dX5_bestSalt_20 : decode cX5_bestSalt 20 = .ok (.iconst 0, 1) := by decide +kernel
theorem dX5_bestSalt_21 : decode cX5_bestSalt 21 = .ok (.goto 4, 3) := by decide +kernel
theorem dX5_bestSalt_24 : decode cX5_bestSalt 24 = .ok (.iconst 2, 1) := by decide +kernel
theorem dX5_bestSalt_25 : decode cX5_bestSalt 25 = .ok (.putfield 28, 3) := by decide +kernel
theorem dX5_bestSalt_28 : decode cX5_bestSalt 28 = .ok (.aload_n 0, 1) := by decide +kernel
theorem dX5_bestSalt_29 : decode cX5_bestSalt 29 = .ok (.getfield 28, 3) := by decide +kernel
theorem dX5_bestSalt_32 : decode cX5_bestSalt 32 = .ok (.ifCond .le 7, 3) := by decide +kernel
theorem dX5_bestSalt_35 : decode cX5_bestSalt 35 = .ok (.iconst 0, 1) := by decide +kernel
theorem dX5_bestSalt_36 : decode cX5_bestSalt 36 = .ok (.goto 9, 3) := by decide +kernel
theorem dX5_bestSalt_39 : decode cX5_bestSalt 39 = .ok (.aload_n 0, 1) := by decide +kernel
theorem dX5_bestSalt_40 : decode cX5_bestSalt 40 = .ok (.iload_n 1, 1) := by decide +kernel
theorem dX5_bestSalt_41 : decode cX5_bestSalt 41 = .ok (.iload_n 2, 1) := by decide +kernel
theorem dX5_bestSalt_42 : decode cX5_bestSalt 42 = .ok (.invokevirtual 232, 3) := by decide +kernel
theorem dX5_bestSalt_45 : decode cX5_bestSalt 45 = .ok (.ireturn, 1) := by decide +kernel
set_option maxRecDepth 20000 in
theorem ggX5_newEater_X5_eatsNow : GoodIn wsX5_newEater wsX5_eatsNow := goodIn_r _ [6, 7, 8, 9, 5, 10, 11, 12, 13, 14, 15, 16, 17, 18, 19, 20, 21, 22, 23, 24, 25, 26, 27, 28, 29, 30, 31, 32, 33, 34, 35, 36, 37, 38, 39, 40, 41, 42, 43, 44, 45, 46, 47, 48, 49, 50, 51, 52] (by decide +kernel) (by decide +kernel)
set_option maxRecDepth 20000 in
theorem gX5_newEater_X5_eatsNow : GoodIn wsX5_newEater (wsV RX5 83 RX5 yX5_eatsNow wsX5_eatsNow) := goodIn_app (goodIn_of _ (by decide +kernel)) ggX5_newEater_X5_eatsNow
theorem dX5_newEater_0 : decode cX5_newEater 0 = .ok (.iconst 0, 1) := by decide +kernel
theorem dX5_newEater_1 : decode cX5_newEater 1 = .ok (.istore_n 2, 1) := by decide +kernel
theorem dX5_newEater_2 : decode cX5_newEater 2 = .ok (.iload_n 2, 1) := by decide +kernel
theorem dX5_newEater_3 : decode cX5_newEater 3 = .ok (.sipush 150, 3) := by decide +kernel
theorem dX5_newEater_6 : decode cX5_newEater 6 = .ok (.if_icmp .ge 29, 3) := by decide +kernel
theorem dX5_newEater_9 : decode cX5_newEater 9 = .ok (.aload_n 0, 1) := by decide +kernel
theorem dX5_newEater_10 : decode cX5_newEater 10 = .ok (.iload_n 2, 1) := by decide +kernel
theorem dX5_newEater_11 : decode cX5_newEater 11 = .ok (.iload_n 1, 1) := by decide +kernel
theorem dX5_newEater_12 : decode cX5_newEater 12 = .ok (.invokevirtual 83, 3) := by decide +kernel
theorem dX5_newEater_15 : decode cX5_newEater 15 = .ok (.ifCond .le 14, 3) := by decide +kernel
theorem dX5_newEater_18 : decode cX5_newEater 18 = .ok (.aload_n 0, 1) := by decide +kernel
theorem dX5_newEater_19 : decode cX5_newEater 19 = .ok (.getfield 19, 3) := by decide +kernel
theorem dX5_newEater_22 : decode cX5_newEater 22 = .ok (.iload_n 2, 1) := by decide +kernel
theorem dX5_newEater_23 : decode cX5_newEater 23 = .ok (.iaload, 1) := by decide +kernel
theorem dX5_newEater_24 : decode cX5_newEater 24 = .ok (.ifCond .ne 5, 3) := by decide +kernel
theorem dX5_newEater_27 : decode cX5_newEater 27 = .ok (.iload_n 2, 1) := by decide +kernel
theorem dX5_newEater_28 : decode cX5_newEater 28 = .ok (.ireturn, 1) := by decide +kernel
theorem dX5_newEater_29 : decode cX5_newEater 29 = .ok (.iinc 2 1, 3) := by decide +kernel
theorem dX5_newEater_32 : decode cX5_newEater 32 = .ok (.goto (-30), 3) := by decide +kernel
theorem dX5_newEater_35 : decode cX5_newEater 35 = .ok (.iconst (-1), 1) := by decide +kernel
theorem dX5_newEater_36 : decode cX5_newEater 36 = .ok (.ireturn, 1) := by decide +kernel
set_option maxRecDepth 20000 in
theorem ggX5_nextNow_X5_keepShare : GoodIn wsX5_nextNow wsX5_keepShare := goodIn_r _ [5, 6, 7, 8, 9, 10, 4, 11, 85, 86, 87, 88, 89, 90, 91, 92, 93, 94, 95, 96, 97] (by decide +kernel) (by decide +kernel)
set_option maxRecDepth 20000 in
theorem gX5_nextNow_X5_keepShare : GoodIn wsX5_nextNow (wsV RX5 220 RX5 yX5_keepShare wsX5_keepShare) := goodIn_app (goodIn_of _ (by decide +kernel)) ggX5_nextNow_X5_keepShare
set_option maxRecDepth 20000 in
theorem ggX5_nextNow_X5_layAhead : GoodIn wsX5_nextNow wsX5_layAhead := goodIn_r _ [15, 16, 17, 18, 19, 4, 20, 21, 22, 23, 24, 8, 9, 10, 11, 7, 25, 26, 27, 28, 29, 30, 31, 32, 33, 34, 35, 36, 37, 38, 39, 40, 41, 42, 43, 44, 45, 46, 47, 48, 85, 86, 87, 88, 89, 90, 91, 92, 93, 94, 95, 96, 97] (by decide +kernel) (by decide +kernel)
set_option maxRecDepth 20000 in
theorem gX5_nextNow_X5_layAhead : GoodIn wsX5_nextNow (wsV RX5 123 RX5 yX5_layAhead wsX5_layAhead) := goodIn_app (goodIn_of _ (by decide +kernel)) ggX5_nextNow_X5_layAhead
set_option maxRecDepth 20000 in
theorem ggX5_nextNow_X5_canRaise : GoodIn wsX5_nextNow wsX5_canRaise := goodIn_r _ [52, 21, 22, 23, 4, 24, 8, 9, 10, 11, 7, 53, 54, 55, 56, 33, 34, 35, 36, 57, 58, 59, 60, 85, 86, 87, 88, 89, 90, 91, 92, 93, 94, 95, 96, 97] (by decide +kernel) (by decide +kernel)
set_option maxRecDepth 20000 in
theorem gX5_nextNow_X5_canRaise : GoodIn wsX5_nextNow (wsV RX5 111 RX5 yX5_canRaise wsX5_canRaise) := goodIn_app (goodIn_of _ (by decide +kernel)) ggX5_nextNow_X5_canRaise
set_option maxRecDepth 20000 in
theorem ggX5_nextNow_X5_setShare : GoodIn wsX5_nextNow wsX5_setShare := goodIn_r _ [64, 8, 9, 10, 4, 11, 7, 33, 34, 35, 36, 65, 66, 67, 68, 69, 70, 71, 72, 73, 74, 75, 76, 85, 86, 87, 88, 89, 90, 91, 92, 93, 94, 95, 96, 97] (by decide +kernel) (by decide +kernel)
set_option maxRecDepth 20000 in
theorem gX5_nextNow_X5_setShare : GoodIn wsX5_nextNow (wsV RX5 92 RX5 yX5_setShare wsX5_setShare) := goodIn_app (goodIn_of _ (by decide +kernel)) ggX5_nextNow_X5_setShare
set_option maxRecDepth 20000 in
theorem ggX5_nextNow_X5_newEater : GoodIn wsX5_nextNow wsX5_newEater := goodIn_r _ [80, 16, 17, 18, 19, 4, 20, 21, 22, 23, 24, 8, 9, 10, 11, 7, 25, 26, 27, 28, 29, 30, 31, 32, 33, 34, 35, 36, 37, 38, 39, 40, 41, 42, 43, 44, 45, 46, 47, 48, 85, 86, 87, 88, 89, 90, 91, 92, 93, 94, 95, 96, 97] (by decide +kernel) (by decide +kernel)
set_option maxRecDepth 20000 in
theorem gX5_nextNow_X5_newEater : GoodIn wsX5_nextNow (wsV RX5 235 RX5 yX5_newEater wsX5_newEater) := goodIn_app (goodIn_of _ (by decide +kernel)) ggX5_nextNow_X5_newEater
set_option maxRecDepth 20000 in
theorem ggX5_nextNow_X5_layBack : GoodIn wsX5_nextNow wsX5_layBack := goodIn_r _ [84, 7, 6, 73, 74, 75, 4, 76, 85, 86, 87, 88, 89, 90, 91, 92, 93, 94, 95, 96, 97] (by decide +kernel) (by decide +kernel)
set_option maxRecDepth 20000 in
theorem gX5_nextNow_X5_layBack : GoodIn wsX5_nextNow (wsV RX5 223 RX5 yX5_layBack wsX5_layBack) := goodIn_app (goodIn_of _ (by decide +kernel)) ggX5_nextNow_X5_layBack
theorem dX5_nextNow_0 : decode cX5_nextNow 0 = .ok (.iconst (-1), 1) := by decide +kernel
theorem dX5_nextNow_1 : decode cX5_nextNow 1 = .ok (.istore_n 2, 1) := by decide +kernel
theorem dX5_nextNow_2 : decode cX5_nextNow 2 = .ok (.aload_n 0, 1) := by decide +kernel
theorem dX5_nextNow_3 : decode cX5_nextNow 3 = .ok (.iload_n 1, 1) := by decide +kernel
theorem dX5_nextNow_4 : decode cX5_nextNow 4 = .ok (.invokevirtual 220, 3) := by decide +kernel
theorem dX5_nextNow_7 : decode cX5_nextNow 7 = .ok (.istore_n 3, 1) := by decide +kernel
theorem dX5_nextNow_8 : decode cX5_nextNow 8 = .ok (.aload_n 0, 1) := by decide +kernel
theorem dX5_nextNow_9 : decode cX5_nextNow 9 = .ok (.iload_n 1, 1) := by decide +kernel
theorem dX5_nextNow_10 : decode cX5_nextNow 10 = .ok (.invokevirtual 123, 3) := by decide +kernel
theorem dX5_nextNow_13 : decode cX5_nextNow 13 = .ok (.iload_n 3, 1) := by decide +kernel
theorem dX5_nextNow_14 : decode cX5_nextNow 14 = .ok (.iconst 1, 1) := by decide +kernel
theorem dX5_nextNow_15 : decode cX5_nextNow 15 = .ok (.iadd, 1) := by decide +kernel
theorem dX5_nextNow_16 : decode cX5_nextNow 16 = .ok (.istore 4, 2) := by decide +kernel
theorem dX5_nextNow_18 : decode cX5_nextNow 18 = .ok (.iload 4, 2) := by decide +kernel
theorem dX5_nextNow_20 : decode cX5_nextNow 20 = .ok (.bipush 100, 2) := by decide +kernel
theorem dX5_nextNow_22 : decode cX5_nextNow 22 = .ok (.if_icmp .gt 37, 3) := by decide +kernel
theorem dX5_nextNow_25 : decode cX5_nextNow 25 = .ok (.iload_n 2, 1) := by decide +kernel
theorem dX5_nextNow_26 : decode cX5_nextNow 26 = .ok (.iconst (-1), 1) := by decide +kernel
theorem dX5_nextNow_27 : decode cX5_nextNow 27 = .ok (.if_icmp .ne 32, 3) := by decide +kernel
theorem dX5_nextNow_30 : decode cX5_nextNow 30 = .ok (.aload_n 0, 1) := by decide +kernel
theorem dX5_nextNow_31 : decode cX5_nextNow 31 = .ok (.iload_n 1, 1) := by decide +kernel
theorem dX5_nextNow_32 : decode cX5_nextNow 32 = .ok (.iload 4, 2) := by decide +kernel
theorem dX5_nextNow_34 : decode cX5_nextNow 34 = .ok (.invokevirtual 111, 3) := by decide +kernel
theorem dX5_nextNow_37 : decode cX5_nextNow 37 = .ok (.ifCond .eq 22, 3) := by decide +kernel
theorem dX5_nextNow_40 : decode cX5_nextNow 40 = .ok (.aload_n 0, 1) := by decide +kernel
theorem dX5_nextNow_41 : decode cX5_nextNow 41 = .ok (.iload_n 1, 1) := by decide +kernel
theorem dX5_nextNow_42 : decode cX5_nextNow 42 = .ok (.iload 4, 2) := by decide +kernel
theorem dX5_nextNow_44 : decode cX5_nextNow 44 = .ok (.invokevirtual 92, 3) := by decide +kernel
theorem dX5_nextNow_47 : decode cX5_nextNow 47 = .ok (.aload_n 0, 1) := by decide +kernel
theorem dX5_nextNow_48 : decode cX5_nextNow 48 = .ok (.iload_n 1, 1) := by decide +kernel
theorem dX5_nextNow_49 : decode cX5_nextNow 49 = .ok (.invokevirtual 235, 3) := by decide +kernel
theorem dX5_nextNow_52 : decode cX5_nextNow 52 = .ok (.istore_n 2, 1) := by decide +kernel
theorem dX5_nextNow_53 : decode cX5_nextNow 53 = .ok (.iinc 4 1, 3) := by decide +kernel
theorem dX5_nextNow_56 : decode cX5_nextNow 56 = .ok (.goto (-38), 3) := by decide +kernel
theorem dX5_nextNow_59 : decode cX5_nextNow 59 = .ok (.aload_n 0, 1) := by decide +kernel
theorem dX5_nextNow_60 : decode cX5_nextNow 60 = .ok (.iload_n 1, 1) := by decide +kernel
theorem dX5_nextNow_61 : decode cX5_nextNow 61 = .ok (.iload_n 3, 1) := by decide +kernel
theorem dX5_nextNow_62 : decode cX5_nextNow 62 = .ok (.invokevirtual 223, 3) := by decide +kernel
theorem dX5_nextNow_65 : decode cX5_nextNow 65 = .ok (.iload_n 2, 1) := by decide +kernel
theorem dX5_nextNow_66 : decode cX5_nextNow 66 = .ok (.ireturn, 1) := by decide +kernel
set_option maxRecDepth 20000 in
theorem ggX5_nextEater_X5_isBread : GoodIn wsX5_nextEater wsX5_isBread := goodIn_r _ [6, 7, 8, 9, 5, 10, 97, 98, 99, 100, 101, 102, 103, 104, 105, 106, 107, 108, 109] (by decide +kernel) (by decide +kernel)
set_option maxRecDepth 20000 in
theorem gX5_nextEater_X5_isBread : GoodIn wsX5_nextEater (wsV RX5 96 RX5 yX5_isBread wsX5_isBread) := goodIn_app (goodIn_of _ (by decide +kernel)) ggX5_nextEater_X5_isBread
set_option maxRecDepth 20000 in
theorem ggX5_nextEater_X5_nextNow : GoodIn wsX5_nextEater wsX5_nextNow := goodIn_r _ [14, 15, 16, 17, 5, 18, 19, 7, 20, 21, 22, 23, 24, 25, 26, 27, 28, 29, 30, 31, 32, 33, 34, 35, 36, 37, 38, 39, 40, 41, 42, 43, 44, 45, 46, 47, 48, 49, 50, 51, 52, 53, 54, 55, 56, 57, 58, 59, 60, 61, 62, 63, 64, 65, 66, 67, 68, 69, 70, 71, 72, 73, 74, 75, 76, 77, 78, 79, 80, 81, 82, 83, 84, 85, 86, 87, 88, 89, 90, 91, 92, 93, 94, 95, 96, 97, 98, 99, 100, 101, 102, 103, 104, 105, 106, 107, 108, 109] (by decide +kernel) (by decide +kernel)
set_option maxRecDepth 20000 in
theorem gX5_nextEater_X5_nextNow : GoodIn wsX5_nextEater (wsV RX5 238 RX5 yX5_nextNow wsX5_nextNow) := goodIn_app (goodIn_of _ (by decide +kernel)) ggX5_nextEater_X5_nextNow
theorem dX5_nextEater_0 : decode cX5_nextEater 0 = .ok (.aload_n 0, 1) := by decide +kernel
theorem dX5_nextEater_1 : decode cX5_nextEater 1 = .ok (.aload_n 0, 1) := by decide +kernel
theorem dX5_nextEater_2 : decode cX5_nextEater 2 = .ok (.iload_n 1, 1) := by decide +kernel
theorem dX5_nextEater_3 : decode cX5_nextEater 3 = .ok (.invokevirtual 96, 3) := by decide +kernel
theorem dX5_nextEater_6 : decode cX5_nextEater 6 = .ok (.ifCond .eq 7, 3) := by decide +kernel
theorem dX5_nextEater_9 : decode cX5_nextEater 9 = .ok (.iconst 0, 1) := by decide +kernel
theorem dX5_nextEater_10 : decode cX5_nextEater 10 = .ok (.goto 4, 3) := by decide +kernel
theorem dX5_nextEater_13 : decode cX5_nextEater 13 = .ok (.iconst 1, 1) := by decide +kernel
theorem dX5_nextEater_14 : decode cX5_nextEater 14 = .ok (.putfield 28, 3) := by decide +kernel
theorem dX5_nextEater_17 : decode cX5_nextEater 17 = .ok (.aload_n 0, 1) := by decide +kernel
theorem dX5_nextEater_18 : decode cX5_nextEater 18 = .ok (.getfield 28, 3) := by decide +kernel
theorem dX5_nextEater_21 : decode cX5_nextEater 21 = .ok (.ifCond .le 7, 3) := by decide +kernel
theorem dX5_nextEater_24 : decode cX5_nextEater 24 = .ok (.iconst 0, 1) := by decide +kernel
theorem dX5_nextEater_25 : decode cX5_nextEater 25 = .ok (.goto 8, 3) := by decide +kernel
theorem dX5_nextEater_28 : decode cX5_nextEater 28 = .ok (.aload_n 0, 1) := by decide +kernel
theorem dX5_nextEater_29 : decode cX5_nextEater 29 = .ok (.iload_n 1, 1) := by decide +kernel
theorem dX5_nextEater_30 : decode cX5_nextEater 30 = .ok (.invokevirtual 238, 3) := by decide +kernel
theorem dX5_nextEater_33 : decode cX5_nextEater 33 = .ok (.ireturn, 1) := by decide +kernel
set_option maxRecDepth 20000 in
theorem ggX5_partOf_X5_eaters : GoodIn wsX5_partOf wsX5_eaters := goodIn_r _ [6, 7, 8, 9, 5, 10, 11, 12, 13, 14, 15, 16, 17, 18, 19, 20, 21, 22, 23, 24, 25, 26, 27, 28, 29, 30, 31, 32, 33, 34, 35, 36, 37, 38, 39, 40, 41, 42, 43, 44, 45, 46, 47, 48, 49, 50, 51, 52, 53, 54, 55, 56] (by decide +kernel) (by decide +kernel)
set_option maxRecDepth 20000 in
theorem gX5_partOf_X5_eaters : GoodIn wsX5_partOf (wsV RX5 114 RX5 yX5_eaters wsX5_eaters) := goodIn_app (goodIn_of _ (by decide +kernel)) ggX5_partOf_X5_eaters
theorem dX5_partOf_0 : decode cX5_partOf 0 = .ok (.aload_n 0, 1) := by decide +kernel
theorem dX5_partOf_1 : decode cX5_partOf 1 = .ok (.iload_n 1, 1) := by decide +kernel
theorem dX5_partOf_2 : decode cX5_partOf 2 = .ok (.invokevirtual 114, 3) := by decide +kernel
theorem dX5_partOf_5 : decode cX5_partOf 5 = .ok (.i2d, 1) := by decide +kernel
theorem dX5_partOf_6 : decode cX5_partOf 6 = .ok (.ldc2_w 241, 3) := by decide +kernel
theorem dX5_partOf_9 : decode cX5_partOf 9 = .ok (.ddiv, 1) := by decide +kernel
theorem dX5_partOf_10 : decode cX5_partOf 10 = .ok (.dreturn, 1) := by decide +kernel
set_option maxRecDepth 20000 in
theorem ggX5_part_X5_isBread : GoodIn wsX5_part wsX5_isBread := goodIn_r _ [6, 7, 8, 9, 5, 10, 56, 57, 58, 59, 60, 61, 62, 63, 64, 65, 66, 67, 68] (by decide +kernel) (by decide +kernel)
set_option maxRecDepth 20000 in
theorem gX5_part_X5_isBread : GoodIn wsX5_part (wsV RX5 96 RX5 yX5_isBread wsX5_isBread) := goodIn_app (goodIn_of _ (by decide +kernel)) ggX5_part_X5_isBread
set_option maxRecDepth 20000 in
theorem ggX5_part_X5_partOf : GoodIn wsX5_part wsX5_partOf := goodIn_r _ [14, 15, 16, 17, 18, 5, 19, 20, 21, 22, 23, 24, 25, 26, 27, 28, 29, 30, 31, 7, 32, 33, 34, 35, 36, 37, 38, 39, 40, 41, 42, 43, 44, 45, 46, 47, 48, 49, 50, 51, 52, 53, 54, 55, 56, 57, 58, 59, 60, 61, 62, 63, 64, 65, 66, 67, 68] (by decide +kernel) (by decide +kernel)
set_option maxRecDepth 20000 in
theorem gX5_part_X5_partOf : GoodIn wsX5_part (wsV RX5 243 RX5 yX5_partOf wsX5_partOf) := goodIn_app (goodIn_of _ (by decide +kernel)) ggX5_part_X5_partOf
theorem dX5_part_0 : decode cX5_part 0 = .ok (.aload_n 0, 1) := by decide +kernel
theorem dX5_part_1 : decode cX5_part 1 = .ok (.aload_n 0, 1) := by decide +kernel
theorem dX5_part_2 : decode cX5_part 2 = .ok (.iload_n 1, 1) := by decide +kernel
theorem dX5_part_3 : decode cX5_part 3 = .ok (.invokevirtual 96, 3) := by decide +kernel
theorem dX5_part_6 : decode cX5_part 6 = .ok (.ifCond .eq 7, 3) := by decide +kernel
theorem dX5_part_9 : decode cX5_part 9 = .ok (.iconst 0, 1) := by decide +kernel
theorem dX5_part_10 : decode cX5_part 10 = .ok (.goto 4, 3) := by decide +kernel
theorem dX5_part_13 : decode cX5_part 13 = .ok (.iconst 1, 1) := by decide +kernel
theorem dX5_part_14 : decode cX5_part 14 = .ok (.putfield 28, 3) := by decide +kernel
theorem dX5_part_17 : decode cX5_part 17 = .ok (.aload_n 0, 1) := by decide +kernel
theorem dX5_part_18 : decode cX5_part 18 = .ok (.getfield 28, 3) := by decide +kernel
theorem dX5_part_21 : decode cX5_part 21 = .ok (.ifCond .le 7, 3) := by decide +kernel
theorem dX5_part_24 : decode cX5_part 24 = .ok (.dconst 0, 1) := by decide +kernel
theorem dX5_part_25 : decode cX5_part 25 = .ok (.goto 8, 3) := by decide +kernel
theorem dX5_part_28 : decode cX5_part 28 = .ok (.aload_n 0, 1) := by decide +kernel
theorem dX5_part_29 : decode cX5_part 29 = .ok (.iload_n 1, 1) := by decide +kernel
theorem dX5_part_30 : decode cX5_part 30 = .ok (.invokevirtual 243, 3) := by decide +kernel
theorem dX5_part_33 : decode cX5_part 33 = .ok (.dreturn, 1) := by decide +kernel
theorem dX5_mix_0 : decode cX5_mix 0 = .ok (.aload_n 0, 1) := by decide +kernel
theorem dX5_mix_1 : decode cX5_mix 1 = .ok (.ldc2_w 247, 3) := by decide +kernel
theorem dX5_mix_4 : decode cX5_mix 4 = .ok (.aload_n 0, 1) := by decide +kernel
theorem dX5_mix_5 : decode cX5_mix 5 = .ok (.getfield 249, 3) := by decide +kernel
theorem dX5_mix_8 : decode cX5_mix 8 = .ok (.lmul, 1) := by decide +kernel
theorem dX5_mix_9 : decode cX5_mix 9 = .ok (.lload_n 1, 1) := by decide +kernel
theorem dX5_mix_10 : decode cX5_mix 10 = .ok (.ladd, 1) := by decide +kernel
theorem dX5_mix_11 : decode cX5_mix 11 = .ok (.putfield 249, 3) := by decide +kernel
theorem dX5_mix_14 : decode cX5_mix 14 = .ok (.return_, 1) := by decide +kernel
set_option maxRecDepth 20000 in
theorem ggX5_mixBread_X5_breadNow : GoodIn wsX5_mixBread wsX5_breadNow := goodIn_r _ [5, 6, 7, 8, 4, 9, 10, 11, 12, 13, 14, 15, 16, 17, 18, 19, 20, 21, 22, 23, 24, 25, 26, 27, 28, 29, 30, 31, 32, 33, 34, 35, 36, 37, 38, 39, 40, 41, 42, 43, 44, 45, 46, 47, 48, 49, 50, 51, 52, 53, 54, 55, 56, 57, 58, 162, 163, 164, 165, 166, 167, 168, 169, 170, 171, 172, 173, 174] (by decide +kernel) (by decide +kernel)
set_option maxRecDepth 20000 in
theorem gX5_mixBread_X5_breadNow : GoodIn wsX5_mixBread (wsV RX5 193 RX5 yX5_breadNow wsX5_breadNow) := goodIn_app (goodIn_of _ (by decide +kernel)) ggX5_mixBread_X5_breadNow
set_option maxRecDepth 20000 in
theorem ggX5_mixBread_X5_mix : GoodIn wsX5_mixBread wsX5_mix := goodIn_r _ [62, 63, 64, 162, 163, 164, 165, 166, 167, 168, 169, 170, 171, 172, 173, 174] (by decide +kernel) (by decide +kernel)
set_option maxRecDepth 20000 in
theorem gX5_mixBread_X5_mix : GoodIn wsX5_mixBread (wsV RX5 253 RX5 yX5_mix wsX5_mix) := goodIn_app (goodIn_of _ (by decide +kernel)) ggX5_mixBread_X5_mix
set_option maxRecDepth 20000 in
theorem ggX5_mixBread_X5_bothEat : GoodIn wsX5_mixBread wsX5_bothEat := goodIn_r _ [68, 23, 24, 25, 4, 26, 27, 28, 29, 30, 6, 7, 8, 9, 10, 31, 32, 33, 34, 11, 12, 13, 14, 15, 16, 17, 18, 35, 36, 37, 38, 39, 40, 41, 42, 43, 44, 45, 46, 162, 163, 164, 165, 166, 167, 168, 169, 170, 171, 172, 173, 174] (by decide +kernel) (by decide +kernel)
set_option maxRecDepth 20000 in
theorem gX5_mixBread_X5_bothEat : GoodIn wsX5_mixBread (wsV RX5 217 RX5 yX5_bothEat wsX5_bothEat) := goodIn_app (goodIn_of _ (by decide +kernel)) ggX5_mixBread_X5_bothEat
set_option maxRecDepth 20000 in
theorem ggX5_mixBread_X5_sharedThen : GoodIn wsX5_mixBread wsX5_sharedThen := goodIn_r _ [72, 73, 74, 75, 4, 76, 27, 28, 29, 30, 6, 7, 8, 9, 10, 77, 78, 79, 80, 15, 16, 17, 18, 81, 82, 83, 84, 85, 86, 87, 88, 89, 90, 91, 92, 93, 94, 95, 96, 97, 98, 99, 100, 101, 102, 103, 104, 105, 106, 107, 108, 109, 19, 20, 21, 22, 23, 24, 25, 26, 31, 32, 33, 34, 11, 12, 13, 14, 35, 36, 37, 38, 39, 40, 41, 42, 43, 44, 45, 46, 110, 111, 112, 113, 162, 163, 164, 165, 166, 167, 168, 169, 170, 171, 172, 173, 174] (by decide +kernel) (by decide +kernel)
set_option maxRecDepth 20000 in
theorem gX5_mixBread_X5_sharedThen : GoodIn wsX5_mixBread (wsV RX5 226 RX5 yX5_sharedThen wsX5_sharedThen) := goodIn_app (goodIn_of _ (by decide +kernel)) ggX5_mixBread_X5_sharedThen
set_option maxRecDepth 20000 in
theorem ggX5_mixBread_X5_leastShare : GoodIn wsX5_mixBread wsX5_leastShare := goodIn_r _ [117, 27, 28, 29, 4, 30, 6, 7, 8, 9, 10, 69, 70, 71, 72, 73, 74, 75, 76, 77, 78, 79, 80, 15, 16, 17, 18, 81, 82, 83, 84, 85, 86, 87, 88, 89, 90, 91, 92, 93, 94, 95, 96, 97, 98, 99, 100, 101, 102, 103, 104, 105, 106, 107, 108, 109, 19, 20, 21, 22, 23, 24, 25, 26, 31, 32, 33, 34, 11, 12, 13, 14, 35, 36, 37, 38, 39, 40, 41, 42, 43, 44, 45, 46, 110, 111, 112, 113, 162, 163, 164, 165, 166, 167, 168, 169, 170, 171, 172, 173, 174] (by decide +kernel) (by decide +kernel)
set_option maxRecDepth 20000 in
theorem gX5_mixBread_X5_leastShare : GoodIn wsX5_mixBread (wsV RX5 229 RX5 yX5_leastShare wsX5_leastShare) := goodIn_app (goodIn_of _ (by decide +kernel)) ggX5_mixBread_X5_leastShare
set_option maxRecDepth 20000 in
theorem ggX5_mixBread_X5_saltFor : GoodIn wsX5_mixBread wsX5_saltFor := goodIn_r _ [121, 122, 123, 124, 4, 125, 27, 28, 29, 30, 6, 7, 8, 9, 10, 15, 16, 17, 18, 126, 127, 128, 129, 130, 131, 106, 107, 108, 109, 19, 20, 21, 22, 23, 24, 25, 26, 31, 32, 33, 34, 11, 12, 13, 14, 35, 36, 37, 38, 39, 40, 41, 42, 43, 44, 45, 46, 162, 163, 164, 165, 166, 167, 168, 169, 170, 171, 172, 173, 174] (by decide +kernel) (by decide +kernel)
set_option maxRecDepth 20000 in
theorem gX5_mixBread_X5_saltFor : GoodIn wsX5_mixBread (wsV RX5 232 RX5 yX5_saltFor wsX5_saltFor) := goodIn_app (goodIn_of _ (by decide +kernel)) ggX5_mixBread_X5_saltFor
set_option maxRecDepth 20000 in
theorem ggX5_mixBread_X5_nextNow : GoodIn wsX5_mixBread wsX5_nextNow := goodIn_r _ [135, 89, 90, 91, 4, 92, 93, 10, 6, 7, 8, 9, 136, 137, 138, 139, 140, 23, 24, 25, 26, 27, 28, 29, 30, 31, 32, 33, 34, 11, 12, 13, 14, 15, 16, 17, 18, 35, 36, 37, 38, 39, 40, 41, 42, 43, 44, 45, 46, 73, 74, 75, 76, 77, 78, 79, 80, 81, 82, 83, 84, 94, 95, 96, 97, 98, 99, 100, 101, 102, 103, 104, 105, 106, 107, 108, 109, 141, 142, 143, 144, 110, 111, 112, 113, 162, 163, 164, 165, 166, 167, 168, 169, 170, 171, 172, 173, 174] (by decide +kernel) (by decide +kernel)
set_option maxRecDepth 20000 in
theorem gX5_mixBread_X5_nextNow : GoodIn wsX5_mixBread (wsV RX5 238 RX5 yX5_nextNow wsX5_nextNow) := goodIn_app (goodIn_of _ (by decide +kernel)) ggX5_mixBread_X5_nextNow
set_option maxRecDepth 20000 in
theorem ggX5_mixBread_X5_partOf : GoodIn wsX5_mixBread wsX5_partOf := goodIn_r _ [148, 149, 19, 20, 21, 4, 22, 23, 24, 25, 26, 27, 28, 29, 30, 6, 7, 8, 9, 10, 31, 32, 33, 34, 11, 12, 13, 14, 15, 16, 17, 18, 35, 36, 37, 38, 39, 40, 41, 42, 43, 44, 45, 46, 162, 163, 164, 165, 166, 167, 168, 169, 170, 171, 172, 173, 174] (by decide +kernel) (by decide +kernel)
set_option maxRecDepth 20000 in
theorem gX5_mixBread_X5_partOf : GoodIn wsX5_mixBread (wsV RX5 243 RX5 yX5_partOf wsX5_partOf) := goodIn_app (goodIn_of _ (by decide +kernel)) ggX5_mixBread_X5_partOf
set_option maxRecDepth 20000 in
theorem ggX5_mixBread_Jxe99ae_doubleToLongBits_ccdee : GoodIn wsX5_mixBread wsJxe99ae_doubleToLongBits_ccdee := goodIn_r _ [153, 154, 155, 156, 157, 158, 159, 160, 152, 161] (by decide +kernel) (by decide +kernel)
set_option maxRecDepth 20000 in
theorem gX5_mixBread_Jxe99ae_doubleToLongBits_ccdee : GoodIn wsX5_mixBread (va_wsS RX5 257 yJxe99ae_doubleToLongBits_ccdee wsJxe99ae_doubleToLongBits_ccdee) := goodIn_app (goodIn_of _ (by decide +kernel)) ggX5_mixBread_Jxe99ae_doubleToLongBits_ccdee
set_option maxRecDepth 20000 in
theorem ggX5_mixBread_X5_eatsNow : GoodIn wsX5_mixBread wsX5_eatsNow := goodIn_r _ [26, 27, 28, 29, 4, 30, 6, 7, 8, 9, 10, 31, 32, 33, 34, 11, 12, 13, 14, 15, 16, 17, 18, 35, 36, 37, 38, 39, 40, 41, 42, 43, 44, 45, 46, 162, 163, 164, 165, 166, 167, 168, 169, 170, 171, 172, 173, 174] (by decide +kernel) (by decide +kernel)
set_option maxRecDepth 20000 in
theorem gX5_mixBread_X5_eatsNow : GoodIn wsX5_mixBread (wsV RX5 83 RX5 yX5_eatsNow wsX5_eatsNow) := goodIn_app (goodIn_of _ (by decide +kernel)) ggX5_mixBread_X5_eatsNow
theorem dX5_mixBread_0 : decode cX5_mixBread 0 = .ok (.iconst 0, 1) := by decide +kernel
theorem dX5_mixBread_1 : decode cX5_mixBread 1 = .ok (.istore_n 2, 1) := by decide +kernel
theorem dX5_mixBread_2 : decode cX5_mixBread 2 = .ok (.iload_n 2, 1) := by decide +kernel
theorem dX5_mixBread_3 : decode cX5_mixBread 3 = .ok (.bipush 12, 2) := by decide +kernel
theorem dX5_mixBread_5 : decode cX5_mixBread 5 = .ok (.if_icmp .ge 20, 3) := by decide +kernel
theorem dX5_mixBread_8 : decode cX5_mixBread 8 = .ok (.aload_n 0, 1) := by decide +kernel
theorem dX5_mixBread_9 : decode cX5_mixBread 9 = .ok (.aload_n 0, 1) := by decide +kernel
theorem dX5_mixBread_10 : decode cX5_mixBread 10 = .ok (.iload_n 1, 1) := by decide +kernel
theorem dX5_mixBread_11 : decode cX5_mixBread 11 = .ok (.iload_n 2, 1) := by decide +kernel
theorem dX5_mixBread_12 : decode cX5_mixBread 12 = .ok (.invokevirtual 193, 3) := by decide +kernel
theorem dX5_mixBread_15 : decode cX5_mixBread 15 = .ok (.i2l, 1) := by decide +kernel
theorem dX5_mixBread_16 : decode cX5_mixBread 16 = .ok (.invokevirtual 253, 3) := by decide +kernel
theorem dX5_mixBread_19 : decode cX5_mixBread 19 = .ok (.iinc 2 1, 3) := by decide +kernel
theorem dX5_mixBread_22 : decode cX5_mixBread 22 = .ok (.goto (-20), 3) := by decide +kernel
theorem dX5_mixBread_25 : decode cX5_mixBread 25 = .ok (.aload_n 0, 1) := by decide +kernel
theorem dX5_mixBread_26 : decode cX5_mixBread 26 = .ok (.aload_n 0, 1) := by decide +kernel
theorem dX5_mixBread_27 : decode cX5_mixBread 27 = .ok (.iload_n 1, 1) := by decide +kernel
theorem dX5_mixBread_28 : decode cX5_mixBread 28 = .ok (.iconst 0, 1) := by decide +kernel
theorem dX5_mixBread_29 : decode cX5_mixBread 29 = .ok (.invokevirtual 217, 3) := by decide +kernel
theorem dX5_mixBread_32 : decode cX5_mixBread 32 = .ok (.i2l, 1) := by decide +kernel
theorem dX5_mixBread_33 : decode cX5_mixBread 33 = .ok (.invokevirtual 253, 3) := by decide +kernel
theorem dX5_mixBread_36 : decode cX5_mixBread 36 = .ok (.aload_n 0, 1) := by decide +kernel
theorem dX5_mixBread_37 : decode cX5_mixBread 37 = .ok (.aload_n 0, 1) := by decide +kernel
theorem dX5_mixBread_38 : decode cX5_mixBread 38 = .ok (.iload_n 1, 1) := by decide +kernel
theorem dX5_mixBread_39 : decode cX5_mixBread 39 = .ok (.bipush 50, 2) := by decide +kernel
theorem dX5_mixBread_41 : decode cX5_mixBread 41 = .ok (.invokevirtual 226, 3) := by decide +kernel
theorem dX5_mixBread_44 : decode cX5_mixBread 44 = .ok (.i2l, 1) := by decide +kernel
theorem dX5_mixBread_45 : decode cX5_mixBread 45 = .ok (.invokevirtual 253, 3) := by decide +kernel
theorem dX5_mixBread_48 : decode cX5_mixBread 48 = .ok (.aload_n 0, 1) := by decide +kernel
theorem dX5_mixBread_49 : decode cX5_mixBread 49 = .ok (.aload_n 0, 1) := by decide +kernel
theorem dX5_mixBread_50 : decode cX5_mixBread 50 = .ok (.iload_n 1, 1) := by decide +kernel
theorem dX5_mixBread_51 : decode cX5_mixBread 51 = .ok (.bipush 75, 2) := by decide +kernel
theorem dX5_mixBread_53 : decode cX5_mixBread 53 = .ok (.invokevirtual 229, 3) := by decide +kernel
theorem dX5_mixBread_56 : decode cX5_mixBread 56 = .ok (.i2l, 1) := by decide +kernel
theorem dX5_mixBread_57 : decode cX5_mixBread 57 = .ok (.invokevirtual 253, 3) := by decide +kernel
theorem dX5_mixBread_60 : decode cX5_mixBread 60 = .ok (.aload_n 0, 1) := by decide +kernel
theorem dX5_mixBread_61 : decode cX5_mixBread 61 = .ok (.aload_n 0, 1) := by decide +kernel
theorem dX5_mixBread_62 : decode cX5_mixBread 62 = .ok (.iload_n 1, 1) := by decide +kernel
theorem dX5_mixBread_63 : decode cX5_mixBread 63 = .ok (.bipush 100, 2) := by decide +kernel
theorem dX5_mixBread_65 : decode cX5_mixBread 65 = .ok (.invokevirtual 232, 3) := by decide +kernel
theorem dX5_mixBread_68 : decode cX5_mixBread 68 = .ok (.i2l, 1) := by decide +kernel
theorem dX5_mixBread_69 : decode cX5_mixBread 69 = .ok (.invokevirtual 253, 3) := by decide +kernel
theorem dX5_mixBread_72 : decode cX5_mixBread 72 = .ok (.aload_n 0, 1) := by decide +kernel
theorem dX5_mixBread_73 : decode cX5_mixBread 73 = .ok (.aload_n 0, 1) := by decide +kernel
theorem dX5_mixBread_74 : decode cX5_mixBread 74 = .ok (.iload_n 1, 1) := by decide +kernel
theorem dX5_mixBread_75 : decode cX5_mixBread 75 = .ok (.invokevirtual 238, 3) := by decide +kernel
theorem dX5_mixBread_78 : decode cX5_mixBread 78 = .ok (.i2l, 1) := by decide +kernel
theorem dX5_mixBread_79 : decode cX5_mixBread 79 = .ok (.invokevirtual 253, 3) := by decide +kernel
theorem dX5_mixBread_82 : decode cX5_mixBread 82 = .ok (.aload_n 0, 1) := by decide +kernel
theorem dX5_mixBread_83 : decode cX5_mixBread 83 = .ok (.aload_n 0, 1) := by decide +kernel
theorem dX5_mixBread_84 : decode cX5_mixBread 84 = .ok (.iload_n 1, 1) := by decide +kernel
theorem dX5_mixBread_85 : decode cX5_mixBread 85 = .ok (.invokevirtual 243, 3) := by decide +kernel
theorem dX5_mixBread_88 : decode cX5_mixBread 88 = .ok (.invokestatic 257, 3) := by decide +kernel
theorem dX5_mixBread_91 : decode cX5_mixBread 91 = .ok (.invokevirtual 253, 3) := by decide +kernel
theorem dX5_mixBread_94 : decode cX5_mixBread 94 = .ok (.iconst 0, 1) := by decide +kernel
theorem dX5_mixBread_95 : decode cX5_mixBread 95 = .ok (.istore_n 2, 1) := by decide +kernel
theorem dX5_mixBread_96 : decode cX5_mixBread 96 = .ok (.iload_n 2, 1) := by decide +kernel
theorem dX5_mixBread_97 : decode cX5_mixBread 97 = .ok (.sipush 150, 3) := by decide +kernel
theorem dX5_mixBread_100 : decode cX5_mixBread 100 = .ok (.if_icmp .ge 20, 3) := by decide +kernel
theorem dX5_mixBread_103 : decode cX5_mixBread 103 = .ok (.aload_n 0, 1) := by decide +kernel
theorem dX5_mixBread_104 : decode cX5_mixBread 104 = .ok (.aload_n 0, 1) := by decide +kernel
theorem dX5_mixBread_105 : decode cX5_mixBread 105 = .ok (.iload_n 2, 1) := by decide +kernel
theorem dX5_mixBread_106 : decode cX5_mixBread 106 = .ok (.iload_n 1, 1) := by decide +kernel
theorem dX5_mixBread_107 : decode cX5_mixBread 107 = .ok (.invokevirtual 83, 3) := by decide +kernel
theorem dX5_mixBread_110 : decode cX5_mixBread 110 = .ok (.i2l, 1) := by decide +kernel
theorem dX5_mixBread_111 : decode cX5_mixBread 111 = .ok (.invokevirtual 253, 3) := by decide +kernel
theorem dX5_mixBread_114 : decode cX5_mixBread 114 = .ok (.iinc 2 1, 3) := by decide +kernel
theorem dX5_mixBread_117 : decode cX5_mixBread 117 = .ok (.goto (-21), 3) := by decide +kernel
theorem dX5_mixBread_120 : decode cX5_mixBread 120 = .ok (.return_, 1) := by decide +kernel
set_option maxRecDepth 20000 in
theorem ggX5_digest_X5_within : GoodIn wsX5_digest wsX5_within := goodIn_r _ [10] (by decide +kernel) (by decide +kernel)
set_option maxRecDepth 20000 in
theorem gX5_digest_X5_within : GoodIn wsX5_digest (va_wsS RX5 35 yX5_within wsX5_within) := goodIn_app (goodIn_of _ (by decide +kernel)) ggX5_digest_X5_within
set_option maxRecDepth 20000 in
theorem ggX5_digest_X5_counted : GoodIn wsX5_digest wsX5_counted := goodIn_r _ [14, 4, 15, 16, 17, 18, 9, 19, 20, 21, 22, 23, 24, 25, 26, 27, 28, 29, 30, 31, 32, 33, 34, 35, 36, 37, 38, 39, 40, 41, 42, 43, 44, 45, 46, 47, 48, 49, 50, 51, 52, 53, 54, 55, 56, 57, 58, 59, 60, 61, 62, 63, 64, 65, 66, 67, 68, 69, 70, 71, 72, 73, 74, 198, 199, 200, 201, 202, 203, 204, 205, 206, 207, 208, 209, 210] (by decide +kernel) (by decide +kernel)
set_option maxRecDepth 20000 in
theorem gX5_digest_X5_counted : GoodIn wsX5_digest (wsV RX5 214 RX5 yX5_counted wsX5_counted) := goodIn_app (goodIn_of _ (by decide +kernel)) ggX5_digest_X5_counted
set_option maxRecDepth 20000 in
theorem ggX5_digest_X5_mix : GoodIn wsX5_digest wsX5_mix := goodIn_r _ [78, 79, 3, 198, 199, 200, 201, 202, 203, 204, 205, 206, 207, 208, 209, 210] (by decide +kernel) (by decide +kernel)
set_option maxRecDepth 20000 in
theorem gX5_digest_X5_mix : GoodIn wsX5_digest (wsV RX5 253 RX5 yX5_mix wsX5_mix) := goodIn_app (goodIn_of _ (by decide +kernel)) ggX5_digest_X5_mix
set_option maxRecDepth 20000 in
theorem ggX5_digest_X5_mixBread : GoodIn wsX5_digest wsX5_mixBread := goodIn_r _ [83, 84, 85, 86, 9, 87, 24, 25, 26, 27, 4, 51, 52, 53, 54, 55, 56, 57, 58, 88, 89, 90, 91, 39, 40, 41, 42, 43, 44, 45, 46, 47, 48, 49, 50, 59, 60, 61, 62, 63, 64, 65, 66, 67, 68, 69, 70, 92, 93, 94, 95, 96, 97, 98, 99, 100, 101, 102, 103, 75, 76, 77, 78, 79, 3, 104, 105, 106, 107, 108, 109, 110, 111, 112, 113, 114, 115, 116, 117, 118, 119, 16, 17, 18, 19, 120, 121, 122, 123, 124, 125, 126, 127, 128, 129, 130, 131, 132, 133, 134, 135, 136, 137, 138, 139, 140, 141, 142, 143, 144, 145, 146, 147, 148, 149, 150, 151, 152, 153, 154, 155, 156, 157, 158, 159, 160, 161, 162, 163, 7, 8, 10, 164, 165, 166, 167, 168, 169, 170, 171, 172, 173, 174, 175, 176, 177, 178, 179, 180, 181, 182, 183, 184, 185, 186, 187, 188, 189, 190, 191, 192, 193, 198, 199, 200, 201, 202, 203, 204, 205, 206, 207, 208, 209, 210] (by decide +kernel) (by decide +kernel)
set_option maxRecDepth 20000 in
theorem gX5_digest_X5_mixBread : GoodIn wsX5_digest (wsV RX5 265 RX5 yX5_mixBread wsX5_mixBread) := goodIn_app (goodIn_of _ (by decide +kernel)) ggX5_digest_X5_mixBread
set_option maxRecDepth 20000 in
theorem ggX5_digest_X5_personNow : GoodIn wsX5_digest wsX5_personNow := goodIn_r _ [197, 4, 35, 36, 37, 9, 38, 39, 40, 41, 42, 43, 44, 45, 46, 24, 25, 26, 27, 47, 48, 49, 50, 51, 52, 53, 54, 55, 56, 57, 58, 59, 60, 61, 62, 63, 64, 65, 66, 67, 68, 69, 70, 198, 199, 200, 201, 202, 203, 204, 205, 206, 207, 208, 209, 210] (by decide +kernel) (by decide +kernel)
set_option maxRecDepth 20000 in
theorem gX5_digest_X5_personNow : GoodIn wsX5_digest (wsV RX5 199 RX5 yX5_personNow wsX5_personNow) := goodIn_app (goodIn_of _ (by decide +kernel)) ggX5_digest_X5_personNow
theorem dX5_digest_0 : decode cX5_digest 0 = .ok (.aload_n 0, 1) := by decide +kernel
theorem dX5_digest_1 : decode cX5_digest 1 = .ok (.iconst 0, 1) := by decide +kernel
theorem dX5_digest_2 : decode cX5_digest 2 = .ok (.putfield 28, 3) := by decide +kernel
theorem dX5_digest_5 : decode cX5_digest 5 = .ok (.aload_n 0, 1) := by decide +kernel
theorem dX5_digest_6 : decode cX5_digest 6 = .ok (.ldc2_w 263, 3) := by decide +kernel
theorem dX5_digest_9 : decode cX5_digest 9 = .ok (.putfield 249, 3) := by decide +kernel
theorem dX5_digest_12 : decode cX5_digest 12 = .ok (.iconst 0, 1) := by decide +kernel
theorem dX5_digest_13 : decode cX5_digest 13 = .ok (.istore_n 1, 1) := by decide +kernel
theorem dX5_digest_14 : decode cX5_digest 14 = .ok (.iload_n 1, 1) := by decide +kernel
theorem dX5_digest_15 : decode cX5_digest 15 = .ok (.bipush 23, 2) := by decide +kernel
theorem dX5_digest_17 : decode cX5_digest 17 = .ok (.if_icmp .ge 42, 3) := by decide +kernel
theorem dX5_digest_20 : decode cX5_digest 20 = .ok (.iload_n 1, 1) := by decide +kernel
theorem dX5_digest_21 : decode cX5_digest 21 = .ok (.bipush 9, 2) := by decide +kernel
theorem dX5_digest_23 : decode cX5_digest 23 = .ok (.if_icmp .lt 20, 3) := by decide +kernel
theorem dX5_digest_26 : decode cX5_digest 26 = .ok (.iload_n 1, 1) := by decide +kernel
theorem dX5_digest_27 : decode cX5_digest 27 = .ok (.bipush 10, 2) := by decide +kernel
theorem dX5_digest_29 : decode cX5_digest 29 = .ok (.bipush 12, 2) := by decide +kernel
theorem dX5_digest_31 : decode cX5_digest 31 = .ok (.invokestatic 35, 3) := by decide +kernel
theorem dX5_digest_34 : decode cX5_digest 34 = .ok (.ifCond .ne 9, 3) := by decide +kernel
theorem dX5_digest_37 : decode cX5_digest 37 = .ok (.iload_n 1, 1) := by decide +kernel
theorem dX5_digest_38 : decode cX5_digest 38 = .ok (.bipush 19, 2) := by decide +kernel
theorem dX5_digest_40 : decode cX5_digest 40 = .ok (.if_icmp .le 13, 3) := by decide +kernel
theorem dX5_digest_43 : decode cX5_digest 43 = .ok (.aload_n 0, 1) := by decide +kernel
theorem dX5_digest_44 : decode cX5_digest 44 = .ok (.aload_n 0, 1) := by decide +kernel
theorem dX5_digest_45 : decode cX5_digest 45 = .ok (.iload_n 1, 1) := by decide +kernel
theorem dX5_digest_46 : decode cX5_digest 46 = .ok (.invokevirtual 214, 3) := by decide +kernel
theorem dX5_digest_49 : decode cX5_digest 49 = .ok (.i2l, 1) := by decide +kernel
theorem dX5_digest_50 : decode cX5_digest 50 = .ok (.invokevirtual 253, 3) := by decide +kernel
theorem dX5_digest_53 : decode cX5_digest 53 = .ok (.iinc 1 1, 3) := by decide +kernel
theorem dX5_digest_56 : decode cX5_digest 56 = .ok (.goto (-42), 3) := by decide +kernel
theorem dX5_digest_59 : decode cX5_digest 59 = .ok (.iconst 0, 1) := by decide +kernel
theorem dX5_digest_60 : decode cX5_digest 60 = .ok (.istore_n 1, 1) := by decide +kernel
theorem dX5_digest_61 : decode cX5_digest 61 = .ok (.iload_n 1, 1) := by decide +kernel
theorem dX5_digest_62 : decode cX5_digest 62 = .ok (.aload_n 0, 1) := by decide +kernel
theorem dX5_digest_63 : decode cX5_digest 63 = .ok (.getfield 7, 3) := by decide +kernel
theorem dX5_digest_66 : decode cX5_digest 66 = .ok (.iconst 1, 1) := by decide +kernel
theorem dX5_digest_67 : decode cX5_digest 67 = .ok (.iaload, 1) := by decide +kernel
theorem dX5_digest_68 : decode cX5_digest 68 = .ok (.if_icmp .ge 14, 3) := by decide +kernel
theorem dX5_digest_71 : decode cX5_digest 71 = .ok (.aload_n 0, 1) := by decide +kernel
theorem dX5_digest_72 : decode cX5_digest 72 = .ok (.iload_n 1, 1) := by decide +kernel
theorem dX5_digest_73 : decode cX5_digest 73 = .ok (.invokevirtual 265, 3) := by decide +kernel
theorem dX5_digest_76 : decode cX5_digest 76 = .ok (.iinc 1 1, 3) := by decide +kernel
theorem dX5_digest_79 : decode cX5_digest 79 = .ok (.goto (-18), 3) := by decide +kernel
theorem dX5_digest_82 : decode cX5_digest 82 = .ok (.iconst 0, 1) := by decide +kernel
theorem dX5_digest_83 : decode cX5_digest 83 = .ok (.istore_n 1, 1) := by decide +kernel
theorem dX5_digest_84 : decode cX5_digest 84 = .ok (.iload_n 1, 1) := by decide +kernel
theorem dX5_digest_85 : decode cX5_digest 85 = .ok (.sipush 750, 3) := by decide +kernel
theorem dX5_digest_88 : decode cX5_digest 88 = .ok (.if_icmp .ge 24, 3) := by decide +kernel
theorem dX5_digest_91 : decode cX5_digest 91 = .ok (.aload_n 0, 1) := by decide +kernel
theorem dX5_digest_92 : decode cX5_digest 92 = .ok (.aload_n 0, 1) := by decide +kernel
theorem dX5_digest_93 : decode cX5_digest 93 = .ok (.iload_n 1, 1) := by decide +kernel
theorem dX5_digest_94 : decode cX5_digest 94 = .ok (.iconst 5, 1) := by decide +kernel
theorem dX5_digest_95 : decode cX5_digest 95 = .ok (.idiv, 1) := by decide +kernel
theorem dX5_digest_96 : decode cX5_digest 96 = .ok (.iload_n 1, 1) := by decide +kernel
theorem dX5_digest_97 : decode cX5_digest 97 = .ok (.iconst 5, 1) := by decide +kernel
theorem dX5_digest_98 : decode cX5_digest 98 = .ok (.irem, 1) := by decide +kernel
theorem dX5_digest_99 : decode cX5_digest 99 = .ok (.invokevirtual 199, 3) := by decide +kernel
theorem dX5_digest_102 : decode cX5_digest 102 = .ok (.i2l, 1) := by decide +kernel
theorem dX5_digest_103 : decode cX5_digest 103 = .ok (.invokevirtual 253, 3) := by decide +kernel
theorem dX5_digest_106 : decode cX5_digest 106 = .ok (.iinc 1 1, 3) := by decide +kernel
theorem dX5_digest_109 : decode cX5_digest 109 = .ok (.goto (-25), 3) := by decide +kernel
theorem dX5_digest_112 : decode cX5_digest 112 = .ok (.iconst 0, 1) := by decide +kernel
theorem dX5_digest_113 : decode cX5_digest 113 = .ok (.istore_n 1, 1) := by decide +kernel
theorem dX5_digest_114 : decode cX5_digest 114 = .ok (.iload_n 1, 1) := by decide +kernel
theorem dX5_digest_115 : decode cX5_digest 115 = .ok (.sipush 300, 3) := by decide +kernel
theorem dX5_digest_118 : decode cX5_digest 118 = .ok (.if_icmp .ge 23, 3) := by decide +kernel
theorem dX5_digest_121 : decode cX5_digest 121 = .ok (.aload_n 0, 1) := by decide +kernel
theorem dX5_digest_122 : decode cX5_digest 122 = .ok (.aload_n 0, 1) := by decide +kernel
theorem dX5_digest_123 : decode cX5_digest 123 = .ok (.getfield 7, 3) := by decide +kernel
theorem dX5_digest_126 : decode cX5_digest 126 = .ok (.bipush 53, 2) := by decide +kernel
theorem dX5_digest_128 : decode cX5_digest 128 = .ok (.iload_n 1, 1) := by decide +kernel
theorem dX5_digest_129 : decode cX5_digest 129 = .ok (.iadd, 1) := by decide +kernel
theorem dX5_digest_130 : decode cX5_digest 130 = .ok (.iaload, 1) := by decide +kernel
theorem dX5_digest_131 : decode cX5_digest 131 = .ok (.i2l, 1) := by decide +kernel
theorem dX5_digest_132 : decode cX5_digest 132 = .ok (.invokevirtual 253, 3) := by decide +kernel
theorem dX5_digest_135 : decode cX5_digest 135 = .ok (.iinc 1 1, 3) := by decide +kernel
theorem dX5_digest_138 : decode cX5_digest 138 = .ok (.goto (-24), 3) := by decide +kernel
theorem dX5_digest_141 : decode cX5_digest 141 = .ok (.aload_n 0, 1) := by decide +kernel
theorem dX5_digest_142 : decode cX5_digest 142 = .ok (.aload_n 0, 1) := by decide +kernel
theorem dX5_digest_143 : decode cX5_digest 143 = .ok (.getfield 153, 3) := by decide +kernel
theorem dX5_digest_146 : decode cX5_digest 146 = .ok (.i2l, 1) := by decide +kernel
theorem dX5_digest_147 : decode cX5_digest 147 = .ok (.invokevirtual 253, 3) := by decide +kernel
theorem dX5_digest_150 : decode cX5_digest 150 = .ok (.iconst 0, 1) := by decide +kernel
theorem dX5_digest_151 : decode cX5_digest 151 = .ok (.istore_n 1, 1) := by decide +kernel
theorem dX5_digest_152 : decode cX5_digest 152 = .ok (.iload_n 1, 1) := by decide +kernel
theorem dX5_digest_153 : decode cX5_digest 153 = .ok (.aload_n 0, 1) := by decide +kernel
theorem dX5_digest_154 : decode cX5_digest 154 = .ok (.getfield 153, 3) := by decide +kernel
theorem dX5_digest_157 : decode cX5_digest 157 = .ok (.if_icmp .ge 20, 3) := by decide +kernel
theorem dX5_digest_160 : decode cX5_digest 160 = .ok (.aload_n 0, 1) := by decide +kernel
theorem dX5_digest_161 : decode cX5_digest 161 = .ok (.aload_n 0, 1) := by decide +kernel
theorem dX5_digest_162 : decode cX5_digest 162 = .ok (.getfield 16, 3) := by decide +kernel
theorem dX5_digest_165 : decode cX5_digest 165 = .ok (.iload_n 1, 1) := by decide +kernel
theorem dX5_digest_166 : decode cX5_digest 166 = .ok (.iaload, 1) := by decide +kernel
theorem dX5_digest_167 : decode cX5_digest 167 = .ok (.i2l, 1) := by decide +kernel
theorem dX5_digest_168 : decode cX5_digest 168 = .ok (.invokevirtual 253, 3) := by decide +kernel
theorem dX5_digest_171 : decode cX5_digest 171 = .ok (.iinc 1 1, 3) := by decide +kernel
theorem dX5_digest_174 : decode cX5_digest 174 = .ok (.goto (-22), 3) := by decide +kernel
theorem dX5_digest_177 : decode cX5_digest 177 = .ok (.aload_n 0, 1) := by decide +kernel
theorem dX5_digest_178 : decode cX5_digest 178 = .ok (.getfield 249, 3) := by decide +kernel
theorem dX5_digest_181 : decode cX5_digest 181 = .ok (.lreturn, 1) := by decide +kernel
