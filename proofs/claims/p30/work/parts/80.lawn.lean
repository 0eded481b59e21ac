theorem dL_cell_0 : decode cL_cell 0 = .ok (.iload_n 1, 1) := by decide +kernel
theorem dL_cell_1 : decode cL_cell 1 = .ok (.aload_n 0, 1) := by decide +kernel
theorem dL_cell_2 : decode cL_cell 2 = .ok (.arraylength, 1) := by decide +kernel
theorem dL_cell_3 : decode cL_cell 3 = .ok (.if_icmp .ge 9, 3) := by decide +kernel
theorem dL_cell_6 : decode cL_cell 6 = .ok (.aload_n 0, 1) := by decide +kernel
theorem dL_cell_7 : decode cL_cell 7 = .ok (.iload_n 1, 1) := by decide +kernel
theorem dL_cell_8 : decode cL_cell 8 = .ok (.iaload, 1) := by decide +kernel
theorem dL_cell_9 : decode cL_cell 9 = .ok (.goto 11, 3) := by decide +kernel
theorem dL_cell_12 : decode cL_cell 12 = .ok (.ldc 7, 2) := by decide +kernel
theorem dL_cell_14 : decode cL_cell 14 = .ok (.iload_n 1, 1) := by decide +kernel
theorem dL_cell_15 : decode cL_cell 15 = .ok (.sipush 199, 3) := by decide +kernel
theorem dL_cell_18 : decode cL_cell 18 = .ok (.iadd, 1) := by decide +kernel
theorem dL_cell_19 : decode cL_cell 19 = .ok (.imul, 1) := by decide +kernel
theorem dL_cell_20 : decode cL_cell 20 = .ok (.ireturn, 1) := by decide +kernel
theorem dL_at_0 : decode cL_at 0 = .ok (.iload_n 0, 1) := by decide +kernel
theorem dL_at_1 : decode cL_at 1 = .ok (.iconst 1, 1) := by decide +kernel
theorem dL_at_2 : decode cL_at 2 = .ok (.iushr, 1) := by decide +kernel
theorem dL_at_3 : decode cL_at 3 = .ok (.iload_n 1, 1) := by decide +kernel
theorem dL_at_4 : decode cL_at 4 = .ok (.irem, 1) := by decide +kernel
theorem dL_at_5 : decode cL_at 5 = .ok (.ireturn, 1) := by decide +kernel
theorem dL_bucket_0 : decode cL_bucket 0 = .ok (.ldc 8, 2) := by decide +kernel
theorem dL_bucket_2 : decode cL_bucket 2 = .ok (.iload_n 0, 1) := by decide +kernel
theorem dL_bucket_3 : decode cL_bucket 3 = .ok (.imul, 1) := by decide +kernel
theorem dL_bucket_4 : decode cL_bucket 4 = .ok (.ldc 9, 2) := by decide +kernel
theorem dL_bucket_6 : decode cL_bucket 6 = .ok (.iload_n 1, 1) := by decide +kernel
theorem dL_bucket_7 : decode cL_bucket 7 = .ok (.imul, 1) := by decide +kernel
theorem dL_bucket_8 : decode cL_bucket 8 = .ok (.iadd, 1) := by decide +kernel
theorem dL_bucket_9 : decode cL_bucket 9 = .ok (.istore_n 2, 1) := by decide +kernel
theorem dL_bucket_10 : decode cL_bucket 10 = .ok (.iload_n 2, 1) := by decide +kernel
theorem dL_bucket_11 : decode cL_bucket 11 = .ok (.iload_n 2, 1) := by decide +kernel
theorem dL_bucket_12 : decode cL_bucket 12 = .ok (.bipush 15, 2) := by decide +kernel
theorem dL_bucket_14 : decode cL_bucket 14 = .ok (.iushr, 1) := by decide +kernel
theorem dL_bucket_15 : decode cL_bucket 15 = .ok (.ixor, 1) := by decide +kernel
theorem dL_bucket_16 : decode cL_bucket 16 = .ok (.istore_n 2, 1) := by decide +kernel
theorem dL_bucket_17 : decode cL_bucket 17 = .ok (.iload_n 2, 1) := by decide +kernel
theorem dL_bucket_18 : decode cL_bucket 18 = .ok (.ldc 10, 2) := by decide +kernel
theorem dL_bucket_20 : decode cL_bucket 20 = .ok (.imul, 1) := by decide +kernel
theorem dL_bucket_21 : decode cL_bucket 21 = .ok (.istore_n 2, 1) := by decide +kernel
theorem dL_bucket_22 : decode cL_bucket 22 = .ok (.iload_n 2, 1) := by decide +kernel
theorem dL_bucket_23 : decode cL_bucket 23 = .ok (.iload_n 2, 1) := by decide +kernel
theorem dL_bucket_24 : decode cL_bucket 24 = .ok (.bipush 13, 2) := by decide +kernel
theorem dL_bucket_26 : decode cL_bucket 26 = .ok (.iushr, 1) := by decide +kernel
theorem dL_bucket_27 : decode cL_bucket 27 = .ok (.ixor, 1) := by decide +kernel
theorem dL_bucket_28 : decode cL_bucket 28 = .ok (.istore_n 2, 1) := by decide +kernel
theorem dL_bucket_29 : decode cL_bucket 29 = .ok (.iload_n 2, 1) := by decide +kernel
theorem dL_bucket_30 : decode cL_bucket 30 = .ok (.ldc 11, 2) := by decide +kernel
theorem dL_bucket_32 : decode cL_bucket 32 = .ok (.imul, 1) := by decide +kernel
theorem dL_bucket_33 : decode cL_bucket 33 = .ok (.istore_n 2, 1) := by decide +kernel
theorem dL_bucket_34 : decode cL_bucket 34 = .ok (.iload_n 2, 1) := by decide +kernel
theorem dL_bucket_35 : decode cL_bucket 35 = .ok (.iload_n 2, 1) := by decide +kernel
theorem dL_bucket_36 : decode cL_bucket 36 = .ok (.bipush 16, 2) := by decide +kernel
theorem dL_bucket_38 : decode cL_bucket 38 = .ok (.iushr, 1) := by decide +kernel
theorem dL_bucket_39 : decode cL_bucket 39 = .ok (.ixor, 1) := by decide +kernel
theorem dL_bucket_40 : decode cL_bucket 40 = .ok (.istore_n 2, 1) := by decide +kernel
theorem dL_bucket_41 : decode cL_bucket 41 = .ok (.iload_n 2, 1) := by decide +kernel
theorem dL_bucket_42 : decode cL_bucket 42 = .ok (.iconst 1, 1) := by decide +kernel
theorem dL_bucket_43 : decode cL_bucket 43 = .ok (.ishl, 1) := by decide +kernel
theorem dL_bucket_44 : decode cL_bucket 44 = .ok (.iconst 1, 1) := by decide +kernel
theorem dL_bucket_45 : decode cL_bucket 45 = .ok (.iushr, 1) := by decide +kernel
theorem dL_bucket_46 : decode cL_bucket 46 = .ok (.bipush 100, 2) := by decide +kernel
theorem dL_bucket_48 : decode cL_bucket 48 = .ok (.irem, 1) := by decide +kernel
theorem dL_bucket_49 : decode cL_bucket 49 = .ok (.ireturn, 1) := by decide +kernel
theorem dL_has_0 : decode cL_has 0 = .ok (.aload_n 0, 1) := by decide +kernel
theorem dL_has_1 : decode cL_has 1 = .ok (.iload_n 1, 1) := by decide +kernel
theorem dL_has_2 : decode cL_has 2 = .ok (.iload_n 2, 1) := by decide +kernel
theorem dL_has_3 : decode cL_has 3 = .ok (.imul, 1) := by decide +kernel
theorem dL_has_4 : decode cL_has 4 = .ok (.iload_n 3, 1) := by decide +kernel
theorem dL_has_5 : decode cL_has 5 = .ok (.bipush 50, 2) := by decide +kernel
theorem dL_has_7 : decode cL_has 7 = .ok (.idiv, 1) := by decide +kernel
theorem dL_has_8 : decode cL_has 8 = .ok (.iadd, 1) := by decide +kernel
theorem dL_has_9 : decode cL_has 9 = .ok (.laload, 1) := by decide +kernel
theorem dL_has_10 : decode cL_has 10 = .ok (.iload_n 3, 1) := by decide +kernel
theorem dL_has_11 : decode cL_has 11 = .ok (.bipush 50, 2) := by decide +kernel
theorem dL_has_13 : decode cL_has 13 = .ok (.irem, 1) := by decide +kernel
theorem dL_has_14 : decode cL_has 14 = .ok (.lshr, 1) := by decide +kernel
theorem dL_has_15 : decode cL_has 15 = .ok (.lconst 1, 1) := by decide +kernel
theorem dL_has_16 : decode cL_has 16 = .ok (.land, 1) := by decide +kernel
theorem dL_has_17 : decode cL_has 17 = .ok (.lconst 1, 1) := by decide +kernel
theorem dL_has_18 : decode cL_has 18 = .ok (.lcmp, 1) := by decide +kernel
theorem dL_has_19 : decode cL_has 19 = .ok (.ifCond .ne 7, 3) := by decide +kernel
theorem dL_has_22 : decode cL_has 22 = .ok (.iconst 1, 1) := by decide +kernel
theorem dL_has_23 : decode cL_has 23 = .ok (.goto 4, 3) := by decide +kernel
theorem dL_has_26 : decode cL_has 26 = .ok (.iconst 0, 1) := by decide +kernel
theorem dL_has_27 : decode cL_has 27 = .ok (.ireturn, 1) := by decide +kernel
theorem dL_put_0 : decode cL_put 0 = .ok (.lconst 1, 1) := by decide +kernel
theorem dL_put_1 : decode cL_put 1 = .ok (.iload_n 3, 1) := by decide +kernel
theorem dL_put_2 : decode cL_put 2 = .ok (.bipush 50, 2) := by decide +kernel
theorem dL_put_4 : decode cL_put 4 = .ok (.irem, 1) := by decide +kernel
theorem dL_put_5 : decode cL_put 5 = .ok (.lshl, 1) := by decide +kernel
theorem dL_put_6 : decode cL_put 6 = .ok (.lstore 5, 2) := by decide +kernel
theorem dL_put_8 : decode cL_put 8 = .ok (.aload_n 0, 1) := by decide +kernel
theorem dL_put_9 : decode cL_put 9 = .ok (.iload_n 1, 1) := by decide +kernel
theorem dL_put_10 : decode cL_put 10 = .ok (.iload_n 2, 1) := by decide +kernel
theorem dL_put_11 : decode cL_put 11 = .ok (.imul, 1) := by decide +kernel
theorem dL_put_12 : decode cL_put 12 = .ok (.iload_n 3, 1) := by decide +kernel
theorem dL_put_13 : decode cL_put 13 = .ok (.bipush 50, 2) := by decide +kernel
theorem dL_put_15 : decode cL_put 15 = .ok (.idiv, 1) := by decide +kernel
theorem dL_put_16 : decode cL_put 16 = .ok (.iadd, 1) := by decide +kernel
theorem dL_put_17 : decode cL_put 17 = .ok (.laload, 1) := by decide +kernel
theorem dL_put_18 : decode cL_put 18 = .ok (.lstore 7, 2) := by decide +kernel
theorem dL_put_20 : decode cL_put 20 = .ok (.aload_n 0, 1) := by decide +kernel
theorem dL_put_21 : decode cL_put 21 = .ok (.iload_n 1, 1) := by decide +kernel
theorem dL_put_22 : decode cL_put 22 = .ok (.iload_n 2, 1) := by decide +kernel
theorem dL_put_23 : decode cL_put 23 = .ok (.imul, 1) := by decide +kernel
theorem dL_put_24 : decode cL_put 24 = .ok (.iload_n 3, 1) := by decide +kernel
theorem dL_put_25 : decode cL_put 25 = .ok (.bipush 50, 2) := by decide +kernel
theorem dL_put_27 : decode cL_put 27 = .ok (.idiv, 1) := by decide +kernel
theorem dL_put_28 : decode cL_put 28 = .ok (.iadd, 1) := by decide +kernel
theorem dL_put_29 : decode cL_put 29 = .ok (.iload 4, 2) := by decide +kernel
theorem dL_put_31 : decode cL_put 31 = .ok (.ifCond .eq 11, 3) := by decide +kernel
theorem dL_put_34 : decode cL_put 34 = .ok (.lload 7, 2) := by decide +kernel
theorem dL_put_36 : decode cL_put 36 = .ok (.lload 5, 2) := by decide +kernel
theorem dL_put_38 : decode cL_put 38 = .ok (.lor, 1) := by decide +kernel
theorem dL_put_39 : decode cL_put 39 = .ok (.goto 12, 3) := by decide +kernel
theorem dL_put_42 : decode cL_put 42 = .ok (.lload 7, 2) := by decide +kernel
theorem dL_put_44 : decode cL_put 44 = .ok (.lload 5, 2) := by decide +kernel
theorem dL_put_46 : decode cL_put 46 = .ok (.ldc2_w 12, 3) := by decide +kernel
theorem dL_put_49 : decode cL_put 49 = .ok (.lxor, 1) := by decide +kernel
theorem dL_put_50 : decode cL_put 50 = .ok (.land, 1) := by decide +kernel
theorem dL_put_51 : decode cL_put 51 = .ok (.lastore, 1) := by decide +kernel
theorem dL_put_52 : decode cL_put 52 = .ok (.return_, 1) := by decide +kernel
set_option maxRecDepth 20000 in
theorem ggL_eats_L_has : GoodIn wsL_eats wsL_has := goodIn_r _ [4] (by decide +kernel) (by decide +kernel)
set_option maxRecDepth 20000 in
theorem gL_eats_L_has : GoodIn wsL_eats (va_wsS RL 14 yL_has wsL_has) := goodIn_app (goodIn_of _ (by decide +kernel)) ggL_eats_L_has
set_option maxRecDepth 20000 in
theorem ggL_eats_L_bucket : GoodIn wsL_eats wsL_bucket := goodIn_r _ [7, 8, 9, 10, 11] (by decide +kernel) (by decide +kernel)
set_option maxRecDepth 20000 in
theorem gL_eats_L_bucket : GoodIn wsL_eats (va_wsS RL 20 yL_bucket wsL_bucket) := goodIn_app (goodIn_of _ (by decide +kernel)) ggL_eats_L_bucket
theorem dL_eats_0 : decode cL_eats 0 = .ok (.aload_n 1, 1) := by decide +kernel
theorem dL_eats_1 : decode cL_eats 1 = .ok (.bipush 6, 2) := by decide +kernel
theorem dL_eats_3 : decode cL_eats 3 = .ok (.iload 7, 2) := by decide +kernel
theorem dL_eats_5 : decode cL_eats 5 = .ok (.imul, 1) := by decide +kernel
theorem dL_eats_6 : decode cL_eats 6 = .ok (.iaload, 1) := by decide +kernel
theorem dL_eats_7 : decode cL_eats 7 = .ok (.ifCond .eq 16, 3) := by decide +kernel
theorem dL_eats_10 : decode cL_eats 10 = .ok (.aload 4, 2) := by decide +kernel
theorem dL_eats_12 : decode cL_eats 12 = .ok (.iconst 3, 1) := by decide +kernel
theorem dL_eats_13 : decode cL_eats 13 = .ok (.iload 7, 2) := by decide +kernel
theorem dL_eats_15 : decode cL_eats 15 = .ok (.iload 6, 2) := by decide +kernel
theorem dL_eats_17 : decode cL_eats 17 = .ok (.invokestatic 14, 3) := by decide +kernel
theorem dL_eats_20 : decode cL_eats 20 = .ok (.ifCond .eq 5, 3) := by decide +kernel
theorem dL_eats_23 : decode cL_eats 23 = .ok (.iconst 0, 1) := by decide +kernel
theorem dL_eats_24 : decode cL_eats 24 = .ok (.ireturn, 1) := by decide +kernel
theorem dL_eats_25 : decode cL_eats 25 = .ok (.aload_n 3, 1) := by decide +kernel
theorem dL_eats_26 : decode cL_eats 26 = .ok (.iconst 3, 1) := by decide +kernel
theorem dL_eats_27 : decode cL_eats 27 = .ok (.iload 7, 2) := by decide +kernel
theorem dL_eats_29 : decode cL_eats 29 = .ok (.iload 6, 2) := by decide +kernel
theorem dL_eats_31 : decode cL_eats 31 = .ok (.invokestatic 14, 3) := by decide +kernel
theorem dL_eats_34 : decode cL_eats 34 = .ok (.ifCond .eq 5, 3) := by decide +kernel
theorem dL_eats_37 : decode cL_eats 37 = .ok (.iconst 1, 1) := by decide +kernel
theorem dL_eats_38 : decode cL_eats 38 = .ok (.ireturn, 1) := by decide +kernel
theorem dL_eats_39 : decode cL_eats 39 = .ok (.aload_n 1, 1) := by decide +kernel
theorem dL_eats_40 : decode cL_eats 40 = .ok (.bipush 6, 2) := by decide +kernel
theorem dL_eats_42 : decode cL_eats 42 = .ok (.iload 7, 2) := by decide +kernel
theorem dL_eats_44 : decode cL_eats 44 = .ok (.imul, 1) := by decide +kernel
theorem dL_eats_45 : decode cL_eats 45 = .ok (.iconst 1, 1) := by decide +kernel
theorem dL_eats_46 : decode cL_eats 46 = .ok (.iadd, 1) := by decide +kernel
theorem dL_eats_47 : decode cL_eats 47 = .ok (.iaload, 1) := by decide +kernel
theorem dL_eats_48 : decode cL_eats 48 = .ok (.istore 8, 2) := by decide +kernel
theorem dL_eats_50 : decode cL_eats 50 = .ok (.aload_n 2, 1) := by decide +kernel
theorem dL_eats_51 : decode cL_eats 51 = .ok (.iconst 2, 1) := by decide +kernel
theorem dL_eats_52 : decode cL_eats 52 = .ok (.iload 7, 2) := by decide +kernel
theorem dL_eats_54 : decode cL_eats 54 = .ok (.iload 6, 2) := by decide +kernel
theorem dL_eats_56 : decode cL_eats 56 = .ok (.iload 8, 2) := by decide +kernel
theorem dL_eats_58 : decode cL_eats 58 = .ok (.ifCond .ge 15, 3) := by decide +kernel
theorem dL_eats_61 : decode cL_eats 61 = .ok (.aload_n 1, 1) := by decide +kernel
theorem dL_eats_62 : decode cL_eats 62 = .ok (.bipush 6, 2) := by decide +kernel
theorem dL_eats_64 : decode cL_eats 64 = .ok (.iload 7, 2) := by decide +kernel
theorem dL_eats_66 : decode cL_eats 66 = .ok (.imul, 1) := by decide +kernel
theorem dL_eats_67 : decode cL_eats 67 = .ok (.iconst 2, 1) := by decide +kernel
theorem dL_eats_68 : decode cL_eats 68 = .ok (.iadd, 1) := by decide +kernel
theorem dL_eats_69 : decode cL_eats 69 = .ok (.iaload, 1) := by decide +kernel
theorem dL_eats_70 : decode cL_eats 70 = .ok (.goto 9, 3) := by decide +kernel
theorem dL_eats_73 : decode cL_eats 73 = .ok (.aload_n 0, 1) := by decide +kernel
theorem dL_eats_74 : decode cL_eats 74 = .ok (.iconst 4, 1) := by decide +kernel
theorem dL_eats_75 : decode cL_eats 75 = .ok (.iload 8, 2) := by decide +kernel
theorem dL_eats_77 : decode cL_eats 77 = .ok (.iadd, 1) := by decide +kernel
theorem dL_eats_78 : decode cL_eats 78 = .ok (.iaload, 1) := by decide +kernel
theorem dL_eats_79 : decode cL_eats 79 = .ok (.invokestatic 20, 3) := by decide +kernel
theorem dL_eats_82 : decode cL_eats 82 = .ok (.invokestatic 14, 3) := by decide +kernel
theorem dL_eats_85 : decode cL_eats 85 = .ok (.ifCond .eq 5, 3) := by decide +kernel
theorem dL_eats_88 : decode cL_eats 88 = .ok (.iconst 3, 1) := by decide +kernel
theorem dL_eats_89 : decode cL_eats 89 = .ok (.ireturn, 1) := by decide +kernel
theorem dL_eats_90 : decode cL_eats 90 = .ok (.aload_n 1, 1) := by decide +kernel
theorem dL_eats_91 : decode cL_eats 91 = .ok (.bipush 6, 2) := by decide +kernel
theorem dL_eats_93 : decode cL_eats 93 = .ok (.iload 7, 2) := by decide +kernel
theorem dL_eats_95 : decode cL_eats 95 = .ok (.imul, 1) := by decide +kernel
theorem dL_eats_96 : decode cL_eats 96 = .ok (.iconst 4, 1) := by decide +kernel
theorem dL_eats_97 : decode cL_eats 97 = .ok (.iadd, 1) := by decide +kernel
theorem dL_eats_98 : decode cL_eats 98 = .ok (.iaload, 1) := by decide +kernel
theorem dL_eats_99 : decode cL_eats 99 = .ok (.iconst 1, 1) := by decide +kernel
theorem dL_eats_100 : decode cL_eats 100 = .ok (.if_icmp .ne 20, 3) := by decide +kernel
theorem dL_eats_103 : decode cL_eats 103 = .ok (.aload 5, 2) := by decide +kernel
theorem dL_eats_105 : decode cL_eats 105 = .ok (.iconst 3, 1) := by decide +kernel
theorem dL_eats_106 : decode cL_eats 106 = .ok (.iload 7, 2) := by decide +kernel
theorem dL_eats_108 : decode cL_eats 108 = .ok (.iload 6, 2) := by decide +kernel
theorem dL_eats_110 : decode cL_eats 110 = .ok (.invokestatic 14, 3) := by decide +kernel
theorem dL_eats_113 : decode cL_eats 113 = .ok (.ifCond .eq 7, 3) := by decide +kernel
theorem dL_eats_116 : decode cL_eats 116 = .ok (.iconst 2, 1) := by decide +kernel
theorem dL_eats_117 : decode cL_eats 117 = .ok (.goto 4, 3) := by decide +kernel
theorem dL_eats_120 : decode cL_eats 120 = .ok (.iconst 0, 1) := by decide +kernel
theorem dL_eats_121 : decode cL_eats 121 = .ok (.ireturn, 1) := by decide +kernel
set_option maxRecDepth 20000 in
theorem ggL_eaters_L_eats : GoodIn wsL_eaters wsL_eats := goodIn_r _ [4, 5, 6, 3, 7, 8, 9, 10, 11, 12, 13, 14] (by decide +kernel) (by decide +kernel)
set_option maxRecDepth 20000 in
theorem gL_eaters_L_eats : GoodIn wsL_eaters (va_wsS RL 24 yL_eats wsL_eats) := goodIn_app (goodIn_of _ (by decide +kernel)) ggL_eaters_L_eats
theorem dL_eaters_0 : decode cL_eaters 0 = .ok (.iconst 0, 1) := by decide +kernel
theorem dL_eaters_1 : decode cL_eaters 1 = .ok (.istore 7, 2) := by decide +kernel
theorem dL_eaters_3 : decode cL_eaters 3 = .ok (.iconst 0, 1) := by decide +kernel
theorem dL_eaters_4 : decode cL_eaters 4 = .ok (.istore 8, 2) := by decide +kernel
theorem dL_eaters_6 : decode cL_eaters 6 = .ok (.iload 8, 2) := by decide +kernel
theorem dL_eaters_8 : decode cL_eaters 8 = .ok (.sipush 150, 3) := by decide +kernel
theorem dL_eaters_11 : decode cL_eaters 11 = .ok (.if_icmp .ge 30, 3) := by decide +kernel
theorem dL_eaters_14 : decode cL_eaters 14 = .ok (.aload_n 0, 1) := by decide +kernel
theorem dL_eaters_15 : decode cL_eaters 15 = .ok (.aload_n 1, 1) := by decide +kernel
theorem dL_eaters_16 : decode cL_eaters 16 = .ok (.aload_n 2, 1) := by decide +kernel
theorem dL_eaters_17 : decode cL_eaters 17 = .ok (.aload_n 3, 1) := by decide +kernel
theorem dL_eaters_18 : decode cL_eaters 18 = .ok (.aload 4, 2) := by decide +kernel
theorem dL_eaters_20 : decode cL_eaters 20 = .ok (.aload 5, 2) := by decide +kernel
theorem dL_eaters_22 : decode cL_eaters 22 = .ok (.iload 8, 2) := by decide +kernel
theorem dL_eaters_24 : decode cL_eaters 24 = .ok (.iload 6, 2) := by decide +kernel
theorem dL_eaters_26 : decode cL_eaters 26 = .ok (.invokestatic 24, 3) := by decide +kernel
theorem dL_eaters_29 : decode cL_eaters 29 = .ok (.ifCond .le 6, 3) := by decide +kernel
theorem dL_eaters_32 : decode cL_eaters 32 = .ok (.iinc 7 1, 3) := by decide +kernel
theorem dL_eaters_35 : decode cL_eaters 35 = .ok (.iinc 8 1, 3) := by decide +kernel
theorem dL_eaters_38 : decode cL_eaters 38 = .ok (.goto (-32), 3) := by decide +kernel
theorem dL_eaters_41 : decode cL_eaters 41 = .ok (.iload 7, 2) := by decide +kernel
theorem dL_eaters_43 : decode cL_eaters 43 = .ok (.ireturn, 1) := by decide +kernel
set_option maxRecDepth 20000 in
theorem ggL_free_L_has : GoodIn wsL_free wsL_has := goodIn_r _ [4] (by decide +kernel) (by decide +kernel)
set_option maxRecDepth 20000 in
theorem gL_free_L_has : GoodIn wsL_free (va_wsS RL 14 yL_has wsL_has) := goodIn_app (goodIn_of _ (by decide +kernel)) ggL_free_L_has
theorem dL_free_0 : decode cL_free 0 = .ok (.iconst 0, 1) := by decide +kernel
theorem dL_free_1 : decode cL_free 1 = .ok (.istore 5, 2) := by decide +kernel
theorem dL_free_3 : decode cL_free 3 = .ok (.iload 5, 2) := by decide +kernel
theorem dL_free_5 : decode cL_free 5 = .ok (.aload_n 0, 1) := by decide +kernel
theorem dL_free_6 : decode cL_free 6 = .ok (.iconst 0, 1) := by decide +kernel
theorem dL_free_7 : decode cL_free 7 = .ok (.iaload, 1) := by decide +kernel
theorem dL_free_8 : decode cL_free 8 = .ok (.if_icmp .ge 36, 3) := by decide +kernel
theorem dL_free_11 : decode cL_free 11 = .ok (.aload_n 1, 1) := by decide +kernel
theorem dL_free_12 : decode cL_free 12 = .ok (.bipush 6, 2) := by decide +kernel
theorem dL_free_14 : decode cL_free 14 = .ok (.iload 5, 2) := by decide +kernel
theorem dL_free_16 : decode cL_free 16 = .ok (.imul, 1) := by decide +kernel
theorem dL_free_17 : decode cL_free 17 = .ok (.iconst 1, 1) := by decide +kernel
theorem dL_free_18 : decode cL_free 18 = .ok (.iadd, 1) := by decide +kernel
theorem dL_free_19 : decode cL_free 19 = .ok (.iaload, 1) := by decide +kernel
theorem dL_free_20 : decode cL_free 20 = .ok (.iload_n 3, 1) := by decide +kernel
theorem dL_free_21 : decode cL_free 21 = .ok (.if_icmp .ne 17, 3) := by decide +kernel
theorem dL_free_24 : decode cL_free 24 = .ok (.aload_n 2, 1) := by decide +kernel
theorem dL_free_25 : decode cL_free 25 = .ok (.iconst 2, 1) := by decide +kernel
theorem dL_free_26 : decode cL_free 26 = .ok (.iload 5, 2) := by decide +kernel
theorem dL_free_28 : decode cL_free 28 = .ok (.iload 4, 2) := by decide +kernel
theorem dL_free_30 : decode cL_free 30 = .ok (.invokestatic 14, 3) := by decide +kernel
theorem dL_free_33 : decode cL_free 33 = .ok (.ifCond .eq 5, 3) := by decide +kernel
theorem dL_free_36 : decode cL_free 36 = .ok (.iconst 0, 1) := by decide +kernel
theorem dL_free_37 : decode cL_free 37 = .ok (.ireturn, 1) := by decide +kernel
theorem dL_free_38 : decode cL_free 38 = .ok (.iinc 5 1, 3) := by decide +kernel
theorem dL_free_41 : decode cL_free 41 = .ok (.goto (-38), 3) := by decide +kernel
theorem dL_free_44 : decode cL_free 44 = .ok (.iconst 1, 1) := by decide +kernel
theorem dL_free_45 : decode cL_free 45 = .ok (.ireturn, 1) := by decide +kernel
set_option maxRecDepth 20000 in
theorem ggL_room_L_free : GoodIn wsL_room wsL_free := goodIn_r _ [4, 5, 6, 3, 7] (by decide +kernel) (by decide +kernel)
set_option maxRecDepth 20000 in
theorem gL_room_L_free : GoodIn wsL_room (va_wsS RL 28 yL_free wsL_free) := goodIn_app (goodIn_of _ (by decide +kernel)) ggL_room_L_free
theorem dL_room_0 : decode cL_room 0 = .ok (.iconst 0, 1) := by decide +kernel
theorem dL_room_1 : decode cL_room 1 = .ok (.istore 4, 2) := by decide +kernel
theorem dL_room_3 : decode cL_room 3 = .ok (.iconst 0, 1) := by decide +kernel
theorem dL_room_4 : decode cL_room 4 = .ok (.istore 5, 2) := by decide +kernel
theorem dL_room_6 : decode cL_room 6 = .ok (.iload 5, 2) := by decide +kernel
theorem dL_room_8 : decode cL_room 8 = .ok (.bipush 100, 2) := by decide +kernel
theorem dL_room_10 : decode cL_room 10 = .ok (.if_icmp .ge 24, 3) := by decide +kernel
theorem dL_room_13 : decode cL_room 13 = .ok (.aload_n 0, 1) := by decide +kernel
theorem dL_room_14 : decode cL_room 14 = .ok (.aload_n 1, 1) := by decide +kernel
theorem dL_room_15 : decode cL_room 15 = .ok (.aload_n 2, 1) := by decide +kernel
theorem dL_room_16 : decode cL_room 16 = .ok (.iload_n 3, 1) := by decide +kernel
theorem dL_room_17 : decode cL_room 17 = .ok (.iload 5, 2) := by decide +kernel
theorem dL_room_19 : decode cL_room 19 = .ok (.invokestatic 28, 3) := by decide +kernel
theorem dL_room_22 : decode cL_room 22 = .ok (.ifCond .eq 6, 3) := by decide +kernel
theorem dL_room_25 : decode cL_room 25 = .ok (.iinc 4 1, 3) := by decide +kernel
theorem dL_room_28 : decode cL_room 28 = .ok (.iinc 5 1, 3) := by decide +kernel
theorem dL_room_31 : decode cL_room 31 = .ok (.goto (-25), 3) := by decide +kernel
theorem dL_room_34 : decode cL_room 34 = .ok (.iload 4, 2) := by decide +kernel
theorem dL_room_36 : decode cL_room 36 = .ok (.ireturn, 1) := by decide +kernel
set_option maxRecDepth 20000 in
theorem ggL_share_L_has : GoodIn wsL_share wsL_has := goodIn_r _ [4] (by decide +kernel) (by decide +kernel)
set_option maxRecDepth 20000 in
theorem gL_share_L_has : GoodIn wsL_share (va_wsS RL 14 yL_has wsL_has) := goodIn_app (goodIn_of _ (by decide +kernel)) ggL_share_L_has
set_option maxRecDepth 20000 in
theorem ggL_share_L_free : GoodIn wsL_share wsL_free := goodIn_r _ [7, 1, 2, 3, 4] (by decide +kernel) (by decide +kernel)
set_option maxRecDepth 20000 in
theorem gL_share_L_free : GoodIn wsL_share (va_wsS RL 28 yL_free wsL_free) := goodIn_app (goodIn_of _ (by decide +kernel)) ggL_share_L_free
set_option maxRecDepth 20000 in
theorem ggL_share_L_put : GoodIn wsL_share wsL_put := goodIn_r _ [10, 11] (by decide +kernel) (by decide +kernel)
set_option maxRecDepth 20000 in
theorem gL_share_L_put : GoodIn wsL_share (va_wsS RL 32 yL_put wsL_put) := goodIn_app (goodIn_of _ (by decide +kernel)) ggL_share_L_put
theorem dL_share_0 : decode cL_share 0 = .ok (.aload_n 1, 1) := by decide +kernel
theorem dL_share_1 : decode cL_share 1 = .ok (.bipush 6, 2) := by decide +kernel
theorem dL_share_3 : decode cL_share 3 = .ok (.iload_n 3, 1) := by decide +kernel
theorem dL_share_4 : decode cL_share 4 = .ok (.imul, 1) := by decide +kernel
theorem dL_share_5 : decode cL_share 5 = .ok (.iconst 1, 1) := by decide +kernel
theorem dL_share_6 : decode cL_share 6 = .ok (.iadd, 1) := by decide +kernel
theorem dL_share_7 : decode cL_share 7 = .ok (.iaload, 1) := by decide +kernel
theorem dL_share_8 : decode cL_share 8 = .ok (.istore 5, 2) := by decide +kernel
theorem dL_share_10 : decode cL_share 10 = .ok (.aload_n 1, 1) := by decide +kernel
theorem dL_share_11 : decode cL_share 11 = .ok (.bipush 6, 2) := by decide +kernel
theorem dL_share_13 : decode cL_share 13 = .ok (.iload_n 3, 1) := by decide +kernel
theorem dL_share_14 : decode cL_share 14 = .ok (.imul, 1) := by decide +kernel
theorem dL_share_15 : decode cL_share 15 = .ok (.iconst 3, 1) := by decide +kernel
theorem dL_share_16 : decode cL_share 16 = .ok (.iadd, 1) := by decide +kernel
theorem dL_share_17 : decode cL_share 17 = .ok (.iaload, 1) := by decide +kernel
theorem dL_share_18 : decode cL_share 18 = .ok (.iload 4, 2) := by decide +kernel
theorem dL_share_20 : decode cL_share 20 = .ok (.if_icmp .ge 68, 3) := by decide +kernel
theorem dL_share_23 : decode cL_share 23 = .ok (.iconst 0, 1) := by decide +kernel
theorem dL_share_24 : decode cL_share 24 = .ok (.istore 6, 2) := by decide +kernel
theorem dL_share_26 : decode cL_share 26 = .ok (.iload 5, 2) := by decide +kernel
theorem dL_share_28 : decode cL_share 28 = .ok (.ifCond .ge 17, 3) := by decide +kernel
theorem dL_share_31 : decode cL_share 31 = .ok (.aload_n 2, 1) := by decide +kernel
theorem dL_share_32 : decode cL_share 32 = .ok (.iconst 2, 1) := by decide +kernel
theorem dL_share_33 : decode cL_share 33 = .ok (.iload_n 3, 1) := by decide +kernel
theorem dL_share_34 : decode cL_share 34 = .ok (.iload 6, 2) := by decide +kernel
theorem dL_share_36 : decode cL_share 36 = .ok (.invokestatic 14, 3) := by decide +kernel
theorem dL_share_39 : decode cL_share 39 = .ok (.ifCond .eq 25, 3) := by decide +kernel
theorem dL_share_42 : decode cL_share 42 = .ok (.goto 16, 3) := by decide +kernel
theorem dL_share_45 : decode cL_share 45 = .ok (.aload_n 0, 1) := by decide +kernel
theorem dL_share_46 : decode cL_share 46 = .ok (.aload_n 1, 1) := by decide +kernel
theorem dL_share_47 : decode cL_share 47 = .ok (.aload_n 2, 1) := by decide +kernel
theorem dL_share_48 : decode cL_share 48 = .ok (.iload 5, 2) := by decide +kernel
theorem dL_share_50 : decode cL_share 50 = .ok (.iload 6, 2) := by decide +kernel
theorem dL_share_52 : decode cL_share 52 = .ok (.invokestatic 28, 3) := by decide +kernel
theorem dL_share_55 : decode cL_share 55 = .ok (.ifCond .ne 9, 3) := by decide +kernel
theorem dL_share_58 : decode cL_share 58 = .ok (.iinc 6 1, 3) := by decide +kernel
theorem dL_share_61 : decode cL_share 61 = .ok (.goto (-35), 3) := by decide +kernel
theorem dL_share_64 : decode cL_share 64 = .ok (.aload_n 2, 1) := by decide +kernel
theorem dL_share_65 : decode cL_share 65 = .ok (.iconst 2, 1) := by decide +kernel
theorem dL_share_66 : decode cL_share 66 = .ok (.iload_n 3, 1) := by decide +kernel
theorem dL_share_67 : decode cL_share 67 = .ok (.iload 6, 2) := by decide +kernel
theorem dL_share_69 : decode cL_share 69 = .ok (.iconst 1, 1) := by decide +kernel
theorem dL_share_70 : decode cL_share 70 = .ok (.invokestatic 32, 3) := by decide +kernel
theorem dL_share_73 : decode cL_share 73 = .ok (.aload_n 1, 1) := by decide +kernel
theorem dL_share_74 : decode cL_share 74 = .ok (.bipush 6, 2) := by decide +kernel
theorem dL_share_76 : decode cL_share 76 = .ok (.iload_n 3, 1) := by decide +kernel
theorem dL_share_77 : decode cL_share 77 = .ok (.imul, 1) := by decide +kernel
theorem dL_share_78 : decode cL_share 78 = .ok (.iconst 3, 1) := by decide +kernel
theorem dL_share_79 : decode cL_share 79 = .ok (.iadd, 1) := by decide +kernel
theorem dL_share_80 : decode cL_share 80 = .ok (.dup2, 1) := by decide +kernel
theorem dL_share_81 : decode cL_share 81 = .ok (.iaload, 1) := by decide +kernel
theorem dL_share_82 : decode cL_share 82 = .ok (.iconst 1, 1) := by decide +kernel
theorem dL_share_83 : decode cL_share 83 = .ok (.iadd, 1) := by decide +kernel
theorem dL_share_84 : decode cL_share 84 = .ok (.iastore, 1) := by decide +kernel
theorem dL_share_85 : decode cL_share 85 = .ok (.goto (-75), 3) := by decide +kernel
theorem dL_share_88 : decode cL_share 88 = .ok (.aload_n 1, 1) := by decide +kernel
theorem dL_share_89 : decode cL_share 89 = .ok (.bipush 6, 2) := by decide +kernel
theorem dL_share_91 : decode cL_share 91 = .ok (.iload_n 3, 1) := by decide +kernel
theorem dL_share_92 : decode cL_share 92 = .ok (.imul, 1) := by decide +kernel
theorem dL_share_93 : decode cL_share 93 = .ok (.iconst 3, 1) := by decide +kernel
theorem dL_share_94 : decode cL_share 94 = .ok (.iadd, 1) := by decide +kernel
theorem dL_share_95 : decode cL_share 95 = .ok (.iaload, 1) := by decide +kernel
theorem dL_share_96 : decode cL_share 96 = .ok (.iload 4, 2) := by decide +kernel
theorem dL_share_98 : decode cL_share 98 = .ok (.if_icmp .le 48, 3) := by decide +kernel
theorem dL_share_101 : decode cL_share 101 = .ok (.bipush 99, 2) := by decide +kernel
theorem dL_share_103 : decode cL_share 103 = .ok (.istore 6, 2) := by decide +kernel
theorem dL_share_105 : decode cL_share 105 = .ok (.aload_n 2, 1) := by decide +kernel
theorem dL_share_106 : decode cL_share 106 = .ok (.iconst 2, 1) := by decide +kernel
theorem dL_share_107 : decode cL_share 107 = .ok (.iload_n 3, 1) := by decide +kernel
theorem dL_share_108 : decode cL_share 108 = .ok (.iload 6, 2) := by decide +kernel
theorem dL_share_110 : decode cL_share 110 = .ok (.invokestatic 14, 3) := by decide +kernel
theorem dL_share_113 : decode cL_share 113 = .ok (.ifCond .ne 9, 3) := by decide +kernel
theorem dL_share_116 : decode cL_share 116 = .ok (.iinc 6 (-1), 3) := by decide +kernel
theorem dL_share_119 : decode cL_share 119 = .ok (.goto (-14), 3) := by decide +kernel
theorem dL_share_122 : decode cL_share 122 = .ok (.aload_n 2, 1) := by decide +kernel
theorem dL_share_123 : decode cL_share 123 = .ok (.iconst 2, 1) := by decide +kernel
theorem dL_share_124 : decode cL_share 124 = .ok (.iload_n 3, 1) := by decide +kernel
theorem dL_share_125 : decode cL_share 125 = .ok (.iload 6, 2) := by decide +kernel
theorem dL_share_127 : decode cL_share 127 = .ok (.iconst 0, 1) := by decide +kernel
theorem dL_share_128 : decode cL_share 128 = .ok (.invokestatic 32, 3) := by decide +kernel
theorem dL_share_131 : decode cL_share 131 = .ok (.aload_n 1, 1) := by decide +kernel
theorem dL_share_132 : decode cL_share 132 = .ok (.bipush 6, 2) := by decide +kernel
theorem dL_share_134 : decode cL_share 134 = .ok (.iload_n 3, 1) := by decide +kernel
theorem dL_share_135 : decode cL_share 135 = .ok (.imul, 1) := by decide +kernel
theorem dL_share_136 : decode cL_share 136 = .ok (.iconst 3, 1) := by decide +kernel
theorem dL_share_137 : decode cL_share 137 = .ok (.iadd, 1) := by decide +kernel
theorem dL_share_138 : decode cL_share 138 = .ok (.dup2, 1) := by decide +kernel
theorem dL_share_139 : decode cL_share 139 = .ok (.iaload, 1) := by decide +kernel
theorem dL_share_140 : decode cL_share 140 = .ok (.iconst 1, 1) := by decide +kernel
theorem dL_share_141 : decode cL_share 141 = .ok (.isub, 1) := by decide +kernel
theorem dL_share_142 : decode cL_share 142 = .ok (.iastore, 1) := by decide +kernel
theorem dL_share_143 : decode cL_share 143 = .ok (.goto (-55), 3) := by decide +kernel
theorem dL_share_146 : decode cL_share 146 = .ok (.return_, 1) := by decide +kernel
set_option maxRecDepth 20000 in
theorem ggL_breads_L_at : GoodIn wsL_breads wsL_at := goodIn_r _ [4] (by decide +kernel) (by decide +kernel)
set_option maxRecDepth 20000 in
theorem gL_breads_L_at : GoodIn wsL_breads (va_wsS RL 36 yL_at wsL_at) := goodIn_app (goodIn_of _ (by decide +kernel)) ggL_breads_L_at
set_option maxRecDepth 20000 in
theorem ggL_breads_X4_open : GoodIn wsL_breads wsX4_open := goodIn_ca (goodIn_ca (goodIn_r _ [9, 10, 11, 12, 13, 14, 15, 16, 17, 18, 8, 19, 20, 21, 22, 23, 24, 25, 26, 27, 28, 29, 30, 31, 32, 33, 34, 35, 36, 37, 38, 39, 40, 41, 42, 43, 44, 45, 46, 47, 48, 49, 50, 51, 52, 53, 54, 55, 56, 57, 58, 59, 60, 61, 62, 289, 290, 291, 292, 293, 294, 295, 296, 297, 298, 299, 300, 301, 302, 303, 304, 305, 306, 307, 308, 309, 310] (by decide +kernel) (by decide +kernel)) (goodIn_sub (fun _ h => List.mem_cons_of_mem _ (List.mem_append_left _ (List.mem_append_left _ (List.mem_append_right _ h)))) (by decide +kernel))) (goodIn_sub (fun _ h => List.mem_cons_of_mem _ (List.mem_append_left _ (List.mem_append_right _ h))) (by decide +kernel))
set_option maxRecDepth 20000 in
theorem gL_breads_X4_open : GoodIn wsL_breads (wsV RL 39 RX4 yX4_open wsX4_open) := goodIn_app (goodIn_of _ (by decide +kernel)) ggL_breads_X4_open
set_option maxRecDepth 20000 in
theorem ggL_breads_L_room : GoodIn wsL_breads wsL_room := goodIn_r _ [65, 66, 67, 3, 68, 69, 70, 71] (by decide +kernel) (by decide +kernel)
set_option maxRecDepth 20000 in
theorem gL_breads_L_room : GoodIn wsL_breads (va_wsS RL 45 yL_room wsL_room) := goodIn_app (goodIn_of _ (by decide +kernel)) ggL_breads_L_room
set_option maxRecDepth 20000 in
theorem ggL_breads_X4_ifShare : GoodIn wsL_breads wsX4_ifShare := goodIn_ca (goodIn_ca (goodIn_r _ [75, 76, 14, 77, 78, 79, 8, 80, 81, 82, 83, 84, 85, 38, 86, 40, 87, 88, 89, 10, 11, 90, 91, 92, 93, 94, 95, 96, 97, 98, 99, 100, 101, 102, 43, 103, 104, 105, 106, 107, 108, 109, 110, 111, 112, 113, 114, 115, 116, 117, 118, 45, 54, 51, 119, 120, 121, 122, 18, 19, 123, 124, 125, 126, 127, 128, 129, 130, 131, 53, 50, 132, 133, 134, 135, 56, 55, 44, 57, 136, 137, 138, 139, 140, 141, 142, 143, 144, 145, 146, 289, 290, 291, 292, 293, 294, 295, 296, 297, 298, 299, 300, 301, 302, 303, 304, 305, 306, 307, 311, 312, 313, 314, 315] (by decide +kernel) (by decide +kernel)) (goodIn_sub (fun _ h => List.mem_cons_of_mem _ (List.mem_append_right _ h)) (by decide +kernel))) (goodIn_sub (fun _ h => List.mem_cons_of_mem _ (List.mem_append_left _ (List.mem_append_left _ (List.mem_append_right _ h)))) (by decide +kernel))
set_option maxRecDepth 20000 in
theorem gL_breads_X4_ifShare : GoodIn wsL_breads (wsV RL 49 RX4 yX4_ifShare wsX4_ifShare) := goodIn_app (goodIn_of _ (by decide +kernel)) ggL_breads_X4_ifShare
set_option maxRecDepth 20000 in
theorem ggL_breads_L_eaters : GoodIn wsL_breads wsL_eaters := goodIn_r _ [149, 150, 151, 3, 152, 69, 70, 71, 153, 154, 155, 156, 157, 158, 159] (by decide +kernel) (by decide +kernel)
set_option maxRecDepth 20000 in
theorem gL_breads_L_eaters : GoodIn wsL_breads (va_wsS RL 52 yL_eaters wsL_eaters) := goodIn_app (goodIn_of _ (by decide +kernel)) ggL_breads_L_eaters
set_option maxRecDepth 20000 in
theorem ggL_breads_L_share : GoodIn wsL_breads wsL_share := goodIn_r _ [162, 69, 70, 3, 71, 66, 67, 68, 163, 164, 165, 166] (by decide +kernel) (by decide +kernel)
set_option maxRecDepth 20000 in
theorem gL_breads_L_share : GoodIn wsL_breads (va_wsS RL 56 yL_share wsL_share) := goodIn_app (goodIn_of _ (by decide +kernel)) ggL_breads_L_share
set_option maxRecDepth 20000 in
theorem ggL_breads_X4_raise : GoodIn wsL_breads wsX4_raise := goodIn_ca (goodIn_ca (goodIn_ca (goodIn_r _ [170, 12, 13, 14, 16, 77, 78, 79, 8, 80, 81, 82, 83, 84, 85, 38, 86, 40, 87, 88, 89, 10, 11, 171, 172, 173, 174, 51, 45, 175, 100, 101, 102, 43, 103, 18, 19, 176, 177, 178, 179, 54, 23, 24, 25, 26, 27, 28, 29, 30, 31, 32, 33, 34, 35, 36, 37, 39, 41, 42, 44, 46, 47, 48, 49, 50, 52, 53, 55, 56, 57, 58, 180, 181, 182, 183, 184, 129, 130, 131, 185, 186, 187, 188, 189, 190, 191, 192, 140, 141, 142, 143, 144, 145, 146, 193, 116, 117, 118, 194, 195, 196, 197, 198, 199, 200, 201, 289, 290, 291, 292, 293, 294, 295, 296, 297, 298, 299, 300, 301, 302, 303, 304, 305, 306, 307, 308, 309, 310] (by decide +kernel) (by decide +kernel)) (goodIn_sub (fun _ h => List.mem_cons_of_mem _ (List.mem_append_left _ (List.mem_append_right _ h))) (by decide +kernel))) (goodIn_sub (fun _ h => List.mem_cons_of_mem _ (List.mem_append_right _ h)) (by decide +kernel))) (goodIn_sub (fun _ h => List.mem_cons_of_mem _ (List.mem_append_left _ (List.mem_append_left _ (List.mem_append_right _ h)))) (by decide +kernel))
set_option maxRecDepth 20000 in
theorem gL_breads_X4_raise : GoodIn wsL_breads (wsV RL 60 RX4 yX4_raise wsX4_raise) := goodIn_app (goodIn_of _ (by decide +kernel)) ggL_breads_X4_raise
set_option maxRecDepth 20000 in
theorem ggL_breads_X4_lower : GoodIn wsL_breads wsX4_lower := goodIn_ca (goodIn_ca (goodIn_ca (goodIn_r _ [205, 12, 13, 14, 16, 77, 78, 79, 8, 80, 81, 82, 83, 84, 85, 38, 86, 40, 87, 88, 89, 10, 11, 206, 207, 208, 209, 51, 175, 100, 101, 102, 43, 103, 23, 24, 25, 26, 27, 28, 29, 30, 31, 32, 33, 34, 35, 36, 37, 39, 41, 42, 44, 45, 46, 47, 48, 49, 50, 52, 53, 54, 55, 56, 57, 58, 180, 181, 182, 183, 184, 129, 130, 131, 18, 19, 185, 186, 187, 188, 189, 190, 191, 192, 140, 141, 142, 143, 144, 145, 146, 193, 116, 117, 118, 210, 211, 212, 213, 214, 215, 216, 217, 289, 290, 291, 292, 293, 294, 295, 296, 297, 298, 299, 300, 301, 302, 303, 304, 305, 306, 307, 308, 309, 310] (by decide +kernel) (by decide +kernel)) (goodIn_sub (fun _ h => List.mem_cons_of_mem _ (List.mem_append_left _ (List.mem_append_right _ h))) (by decide +kernel))) (goodIn_sub (fun _ h => List.mem_cons_of_mem _ (List.mem_append_right _ h)) (by decide +kernel))) (goodIn_sub (fun _ h => List.mem_cons_of_mem _ (List.mem_append_left _ (List.mem_append_left _ (List.mem_append_right _ h)))) (by decide +kernel))
set_option maxRecDepth 20000 in
theorem gL_breads_X4_lower : GoodIn wsL_breads (wsV RL 63 RX4 yX4_lower wsX4_lower) := goodIn_app (goodIn_of _ (by decide +kernel)) ggL_breads_X4_lower
set_option maxRecDepth 20000 in
theorem ggL_breads_X4_bread : GoodIn wsL_breads wsX4_bread := goodIn_ca (goodIn_ca (goodIn_r _ [221, 10, 11, 14, 77, 78, 79, 8, 80, 81, 82, 83, 84, 85, 38, 86, 40, 222, 223, 224, 225, 43, 45, 51, 44, 57, 52, 55, 56, 184, 129, 130, 131, 53, 50, 18, 19, 226, 181, 182, 183, 185, 186, 187, 188, 189, 190, 191, 192, 140, 141, 142, 143, 144, 145, 146, 193, 116, 117, 118, 54, 227, 228, 229, 230, 231, 232, 233, 234, 235, 236, 237, 238, 289, 290, 291, 292, 293, 294, 295, 296, 297, 298, 299, 300, 301, 302, 303, 304, 305, 306, 307] (by decide +kernel) (by decide +kernel)) (goodIn_sub (fun _ h => List.mem_cons_of_mem _ (List.mem_append_left _ (List.mem_append_left _ (List.mem_append_right _ h)))) (by decide +kernel))) (goodIn_sub (fun _ h => List.mem_cons_of_mem _ (List.mem_append_right _ h)) (by decide +kernel))
set_option maxRecDepth 20000 in
theorem gL_breads_X4_bread : GoodIn wsL_breads (wsV RL 66 RX4 yX4_bread wsX4_bread) := goodIn_app (goodIn_of _ (by decide +kernel)) ggL_breads_X4_bread
set_option maxRecDepth 20000 in
theorem ggL_breads_L_has : GoodIn wsL_breads wsL_has := goodIn_r _ [71] (by decide +kernel) (by decide +kernel)
set_option maxRecDepth 20000 in
theorem gL_breads_L_has : GoodIn wsL_breads (va_wsS RL 14 yL_has wsL_has) := goodIn_app (goodIn_of _ (by decide +kernel)) ggL_breads_L_has
set_option maxRecDepth 20000 in
theorem ggL_breads_X4_end : GoodIn wsL_breads wsX4_end := goodIn_ca (goodIn_ca (goodIn_r _ [242, 16, 14, 243, 77, 78, 79, 8, 80, 81, 82, 83, 84, 85, 38, 86, 40, 244, 245, 246, 247, 12, 13, 248, 100, 101, 102, 43, 103, 23, 24, 25, 26, 27, 28, 29, 30, 31, 32, 33, 34, 35, 36, 37, 39, 41, 42, 44, 45, 46, 47, 48, 49, 50, 51, 52, 53, 54, 55, 56, 57, 58, 249, 250, 251, 252, 253, 211, 212, 213, 18, 19, 214, 215, 216, 217, 254, 228, 229, 230, 289, 290, 291, 292, 293, 294, 295, 296, 297, 298, 299, 300, 301, 302, 303, 304, 305, 306, 307, 308, 309, 310] (by decide +kernel) (by decide +kernel)) (goodIn_sub (fun _ h => List.mem_cons_of_mem _ (List.mem_append_right _ h)) (by decide +kernel))) (goodIn_sub (fun _ h => List.mem_cons_of_mem _ (List.mem_append_left _ (List.mem_append_right _ h))) (by decide +kernel))
set_option maxRecDepth 20000 in
theorem gL_breads_X4_end : GoodIn wsL_breads (wsV RL 69 RX4 yX4_end wsX4_end) := goodIn_app (goodIn_of _ (by decide +kernel)) ggL_breads_X4_end
set_option maxRecDepth 20000 in
theorem ggL_breads_X4_shake : GoodIn wsL_breads wsX4_shake := goodIn_ca (goodIn_ca (goodIn_r _ [258, 16, 14, 259, 260, 261, 8, 262, 81, 82, 17, 18, 19, 20, 21, 22, 10, 11, 23, 24, 25, 26, 27, 28, 29, 30, 31, 32, 33, 34, 35, 36, 37, 38, 39, 40, 41, 42, 43, 44, 45, 46, 47, 48, 49, 50, 51, 52, 53, 54, 55, 56, 57, 58, 289, 290, 291, 292, 293, 294, 295, 296, 297, 298, 299, 300, 301, 302, 303, 304, 305, 306, 307, 308, 309, 310] (by decide +kernel) (by decide +kernel)) (goodIn_sub (fun _ h => List.mem_cons_of_mem _ (List.mem_append_right _ h)) (by decide +kernel))) (goodIn_sub (fun _ h => List.mem_cons_of_mem _ (List.mem_append_left _ (List.mem_append_left _ (List.mem_append_right _ h)))) (by decide +kernel))
set_option maxRecDepth 20000 in
theorem gL_breads_X4_shake : GoodIn wsL_breads (wsV RL 73 RX4 yX4_shake wsX4_shake) := goodIn_app (goodIn_of _ (by decide +kernel)) ggL_breads_X4_shake
set_option maxRecDepth 20000 in
theorem ggL_breads_X4_bestSalt : GoodIn wsL_breads wsX4_bestSalt := goodIn_ca (goodIn_ca (goodIn_r _ [266, 77, 78, 79, 8, 80, 81, 82, 14, 83, 84, 85, 38, 86, 40, 20, 21, 22, 10, 11, 267, 268, 269, 270, 248, 100, 101, 102, 43, 103, 271, 272, 273, 274, 45, 18, 19, 275, 186, 187, 188, 189, 190, 191, 192, 56, 55, 44, 57, 140, 141, 142, 143, 144, 145, 146, 193, 116, 117, 118, 54, 51, 289, 290, 291, 292, 293, 294, 295, 296, 297, 298, 299, 300, 301, 302, 303, 304, 305, 306, 307] (by decide +kernel) (by decide +kernel)) (goodIn_sub (fun _ h => List.mem_cons_of_mem _ (List.mem_append_right _ h)) (by decide +kernel))) (goodIn_sub (fun _ h => List.mem_cons_of_mem _ (List.mem_append_left _ (List.mem_append_left _ (List.mem_append_right _ h)))) (by decide +kernel))
set_option maxRecDepth 20000 in
theorem gL_breads_X4_bestSalt : GoodIn wsL_breads (wsV RL 76 RX4 yX4_bestSalt wsX4_bestSalt) := goodIn_app (goodIn_of _ (by decide +kernel)) ggL_breads_X4_bestSalt
set_option maxRecDepth 20000 in
theorem ggL_breads_L_bucket : GoodIn wsL_breads wsL_bucket := goodIn_r _ [155, 156, 157, 158, 159] (by decide +kernel) (by decide +kernel)
set_option maxRecDepth 20000 in
theorem gL_breads_L_bucket : GoodIn wsL_breads (va_wsS RL 20 yL_bucket wsL_bucket) := goodIn_app (goodIn_of _ (by decide +kernel)) ggL_breads_L_bucket
set_option maxRecDepth 20000 in
theorem ggL_breads_X4_resalt : GoodIn wsL_breads wsX4_resalt := goodIn_ca (goodIn_ca (goodIn_ca (goodIn_r _ [279, 12, 13, 14, 16, 280, 77, 78, 79, 8, 80, 81, 82, 83, 84, 85, 38, 86, 40, 20, 21, 22, 10, 11, 244, 245, 246, 247, 248, 100, 101, 102, 43, 103, 271, 272, 273, 274, 45, 18, 19, 23, 24, 25, 26, 27, 28, 29, 30, 31, 32, 33, 34, 35, 36, 37, 39, 41, 42, 44, 46, 47, 48, 49, 50, 51, 52, 53, 54, 55, 56, 57, 58, 281, 282, 283, 284, 189, 190, 191, 192, 140, 141, 142, 143, 144, 145, 146, 193, 116, 117, 118, 285, 286, 287, 288, 184, 129, 130, 131, 289, 290, 291, 292, 293, 294, 295, 296, 297, 298, 299, 300, 301, 302, 303, 304, 305, 306, 307, 308, 309, 310] (by decide +kernel) (by decide +kernel)) (goodIn_sub (fun _ h => List.mem_cons_of_mem _ (List.mem_append_left _ (List.mem_append_right _ h))) (by decide +kernel))) (goodIn_sub (fun _ h => List.mem_cons_of_mem _ (List.mem_append_right _ h)) (by decide +kernel))) (goodIn_sub (fun _ h => List.mem_cons_of_mem _ (List.mem_append_left _ (List.mem_append_left _ (List.mem_append_right _ h)))) (by decide +kernel))
set_option maxRecDepth 20000 in
theorem gL_breads_X4_resalt : GoodIn wsL_breads (wsV RL 79 RX4 yX4_resalt wsX4_resalt) := goodIn_app (goodIn_of _ (by decide +kernel)) ggL_breads_X4_resalt
