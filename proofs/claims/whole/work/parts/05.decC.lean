theorem dC_init_0 : decode cC_init 0 = .ok (.aload_n 0, 1) := by decide +kernel
theorem dC_init_1 : decode cC_init 1 = .ok (.invokespecial 1, 3) := by decide +kernel
theorem dC_init_4 : decode cC_init 4 = .ok (.aload_n 0, 1) := by decide +kernel
theorem dC_init_5 : decode cC_init 5 = .ok (.bipush 6, 2) := by decide +kernel
theorem dC_init_7 : decode cC_init 7 = .ok (.anewarray 9, 3) := by decide +kernel
theorem dC_init_10 : decode cC_init 10 = .ok (.putfield 11, 3) := by decide +kernel
theorem dC_init_13 : decode cC_init 13 = .ok (.aload_n 0, 1) := by decide +kernel
theorem dC_init_14 : decode cC_init 14 = .ok (.bipush 72, 2) := by decide +kernel
theorem dC_init_16 : decode cC_init 16 = .ok (.anewarray 15, 3) := by decide +kernel
theorem dC_init_19 : decode cC_init 19 = .ok (.putfield 17, 3) := by decide +kernel
theorem dC_init_22 : decode cC_init 22 = .ok (.aload_n 0, 1) := by decide +kernel
theorem dC_init_23 : decode cC_init 23 = .ok (.iconst 0, 1) := by decide +kernel
theorem dC_init_24 : decode cC_init 24 = .ok (.putfield 21, 3) := by decide +kernel
theorem dC_init_27 : decode cC_init 27 = .ok (.iconst 0, 1) := by decide +kernel
theorem dC_init_28 : decode cC_init 28 = .ok (.istore_n 1, 1) := by decide +kernel
theorem dC_init_29 : decode cC_init 29 = .ok (.iload_n 1, 1) := by decide +kernel
theorem dC_init_30 : decode cC_init 30 = .ok (.bipush 6, 2) := by decide +kernel
theorem dC_init_32 : decode cC_init 32 = .ok (.if_icmp .ge 22, 3) := by decide +kernel
theorem dC_init_35 : decode cC_init 35 = .ok (.aload_n 0, 1) := by decide +kernel
theorem dC_init_36 : decode cC_init 36 = .ok (.getfield 11, 3) := by decide +kernel
theorem dC_init_39 : decode cC_init 39 = .ok (.iload_n 1, 1) := by decide +kernel
theorem dC_init_40 : decode cC_init 40 = .ok (.new 9, 3) := by decide +kernel
theorem dC_init_43 : decode cC_init 43 = .ok (.dup, 1) := by decide +kernel
theorem dC_init_44 : decode cC_init 44 = .ok (.invokespecial 25, 3) := by decide +kernel
theorem dC_init_47 : decode cC_init 47 = .ok (.aastore, 1) := by decide +kernel
theorem dC_init_48 : decode cC_init 48 = .ok (.iinc 1 1, 3) := by decide +kernel
theorem dC_init_51 : decode cC_init 51 = .ok (.goto (-22), 3) := by decide +kernel
theorem dC_init_54 : decode cC_init 54 = .ok (.return_, 1) := by decide +kernel
theorem dC_piece_0 : decode cC_piece 0 = .ok (.aload_n 0, 1) := by decide +kernel
theorem dC_piece_1 : decode cC_piece 1 = .ok (.iload_n 1, 1) := by decide +kernel
theorem dC_piece_2 : decode cC_piece 2 = .ok (.invokevirtual 26, 3) := by decide +kernel
theorem dC_piece_5 : decode cC_piece 5 = .ok (.astore 5, 2) := by decide +kernel
theorem dC_piece_7 : decode cC_piece 7 = .ok (.iload_n 2, 1) := by decide +kernel
theorem dC_piece_8 : decode cC_piece 8 = .ok (.bipush 16, 2) := by decide +kernel
theorem dC_piece_10 : decode cC_piece 10 = .ok (.invokestatic 30, 3) := by decide +kernel
theorem dC_piece_13 : decode cC_piece 13 = .ok (.iload_n 3, 1) := by decide +kernel
theorem dC_piece_14 : decode cC_piece 14 = .ok (.iconst 0, 1) := by decide +kernel
theorem dC_piece_15 : decode cC_piece 15 = .ok (.iconst 3, 1) := by decide +kernel
theorem dC_piece_16 : decode cC_piece 16 = .ok (.invokestatic 34, 3) := by decide +kernel
theorem dC_piece_19 : decode cC_piece 19 = .ok (.iload 4, 2) := by decide +kernel
theorem dC_piece_21 : decode cC_piece 21 = .ok (.iconst 0, 1) := by decide +kernel
theorem dC_piece_22 : decode cC_piece 22 = .ok (.sipush 30000, 3) := by decide +kernel
theorem dC_piece_25 : decode cC_piece 25 = .ok (.invokestatic 34, 3) := by decide +kernel
theorem dC_piece_28 : decode cC_piece 28 = .ok (.aload 5, 2) := by decide +kernel
theorem dC_piece_30 : decode cC_piece 30 = .ok (.getfield 38, 3) := by decide +kernel
theorem dC_piece_33 : decode cC_piece 33 = .ok (.bipush 12, 2) := by decide +kernel
theorem dC_piece_35 : decode cC_piece 35 = .ok (.if_icmp .ge 15, 3) := by decide +kernel
theorem dC_piece_38 : decode cC_piece 38 = .ok (.aload_n 0, 1) := by decide +kernel
theorem dC_piece_39 : decode cC_piece 39 = .ok (.getfield 21, 3) := by decide +kernel
theorem dC_piece_42 : decode cC_piece 42 = .ok (.aload_n 0, 1) := by decide +kernel
theorem dC_piece_43 : decode cC_piece 43 = .ok (.getfield 17, 3) := by decide +kernel
theorem dC_piece_46 : decode cC_piece 46 = .ok (.arraylength, 1) := by decide +kernel
theorem dC_piece_47 : decode cC_piece 47 = .ok (.if_icmp .lt 13, 3) := by decide +kernel
theorem dC_piece_50 : decode cC_piece 50 = .ok (.new 41, 3) := by decide +kernel
theorem dC_piece_53 : decode cC_piece 53 = .ok (.dup, 1) := by decide +kernel
theorem dC_piece_54 : decode cC_piece 54 = .ok (.ldc 43, 2) := by decide +kernel
theorem dC_piece_56 : decode cC_piece 56 = .ok (.invokespecial 45, 3) := by decide +kernel
theorem dC_piece_59 : decode cC_piece 59 = .ok (.athrow, 1) := by decide +kernel
theorem dC_piece_60 : decode cC_piece 60 = .ok (.new 15, 3) := by decide +kernel
theorem dC_piece_63 : decode cC_piece 63 = .ok (.dup, 1) := by decide +kernel
theorem dC_piece_64 : decode cC_piece 64 = .ok (.aload 5, 2) := by decide +kernel
theorem dC_piece_66 : decode cC_piece 66 = .ok (.aload_n 0, 1) := by decide +kernel
theorem dC_piece_67 : decode cC_piece 67 = .ok (.getfield 21, 3) := by decide +kernel
theorem dC_piece_70 : decode cC_piece 70 = .ok (.iload_n 2, 1) := by decide +kernel
theorem dC_piece_71 : decode cC_piece 71 = .ok (.iload_n 3, 1) := by decide +kernel
theorem dC_piece_72 : decode cC_piece 72 = .ok (.iload 4, 2) := by decide +kernel
theorem dC_piece_74 : decode cC_piece 74 = .ok (.invokespecial 48, 3) := by decide +kernel
theorem dC_piece_77 : decode cC_piece 77 = .ok (.astore 6, 2) := by decide +kernel
theorem dC_piece_79 : decode cC_piece 79 = .ok (.aload 5, 2) := by decide +kernel
theorem dC_piece_81 : decode cC_piece 81 = .ok (.aload 6, 2) := by decide +kernel
theorem dC_piece_83 : decode cC_piece 83 = .ok (.invokevirtual 51, 3) := by decide +kernel
theorem dC_piece_86 : decode cC_piece 86 = .ok (.aload_n 0, 1) := by decide +kernel
theorem dC_piece_87 : decode cC_piece 87 = .ok (.getfield 17, 3) := by decide +kernel
theorem dC_piece_90 : decode cC_piece 90 = .ok (.aload_n 0, 1) := by decide +kernel
theorem dC_piece_91 : decode cC_piece 91 = .ok (.getfield 21, 3) := by decide +kernel
theorem dC_piece_94 : decode cC_piece 94 = .ok (.aload 6, 2) := by decide +kernel
theorem dC_piece_96 : decode cC_piece 96 = .ok (.aastore, 1) := by decide +kernel
theorem dC_piece_97 : decode cC_piece 97 = .ok (.aload_n 0, 1) := by decide +kernel
theorem dC_piece_98 : decode cC_piece 98 = .ok (.dup, 1) := by decide +kernel
theorem dC_piece_99 : decode cC_piece 99 = .ok (.getfield 21, 3) := by decide +kernel
theorem dC_piece_102 : decode cC_piece 102 = .ok (.iconst 1, 1) := by decide +kernel
theorem dC_piece_103 : decode cC_piece 103 = .ok (.iadd, 1) := by decide +kernel
theorem dC_piece_104 : decode cC_piece 104 = .ok (.putfield 21, 3) := by decide +kernel
theorem dC_piece_107 : decode cC_piece 107 = .ok (.aload 6, 2) := by decide +kernel
theorem dC_piece_109 : decode cC_piece 109 = .ok (.getfield 55, 3) := by decide +kernel
theorem dC_piece_112 : decode cC_piece 112 = .ok (.ireturn, 1) := by decide +kernel
theorem dC_single_0 : decode cC_single 0 = .ok (.aload_n 0, 1) := by decide +kernel
theorem dC_single_1 : decode cC_single 1 = .ok (.iload_n 1, 1) := by decide +kernel
theorem dC_single_2 : decode cC_single 2 = .ok (.invokevirtual 26, 3) := by decide +kernel
theorem dC_single_5 : decode cC_single 5 = .ok (.astore 4, 2) := by decide +kernel
theorem dC_single_7 : decode cC_single 7 = .ok (.iload_n 2, 1) := by decide +kernel
theorem dC_single_8 : decode cC_single 8 = .ok (.bipush 16, 2) := by decide +kernel
theorem dC_single_10 : decode cC_single 10 = .ok (.invokestatic 30, 3) := by decide +kernel
theorem dC_single_13 : decode cC_single 13 = .ok (.aload 4, 2) := by decide +kernel
theorem dC_single_15 : decode cC_single 15 = .ok (.getfield 58, 3) := by decide +kernel
theorem dC_single_18 : decode cC_single 18 = .ok (.iload_n 2, 1) := by decide +kernel
theorem dC_single_19 : decode cC_single 19 = .ok (.baload, 1) := by decide +kernel
theorem dC_single_20 : decode cC_single 20 = .ok (.iload_n 3, 1) := by decide +kernel
theorem dC_single_21 : decode cC_single 21 = .ok (.if_icmp .eq 7, 3) := by decide +kernel
theorem dC_single_24 : decode cC_single 24 = .ok (.iconst 1, 1) := by decide +kernel
theorem dC_single_25 : decode cC_single 25 = .ok (.goto 4, 3) := by decide +kernel
theorem dC_single_28 : decode cC_single 28 = .ok (.iconst 0, 1) := by decide +kernel
theorem dC_single_29 : decode cC_single 29 = .ok (.istore 5, 2) := by decide +kernel
theorem dC_single_31 : decode cC_single 31 = .ok (.aload 4, 2) := by decide +kernel
theorem dC_single_33 : decode cC_single 33 = .ok (.getfield 58, 3) := by decide +kernel
theorem dC_single_36 : decode cC_single 36 = .ok (.iload_n 2, 1) := by decide +kernel
theorem dC_single_37 : decode cC_single 37 = .ok (.iload_n 3, 1) := by decide +kernel
theorem dC_single_38 : decode cC_single 38 = .ok (.bastore, 1) := by decide +kernel
theorem dC_single_39 : decode cC_single 39 = .ok (.aload 4, 2) := by decide +kernel
theorem dC_single_41 : decode cC_single 41 = .ok (.iconst 1, 1) := by decide +kernel
theorem dC_single_42 : decode cC_single 42 = .ok (.putfield 62, 3) := by decide +kernel
theorem dC_single_45 : decode cC_single 45 = .ok (.iload 5, 2) := by decide +kernel
theorem dC_single_47 : decode cC_single 47 = .ok (.ireturn, 1) := by decide +kernel
theorem dC_bound_0 : decode cC_bound 0 = .ok (.aload_n 0, 1) := by decide +kernel
theorem dC_bound_1 : decode cC_bound 1 = .ok (.iload_n 1, 1) := by decide +kernel
theorem dC_bound_2 : decode cC_bound 2 = .ok (.invokevirtual 26, 3) := by decide +kernel
theorem dC_bound_5 : decode cC_bound 5 = .ok (.astore_n 3, 1) := by decide +kernel
theorem dC_bound_6 : decode cC_bound 6 = .ok (.iload_n 2, 1) := by decide +kernel
theorem dC_bound_7 : decode cC_bound 7 = .ok (.iconst 0, 1) := by decide +kernel
theorem dC_bound_8 : decode cC_bound 8 = .ok (.sipush 30000, 3) := by decide +kernel
theorem dC_bound_11 : decode cC_bound 11 = .ok (.invokestatic 34, 3) := by decide +kernel
theorem dC_bound_14 : decode cC_bound 14 = .ok (.aload_n 3, 1) := by decide +kernel
theorem dC_bound_15 : decode cC_bound 15 = .ok (.getfield 66, 3) := by decide +kernel
theorem dC_bound_18 : decode cC_bound 18 = .ok (.istore 4, 2) := by decide +kernel
theorem dC_bound_20 : decode cC_bound 20 = .ok (.aload_n 3, 1) := by decide +kernel
theorem dC_bound_21 : decode cC_bound 21 = .ok (.iload_n 2, 1) := by decide +kernel
theorem dC_bound_22 : decode cC_bound 22 = .ok (.putfield 66, 3) := by decide +kernel
theorem dC_bound_25 : decode cC_bound 25 = .ok (.aload_n 3, 1) := by decide +kernel
theorem dC_bound_26 : decode cC_bound 26 = .ok (.iconst 1, 1) := by decide +kernel
theorem dC_bound_27 : decode cC_bound 27 = .ok (.putfield 62, 3) := by decide +kernel
theorem dC_bound_30 : decode cC_bound 30 = .ok (.iload 4, 2) := by decide +kernel
theorem dC_bound_32 : decode cC_bound 32 = .ok (.ireturn, 1) := by decide +kernel
theorem dC_table_0 : decode cC_table 0 = .ok (.aload_n 0, 1) := by decide +kernel
theorem dC_table_1 : decode cC_table 1 = .ok (.iload_n 1, 1) := by decide +kernel
theorem dC_table_2 : decode cC_table 2 = .ok (.invokevirtual 26, 3) := by decide +kernel
theorem dC_table_5 : decode cC_table 5 = .ok (.astore 5, 2) := by decide +kernel
theorem dC_table_7 : decode cC_table 7 = .ok (.iload_n 2, 1) := by decide +kernel
theorem dC_table_8 : decode cC_table 8 = .ok (.bipush 16, 2) := by decide +kernel
theorem dC_table_10 : decode cC_table 10 = .ok (.invokestatic 30, 3) := by decide +kernel
theorem dC_table_13 : decode cC_table 13 = .ok (.iload 4, 2) := by decide +kernel
theorem dC_table_15 : decode cC_table 15 = .ok (.iconst 0, 1) := by decide +kernel
theorem dC_table_16 : decode cC_table 16 = .ok (.sipush 999, 3) := by decide +kernel
theorem dC_table_19 : decode cC_table 19 = .ok (.invokestatic 34, 3) := by decide +kernel
theorem dC_table_22 : decode cC_table 22 = .ok (.iload_n 3, 1) := by decide +kernel
theorem dC_table_23 : decode cC_table 23 = .ok (.iconst 0, 1) := by decide +kernel
theorem dC_table_24 : decode cC_table 24 = .ok (.iload 4, 2) := by decide +kernel
theorem dC_table_26 : decode cC_table 26 = .ok (.invokestatic 34, 3) := by decide +kernel
theorem dC_table_29 : decode cC_table 29 = .ok (.aload 5, 2) := by decide +kernel
theorem dC_table_31 : decode cC_table 31 = .ok (.getfield 69, 3) := by decide +kernel
theorem dC_table_34 : decode cC_table 34 = .ok (.iload_n 2, 1) := by decide +kernel
theorem dC_table_35 : decode cC_table 35 = .ok (.iload_n 3, 1) := by decide +kernel
theorem dC_table_36 : decode cC_table 36 = .ok (.iastore, 1) := by decide +kernel
theorem dC_table_37 : decode cC_table 37 = .ok (.aload 5, 2) := by decide +kernel
theorem dC_table_39 : decode cC_table 39 = .ok (.getfield 73, 3) := by decide +kernel
theorem dC_table_42 : decode cC_table 42 = .ok (.iload_n 2, 1) := by decide +kernel
theorem dC_table_43 : decode cC_table 43 = .ok (.iload 4, 2) := by decide +kernel
theorem dC_table_45 : decode cC_table 45 = .ok (.iastore, 1) := by decide +kernel
theorem dC_table_46 : decode cC_table 46 = .ok (.return_, 1) := by decide +kernel
theorem dC_worn_0 : decode cC_worn 0 = .ok (.aload_n 0, 1) := by decide +kernel
theorem dC_worn_1 : decode cC_worn 1 = .ok (.iload_n 1, 1) := by decide +kernel
theorem dC_worn_2 : decode cC_worn 2 = .ok (.invokevirtual 76, 3) := by decide +kernel
theorem dC_worn_5 : decode cC_worn 5 = .ok (.astore_n 3, 1) := by decide +kernel
theorem dC_worn_6 : decode cC_worn 6 = .ok (.iload_n 2, 1) := by decide +kernel
theorem dC_worn_7 : decode cC_worn 7 = .ok (.bipush 16, 2) := by decide +kernel
theorem dC_worn_9 : decode cC_worn 9 = .ok (.invokestatic 30, 3) := by decide +kernel
theorem dC_worn_12 : decode cC_worn 12 = .ok (.aload_n 3, 1) := by decide +kernel
theorem dC_worn_13 : decode cC_worn 13 = .ok (.aload_n 3, 1) := by decide +kernel
theorem dC_worn_14 : decode cC_worn 14 = .ok (.getfield 80, 3) := by decide +kernel
theorem dC_worn_17 : decode cC_worn 17 = .ok (.getfield 69, 3) := by decide +kernel
theorem dC_worn_20 : decode cC_worn 20 = .ok (.iload_n 2, 1) := by decide +kernel
theorem dC_worn_21 : decode cC_worn 21 = .ok (.iaload, 1) := by decide +kernel
theorem dC_worn_22 : decode cC_worn 22 = .ok (.putfield 84, 3) := by decide +kernel
theorem dC_worn_25 : decode cC_worn 25 = .ok (.aload_n 3, 1) := by decide +kernel
theorem dC_worn_26 : decode cC_worn 26 = .ok (.aload_n 3, 1) := by decide +kernel
theorem dC_worn_27 : decode cC_worn 27 = .ok (.getfield 80, 3) := by decide +kernel
theorem dC_worn_30 : decode cC_worn 30 = .ok (.getfield 73, 3) := by decide +kernel
theorem dC_worn_33 : decode cC_worn 33 = .ok (.iload_n 2, 1) := by decide +kernel
theorem dC_worn_34 : decode cC_worn 34 = .ok (.iaload, 1) := by decide +kernel
theorem dC_worn_35 : decode cC_worn 35 = .ok (.putfield 87, 3) := by decide +kernel
theorem dC_worn_38 : decode cC_worn 38 = .ok (.aload_n 3, 1) := by decide +kernel
theorem dC_worn_39 : decode cC_worn 39 = .ok (.getfield 80, 3) := by decide +kernel
theorem dC_worn_42 : decode cC_worn 42 = .ok (.iconst 1, 1) := by decide +kernel
theorem dC_worn_43 : decode cC_worn 43 = .ok (.putfield 62, 3) := by decide +kernel
theorem dC_worn_46 : decode cC_worn 46 = .ok (.return_, 1) := by decide +kernel
theorem dC_aged_0 : decode cC_aged 0 = .ok (.aload_n 0, 1) := by decide +kernel
theorem dC_aged_1 : decode cC_aged 1 = .ok (.iload_n 1, 1) := by decide +kernel
theorem dC_aged_2 : decode cC_aged 2 = .ok (.invokevirtual 76, 3) := by decide +kernel
theorem dC_aged_5 : decode cC_aged 5 = .ok (.astore_n 3, 1) := by decide +kernel
theorem dC_aged_6 : decode cC_aged 6 = .ok (.iload_n 2, 1) := by decide +kernel
theorem dC_aged_7 : decode cC_aged 7 = .ok (.iconst 2, 1) := by decide +kernel
theorem dC_aged_8 : decode cC_aged 8 = .ok (.invokestatic 30, 3) := by decide +kernel
theorem dC_aged_11 : decode cC_aged 11 = .ok (.iload_n 2, 1) := by decide +kernel
theorem dC_aged_12 : decode cC_aged 12 = .ok (.ifCond .ne 10, 3) := by decide +kernel
theorem dC_aged_15 : decode cC_aged 15 = .ok (.aload_n 3, 1) := by decide +kernel
theorem dC_aged_16 : decode cC_aged 16 = .ok (.getfield 84, 3) := by decide +kernel
theorem dC_aged_19 : decode cC_aged 19 = .ok (.goto 7, 3) := by decide +kernel
theorem dC_aged_22 : decode cC_aged 22 = .ok (.aload_n 3, 1) := by decide +kernel
theorem dC_aged_23 : decode cC_aged 23 = .ok (.getfield 87, 3) := by decide +kernel
theorem dC_aged_26 : decode cC_aged 26 = .ok (.ireturn, 1) := by decide +kernel
theorem dC_unsure_0 : decode cC_unsure 0 = .ok (.aload_n 0, 1) := by decide +kernel
theorem dC_unsure_1 : decode cC_unsure 1 = .ok (.iload_n 1, 1) := by decide +kernel
theorem dC_unsure_2 : decode cC_unsure 2 = .ok (.invokevirtual 76, 3) := by decide +kernel
theorem dC_unsure_5 : decode cC_unsure 5 = .ok (.astore_n 2, 1) := by decide +kernel
theorem dC_unsure_6 : decode cC_unsure 6 = .ok (.aload_n 2, 1) := by decide +kernel
theorem dC_unsure_7 : decode cC_unsure 7 = .ok (.getfield 90, 3) := by decide +kernel
theorem dC_unsure_10 : decode cC_unsure 10 = .ok (.iconst 3, 1) := by decide +kernel
theorem dC_unsure_11 : decode cC_unsure 11 = .ok (.if_icmp .eq 7, 3) := by decide +kernel
theorem dC_unsure_14 : decode cC_unsure 14 = .ok (.iconst 1, 1) := by decide +kernel
theorem dC_unsure_15 : decode cC_unsure 15 = .ok (.goto 4, 3) := by decide +kernel
theorem dC_unsure_18 : decode cC_unsure 18 = .ok (.iconst 0, 1) := by decide +kernel
theorem dC_unsure_19 : decode cC_unsure 19 = .ok (.istore_n 3, 1) := by decide +kernel
theorem dC_unsure_20 : decode cC_unsure 20 = .ok (.aload_n 2, 1) := by decide +kernel
theorem dC_unsure_21 : decode cC_unsure 21 = .ok (.iconst 3, 1) := by decide +kernel
theorem dC_unsure_22 : decode cC_unsure 22 = .ok (.putfield 90, 3) := by decide +kernel
theorem dC_unsure_25 : decode cC_unsure 25 = .ok (.aload_n 2, 1) := by decide +kernel
theorem dC_unsure_26 : decode cC_unsure 26 = .ok (.getfield 80, 3) := by decide +kernel
theorem dC_unsure_29 : decode cC_unsure 29 = .ok (.iconst 1, 1) := by decide +kernel
theorem dC_unsure_30 : decode cC_unsure 30 = .ok (.putfield 62, 3) := by decide +kernel
theorem dC_unsure_33 : decode cC_unsure 33 = .ok (.iload_n 3, 1) := by decide +kernel
theorem dC_unsure_34 : decode cC_unsure 34 = .ok (.ireturn, 1) := by decide +kernel
theorem dC_clash_0 : decode cC_clash 0 = .ok (.aload_n 0, 1) := by decide +kernel
theorem dC_clash_1 : decode cC_clash 1 = .ok (.iload_n 1, 1) := by decide +kernel
theorem dC_clash_2 : decode cC_clash 2 = .ok (.invokevirtual 76, 3) := by decide +kernel
theorem dC_clash_5 : decode cC_clash 5 = .ok (.astore_n 3, 1) := by decide +kernel
theorem dC_clash_6 : decode cC_clash 6 = .ok (.aload_n 0, 1) := by decide +kernel
theorem dC_clash_7 : decode cC_clash 7 = .ok (.iload_n 2, 1) := by decide +kernel
theorem dC_clash_8 : decode cC_clash 8 = .ok (.invokevirtual 76, 3) := by decide +kernel
theorem dC_clash_11 : decode cC_clash 11 = .ok (.astore 4, 2) := by decide +kernel
theorem dC_clash_13 : decode cC_clash 13 = .ok (.iload_n 1, 1) := by decide +kernel
theorem dC_clash_14 : decode cC_clash 14 = .ok (.iload_n 2, 1) := by decide +kernel
theorem dC_clash_15 : decode cC_clash 15 = .ok (.if_icmp .eq 15, 3) := by decide +kernel
theorem dC_clash_18 : decode cC_clash 18 = .ok (.aload_n 3, 1) := by decide +kernel
theorem dC_clash_19 : decode cC_clash 19 = .ok (.getfield 80, 3) := by decide +kernel
theorem dC_clash_22 : decode cC_clash 22 = .ok (.aload 4, 2) := by decide +kernel
theorem dC_clash_24 : decode cC_clash 24 = .ok (.getfield 80, 3) := by decide +kernel
theorem dC_clash_27 : decode cC_clash 27 = .ok (.if_acmp .eq 13, 3) := by decide +kernel
theorem dC_clash_30 : decode cC_clash 30 = .ok (.new 93, 3) := by decide +kernel
theorem dC_clash_33 : decode cC_clash 33 = .ok (.dup, 1) := by decide +kernel
theorem dC_clash_34 : decode cC_clash 34 = .ok (.ldc 95, 2) := by decide +kernel
theorem dC_clash_36 : decode cC_clash 36 = .ok (.invokespecial 97, 3) := by decide +kernel
theorem dC_clash_39 : decode cC_clash 39 = .ok (.athrow, 1) := by decide +kernel
theorem dC_clash_40 : decode cC_clash 40 = .ok (.aload_n 3, 1) := by decide +kernel
theorem dC_clash_41 : decode cC_clash 41 = .ok (.getfield 80, 3) := by decide +kernel
theorem dC_clash_44 : decode cC_clash 44 = .ok (.aload_n 3, 1) := by decide +kernel
theorem dC_clash_45 : decode cC_clash 45 = .ok (.aload 4, 2) := by decide +kernel
theorem dC_clash_47 : decode cC_clash 47 = .ok (.invokevirtual 98, 3) := by decide +kernel
theorem dC_clash_50 : decode cC_clash 50 = .ok (.ireturn, 1) := by decide +kernel
theorem dC_least_0 : decode cC_least 0 = .ok (.aload_n 0, 1) := by decide +kernel
theorem dC_least_1 : decode cC_least 1 = .ok (.iload_n 1, 1) := by decide +kernel
theorem dC_least_2 : decode cC_least 2 = .ok (.invokevirtual 26, 3) := by decide +kernel
theorem dC_least_5 : decode cC_least 5 = .ok (.invokevirtual 102, 3) := by decide +kernel
theorem dC_least_8 : decode cC_least 8 = .ok (.getfield 106, 3) := by decide +kernel
theorem dC_least_11 : decode cC_least 11 = .ok (.ireturn, 1) := by decide +kernel
theorem dC_animal_0 : decode cC_animal 0 = .ok (.aload_n 0, 1) := by decide +kernel
theorem dC_animal_1 : decode cC_animal 1 = .ok (.iload_n 1, 1) := by decide +kernel
theorem dC_animal_2 : decode cC_animal 2 = .ok (.invokevirtual 76, 3) := by decide +kernel
theorem dC_animal_5 : decode cC_animal 5 = .ok (.astore_n 2, 1) := by decide +kernel
theorem dC_animal_6 : decode cC_animal 6 = .ok (.aload_n 2, 1) := by decide +kernel
theorem dC_animal_7 : decode cC_animal 7 = .ok (.getfield 80, 3) := by decide +kernel
theorem dC_animal_10 : decode cC_animal 10 = .ok (.invokevirtual 102, 3) := by decide +kernel
theorem dC_animal_13 : decode cC_animal 13 = .ok (.aload_n 2, 1) := by decide +kernel
theorem dC_animal_14 : decode cC_animal 14 = .ok (.getfield 111, 3) := by decide +kernel
theorem dC_animal_17 : decode cC_animal 17 = .ok (.invokevirtual 114, 3) := by decide +kernel
theorem dC_animal_20 : decode cC_animal 20 = .ok (.ireturn, 1) := by decide +kernel
theorem dC_clashing_0 : decode cC_clashing 0 = .ok (.aload_n 0, 1) := by decide +kernel
theorem dC_clashing_1 : decode cC_clashing 1 = .ok (.iload_n 1, 1) := by decide +kernel
theorem dC_clashing_2 : decode cC_clashing 2 = .ok (.invokevirtual 26, 3) := by decide +kernel
theorem dC_clashing_5 : decode cC_clashing 5 = .ok (.astore_n 3, 1) := by decide +kernel
theorem dC_clashing_6 : decode cC_clashing 6 = .ok (.iload_n 2, 1) := by decide +kernel
theorem dC_clashing_7 : decode cC_clashing 7 = .ok (.ifCond .ge 13, 3) := by decide +kernel
theorem dC_clashing_10 : decode cC_clashing 10 = .ok (.new 118, 3) := by decide +kernel
theorem dC_clashing_13 : decode cC_clashing 13 = .ok (.dup, 1) := by decide +kernel
theorem dC_clashing_14 : decode cC_clashing 14 = .ok (.ldc 120, 2) := by decide +kernel
theorem dC_clashing_16 : decode cC_clashing 16 = .ok (.invokespecial 122, 3) := by decide +kernel
theorem dC_clashing_19 : decode cC_clashing 19 = .ok (.athrow, 1) := by decide +kernel
theorem dC_clashing_20 : decode cC_clashing 20 = .ok (.aload_n 3, 1) := by decide +kernel
theorem dC_clashing_21 : decode cC_clashing 21 = .ok (.aload_n 3, 1) := by decide +kernel
theorem dC_clashing_22 : decode cC_clashing 22 = .ok (.invokevirtual 102, 3) := by decide +kernel
theorem dC_clashing_25 : decode cC_clashing 25 = .ok (.iload_n 2, 1) := by decide +kernel
theorem dC_clashing_26 : decode cC_clashing 26 = .ok (.invokevirtual 123, 3) := by decide +kernel
theorem dC_clashing_29 : decode cC_clashing 29 = .ok (.invokevirtual 126, 3) := by decide +kernel
theorem dC_clashing_32 : decode cC_clashing 32 = .ok (.ireturn, 1) := by decide +kernel
theorem dC_weight_0 : decode cC_weight 0 = .ok (.aload_n 0, 1) := by decide +kernel
theorem dC_weight_1 : decode cC_weight 1 = .ok (.iload_n 1, 1) := by decide +kernel
theorem dC_weight_2 : decode cC_weight 2 = .ok (.invokevirtual 76, 3) := by decide +kernel
theorem dC_weight_5 : decode cC_weight 5 = .ok (.astore_n 3, 1) := by decide +kernel
theorem dC_weight_6 : decode cC_weight 6 = .ok (.iload_n 2, 1) := by decide +kernel
theorem dC_weight_7 : decode cC_weight 7 = .ok (.iconst 0, 1) := by decide +kernel
theorem dC_weight_8 : decode cC_weight 8 = .ok (.ldc 129, 2) := by decide +kernel
theorem dC_weight_10 : decode cC_weight 10 = .ok (.invokestatic 34, 3) := by decide +kernel
theorem dC_weight_13 : decode cC_weight 13 = .ok (.aload_n 3, 1) := by decide +kernel
theorem dC_weight_14 : decode cC_weight 14 = .ok (.getfield 130, 3) := by decide +kernel
theorem dC_weight_17 : decode cC_weight 17 = .ok (.istore 4, 2) := by decide +kernel
theorem dC_weight_19 : decode cC_weight 19 = .ok (.aload_n 3, 1) := by decide +kernel
theorem dC_weight_20 : decode cC_weight 20 = .ok (.iload_n 2, 1) := by decide +kernel
theorem dC_weight_21 : decode cC_weight 21 = .ok (.putfield 130, 3) := by decide +kernel
theorem dC_weight_24 : decode cC_weight 24 = .ok (.iload 4, 2) := by decide +kernel
theorem dC_weight_26 : decode cC_weight 26 = .ok (.ireturn, 1) := by decide +kernel
theorem dC_sum_0 : decode cC_sum 0 = .ok (.aload_n 0, 1) := by decide +kernel
theorem dC_sum_1 : decode cC_sum 1 = .ok (.iload_n 1, 1) := by decide +kernel
theorem dC_sum_2 : decode cC_sum 2 = .ok (.invokevirtual 26, 3) := by decide +kernel
theorem dC_sum_5 : decode cC_sum 5 = .ok (.invokevirtual 133, 3) := by decide +kernel
theorem dC_sum_8 : decode cC_sum 8 = .ok (.ireturn, 1) := by decide +kernel
theorem dC_share_0 : decode cC_share 0 = .ok (.aload_n 0, 1) := by decide +kernel
theorem dC_share_1 : decode cC_share 1 = .ok (.iload_n 1, 1) := by decide +kernel
theorem dC_share_2 : decode cC_share 2 = .ok (.invokevirtual 26, 3) := by decide +kernel
theorem dC_share_5 : decode cC_share 5 = .ok (.astore_n 3, 1) := by decide +kernel
theorem dC_share_6 : decode cC_share 6 = .ok (.iload_n 2, 1) := by decide +kernel
theorem dC_share_7 : decode cC_share 7 = .ok (.iconst 2, 1) := by decide +kernel
theorem dC_share_8 : decode cC_share 8 = .ok (.invokestatic 30, 3) := by decide +kernel
theorem dC_share_11 : decode cC_share 11 = .ok (.iconst 0, 1) := by decide +kernel
theorem dC_share_12 : decode cC_share 12 = .ok (.istore 4, 2) := by decide +kernel
theorem dC_share_14 : decode cC_share 14 = .ok (.iconst 0, 1) := by decide +kernel
theorem dC_share_15 : decode cC_share 15 = .ok (.istore 5, 2) := by decide +kernel
theorem dC_share_17 : decode cC_share 17 = .ok (.iload 5, 2) := by decide +kernel
theorem dC_share_19 : decode cC_share 19 = .ok (.bipush 6, 2) := by decide +kernel
theorem dC_share_21 : decode cC_share 21 = .ok (.if_icmp .ge 27, 3) := by decide +kernel
theorem dC_share_24 : decode cC_share 24 = .ok (.iload 4, 2) := by decide +kernel
theorem dC_share_26 : decode cC_share 26 = .ok (.aload_n 0, 1) := by decide +kernel
theorem dC_share_27 : decode cC_share 27 = .ok (.getfield 11, 3) := by decide +kernel
theorem dC_share_30 : decode cC_share 30 = .ok (.iload 5, 2) := by decide +kernel
theorem dC_share_32 : decode cC_share 32 = .ok (.aaload, 1) := by decide +kernel
theorem dC_share_33 : decode cC_share 33 = .ok (.invokevirtual 102, 3) := by decide +kernel
theorem dC_share_36 : decode cC_share 36 = .ok (.getfield 106, 3) := by decide +kernel
theorem dC_share_39 : decode cC_share 39 = .ok (.iadd, 1) := by decide +kernel
theorem dC_share_40 : decode cC_share 40 = .ok (.istore 4, 2) := by decide +kernel
theorem dC_share_42 : decode cC_share 42 = .ok (.iinc 5 1, 3) := by decide +kernel
theorem dC_share_45 : decode cC_share 45 = .ok (.goto (-28), 3) := by decide +kernel
theorem dC_share_48 : decode cC_share 48 = .ok (.aload_n 3, 1) := by decide +kernel
theorem dC_share_49 : decode cC_share 49 = .ok (.invokevirtual 102, 3) := by decide +kernel
theorem dC_share_52 : decode cC_share 52 = .ok (.getfield 106, 3) := by decide +kernel
theorem dC_share_55 : decode cC_share 55 = .ok (.iload 4, 2) := by decide +kernel
theorem dC_share_57 : decode cC_share 57 = .ok (.iload_n 2, 1) := by decide +kernel
theorem dC_share_58 : decode cC_share 58 = .ok (.invokestatic 137, 3) := by decide +kernel
theorem dC_share_61 : decode cC_share 61 = .ok (.ireturn, 1) := by decide +kernel
theorem dC_sieve_0 : decode cC_sieve 0 = .ok (.aload_n 0, 1) := by decide +kernel
theorem dC_sieve_1 : decode cC_sieve 1 = .ok (.iload_n 1, 1) := by decide +kernel
theorem dC_sieve_2 : decode cC_sieve 2 = .ok (.invokevirtual 26, 3) := by decide +kernel
theorem dC_sieve_5 : decode cC_sieve 5 = .ok (.astore 4, 2) := by decide +kernel
theorem dC_sieve_7 : decode cC_sieve 7 = .ok (.iload_n 2, 1) := by decide +kernel
theorem dC_sieve_8 : decode cC_sieve 8 = .ok (.iconst 1, 1) := by decide +kernel
theorem dC_sieve_9 : decode cC_sieve 9 = .ok (.sipush 10000, 3) := by decide +kernel
theorem dC_sieve_12 : decode cC_sieve 12 = .ok (.invokestatic 34, 3) := by decide +kernel
theorem dC_sieve_15 : decode cC_sieve 15 = .ok (.iload_n 3, 1) := by decide +kernel
theorem dC_sieve_16 : decode cC_sieve 16 = .ok (.iconst 1, 1) := by decide +kernel
theorem dC_sieve_17 : decode cC_sieve 17 = .ok (.iload_n 2, 1) := by decide +kernel
theorem dC_sieve_18 : decode cC_sieve 18 = .ok (.invokestatic 34, 3) := by decide +kernel
theorem dC_sieve_21 : decode cC_sieve 21 = .ok (.aload 4, 2) := by decide +kernel
theorem dC_sieve_23 : decode cC_sieve 23 = .ok (.iload_n 2, 1) := by decide +kernel
theorem dC_sieve_24 : decode cC_sieve 24 = .ok (.putfield 141, 3) := by decide +kernel
theorem dC_sieve_27 : decode cC_sieve 27 = .ok (.aload 4, 2) := by decide +kernel
theorem dC_sieve_29 : decode cC_sieve 29 = .ok (.iload_n 3, 1) := by decide +kernel
theorem dC_sieve_30 : decode cC_sieve 30 = .ok (.putfield 144, 3) := by decide +kernel
theorem dC_sieve_33 : decode cC_sieve 33 = .ok (.return_, 1) := by decide +kernel
theorem dC_scaled_0 : decode cC_scaled 0 = .ok (.aload_n 0, 1) := by decide +kernel
theorem dC_scaled_1 : decode cC_scaled 1 = .ok (.iload_n 1, 1) := by decide +kernel
theorem dC_scaled_2 : decode cC_scaled 2 = .ok (.invokevirtual 26, 3) := by decide +kernel
theorem dC_scaled_5 : decode cC_scaled 5 = .ok (.astore_n 3, 1) := by decide +kernel
theorem dC_scaled_6 : decode cC_scaled 6 = .ok (.iload_n 2, 1) := by decide +kernel
theorem dC_scaled_7 : decode cC_scaled 7 = .ok (.iconst 3, 1) := by decide +kernel
theorem dC_scaled_8 : decode cC_scaled 8 = .ok (.invokestatic 30, 3) := by decide +kernel
theorem dC_scaled_11 : decode cC_scaled 11 = .ok (.aload_n 3, 1) := by decide +kernel
theorem dC_scaled_12 : decode cC_scaled 12 = .ok (.getfield 38, 3) := by decide +kernel
theorem dC_scaled_15 : decode cC_scaled 15 = .ok (.aload_n 3, 1) := by decide +kernel
theorem dC_scaled_16 : decode cC_scaled 16 = .ok (.getfield 141, 3) := by decide +kernel
theorem dC_scaled_19 : decode cC_scaled 19 = .ok (.imul, 1) := by decide +kernel
theorem dC_scaled_20 : decode cC_scaled 20 = .ok (.istore 4, 2) := by decide +kernel
theorem dC_scaled_22 : decode cC_scaled 22 = .ok (.iload 4, 2) := by decide +kernel
theorem dC_scaled_24 : decode cC_scaled 24 = .ok (.aload_n 3, 1) := by decide +kernel
theorem dC_scaled_25 : decode cC_scaled 25 = .ok (.getfield 144, 3) := by decide +kernel
theorem dC_scaled_28 : decode cC_scaled 28 = .ok (.invokestatic 147, 3) := by decide +kernel
theorem dC_scaled_31 : decode cC_scaled 31 = .ok (.istore 5, 2) := by decide +kernel
theorem dC_scaled_33 : decode cC_scaled 33 = .ok (.iload_n 2, 1) := by decide +kernel
theorem dC_scaled_34 : decode cC_scaled 34 = .ok (.ifCond .ne 6, 3) := by decide +kernel
theorem dC_scaled_37 : decode cC_scaled 37 = .ok (.iload 5, 2) := by decide +kernel
theorem dC_scaled_39 : decode cC_scaled 39 = .ok (.ireturn, 1) := by decide +kernel
theorem dC_scaled_40 : decode cC_scaled 40 = .ok (.iload 4, 2) := by decide +kernel
theorem dC_scaled_42 : decode cC_scaled 42 = .ok (.iload 5, 2) := by decide +kernel
theorem dC_scaled_44 : decode cC_scaled 44 = .ok (.aload_n 3, 1) := by decide +kernel
theorem dC_scaled_45 : decode cC_scaled 45 = .ok (.getfield 144, 3) := by decide +kernel
theorem dC_scaled_48 : decode cC_scaled 48 = .ok (.imul, 1) := by decide +kernel
theorem dC_scaled_49 : decode cC_scaled 49 = .ok (.isub, 1) := by decide +kernel
theorem dC_scaled_50 : decode cC_scaled 50 = .ok (.istore 6, 2) := by decide +kernel
theorem dC_scaled_52 : decode cC_scaled 52 = .ok (.iload 6, 2) := by decide +kernel
theorem dC_scaled_54 : decode cC_scaled 54 = .ok (.aload_n 3, 1) := by decide +kernel
theorem dC_scaled_55 : decode cC_scaled 55 = .ok (.getfield 144, 3) := by decide +kernel
theorem dC_scaled_58 : decode cC_scaled 58 = .ok (.iload_n 2, 1) := by decide +kernel
theorem dC_scaled_59 : decode cC_scaled 59 = .ok (.iconst 1, 1) := by decide +kernel
theorem dC_scaled_60 : decode cC_scaled 60 = .ok (.if_icmp .ne 7, 3) := by decide +kernel
theorem dC_scaled_63 : decode cC_scaled 63 = .ok (.iconst 0, 1) := by decide +kernel
theorem dC_scaled_64 : decode cC_scaled 64 = .ok (.goto 4, 3) := by decide +kernel
theorem dC_scaled_67 : decode cC_scaled 67 = .ok (.iconst 1, 1) := by decide +kernel
theorem dC_scaled_68 : decode cC_scaled 68 = .ok (.invokestatic 137, 3) := by decide +kernel
theorem dC_scaled_71 : decode cC_scaled 71 = .ok (.ireturn, 1) := by decide +kernel
theorem dC_diverse_0 : decode cC_diverse 0 = .ok (.iload_n 1, 1) := by decide +kernel
theorem dC_diverse_1 : decode cC_diverse 1 = .ok (.iconst 2, 1) := by decide +kernel
theorem dC_diverse_2 : decode cC_diverse 2 = .ok (.invokestatic 30, 3) := by decide +kernel
theorem dC_diverse_5 : decode cC_diverse 5 = .ok (.iconst 0, 1) := by decide +kernel
theorem dC_diverse_6 : decode cC_diverse 6 = .ok (.istore_n 2, 1) := by decide +kernel
theorem dC_diverse_7 : decode cC_diverse 7 = .ok (.iconst 0, 1) := by decide +kernel
theorem dC_diverse_8 : decode cC_diverse 8 = .ok (.istore_n 3, 1) := by decide +kernel
theorem dC_diverse_9 : decode cC_diverse 9 = .ok (.iload_n 3, 1) := by decide +kernel
theorem dC_diverse_10 : decode cC_diverse 10 = .ok (.bipush 6, 2) := by decide +kernel
theorem dC_diverse_12 : decode cC_diverse 12 = .ok (.if_icmp .ge 24, 3) := by decide +kernel
theorem dC_diverse_15 : decode cC_diverse 15 = .ok (.iload_n 2, 1) := by decide +kernel
theorem dC_diverse_16 : decode cC_diverse 16 = .ok (.aload_n 0, 1) := by decide +kernel
theorem dC_diverse_17 : decode cC_diverse 17 = .ok (.getfield 11, 3) := by decide +kernel
theorem dC_diverse_20 : decode cC_diverse 20 = .ok (.iload_n 3, 1) := by decide +kernel
theorem dC_diverse_21 : decode cC_diverse 21 = .ok (.aaload, 1) := by decide +kernel
theorem dC_diverse_22 : decode cC_diverse 22 = .ok (.getfield 38, 3) := by decide +kernel
theorem dC_diverse_25 : decode cC_diverse 25 = .ok (.invokestatic 151, 3) := by decide +kernel
theorem dC_diverse_28 : decode cC_diverse 28 = .ok (.iadd, 1) := by decide +kernel
theorem dC_diverse_29 : decode cC_diverse 29 = .ok (.istore_n 2, 1) := by decide +kernel
theorem dC_diverse_30 : decode cC_diverse 30 = .ok (.iinc 3 1, 3) := by decide +kernel
theorem dC_diverse_33 : decode cC_diverse 33 = .ok (.goto (-24), 3) := by decide +kernel
theorem dC_diverse_36 : decode cC_diverse 36 = .ok (.aload_n 0, 1) := by decide +kernel
theorem dC_diverse_37 : decode cC_diverse 37 = .ok (.getfield 21, 3) := by decide +kernel
theorem dC_diverse_40 : decode cC_diverse 40 = .ok (.invokestatic 151, 3) := by decide +kernel
theorem dC_diverse_43 : decode cC_diverse 43 = .ok (.istore_n 3, 1) := by decide +kernel
theorem dC_diverse_44 : decode cC_diverse 44 = .ok (.iload_n 3, 1) := by decide +kernel
theorem dC_diverse_45 : decode cC_diverse 45 = .ok (.iload_n 2, 1) := by decide +kernel
theorem dC_diverse_46 : decode cC_diverse 46 = .ok (.isub, 1) := by decide +kernel
theorem dC_diverse_47 : decode cC_diverse 47 = .ok (.iload_n 3, 1) := by decide +kernel
theorem dC_diverse_48 : decode cC_diverse 48 = .ok (.iload_n 1, 1) := by decide +kernel
theorem dC_diverse_49 : decode cC_diverse 49 = .ok (.invokestatic 137, 3) := by decide +kernel
theorem dC_diverse_52 : decode cC_diverse 52 = .ok (.ireturn, 1) := by decide +kernel
theorem dC_pieces_0 : decode cC_pieces 0 = .ok (.iload_n 1, 1) := by decide +kernel
theorem dC_pieces_1 : decode cC_pieces 1 = .ok (.iconst (-1), 1) := by decide +kernel
theorem dC_pieces_2 : decode cC_pieces 2 = .ok (.if_icmp .ne 10, 3) := by decide +kernel
theorem dC_pieces_5 : decode cC_pieces 5 = .ok (.aload_n 0, 1) := by decide +kernel
theorem dC_pieces_6 : decode cC_pieces 6 = .ok (.getfield 21, 3) := by decide +kernel
theorem dC_pieces_9 : decode cC_pieces 9 = .ok (.goto 11, 3) := by decide +kernel
theorem dC_pieces_12 : decode cC_pieces 12 = .ok (.aload_n 0, 1) := by decide +kernel
theorem dC_pieces_13 : decode cC_pieces 13 = .ok (.iload_n 1, 1) := by decide +kernel
theorem dC_pieces_14 : decode cC_pieces 14 = .ok (.invokevirtual 26, 3) := by decide +kernel
theorem dC_pieces_17 : decode cC_pieces 17 = .ok (.getfield 38, 3) := by decide +kernel
theorem dC_pieces_20 : decode cC_pieces 20 = .ok (.ireturn, 1) := by decide +kernel
theorem dC_kindAt_0 : decode cC_kindAt 0 = .ok (.iload_n 1, 1) := by decide +kernel
theorem dC_kindAt_1 : decode cC_kindAt 1 = .ok (.ifCond .lt 9, 3) := by decide +kernel
theorem dC_kindAt_4 : decode cC_kindAt 4 = .ok (.iload_n 1, 1) := by decide +kernel
theorem dC_kindAt_5 : decode cC_kindAt 5 = .ok (.bipush 6, 2) := by decide +kernel
theorem dC_kindAt_7 : decode cC_kindAt 7 = .ok (.if_icmp .lt 13, 3) := by decide +kernel
theorem dC_kindAt_10 : decode cC_kindAt 10 = .ok (.new 118, 3) := by decide +kernel
theorem dC_kindAt_13 : decode cC_kindAt 13 = .ok (.dup, 1) := by decide +kernel
theorem dC_kindAt_14 : decode cC_kindAt 14 = .ok (.ldc 154, 2) := by decide +kernel
theorem dC_kindAt_16 : decode cC_kindAt 16 = .ok (.invokespecial 122, 3) := by decide +kernel
theorem dC_kindAt_19 : decode cC_kindAt 19 = .ok (.athrow, 1) := by decide +kernel
theorem dC_kindAt_20 : decode cC_kindAt 20 = .ok (.aload_n 0, 1) := by decide +kernel
theorem dC_kindAt_21 : decode cC_kindAt 21 = .ok (.getfield 11, 3) := by decide +kernel
theorem dC_kindAt_24 : decode cC_kindAt 24 = .ok (.iload_n 1, 1) := by decide +kernel
theorem dC_kindAt_25 : decode cC_kindAt 25 = .ok (.aaload, 1) := by decide +kernel
theorem dC_kindAt_26 : decode cC_kindAt 26 = .ok (.areturn, 1) := by decide +kernel
theorem dC_pieceAt_0 : decode cC_pieceAt 0 = .ok (.iload_n 1, 1) := by decide +kernel
theorem dC_pieceAt_1 : decode cC_pieceAt 1 = .ok (.ifCond .lt 11, 3) := by decide +kernel
theorem dC_pieceAt_4 : decode cC_pieceAt 4 = .ok (.iload_n 1, 1) := by decide +kernel
theorem dC_pieceAt_5 : decode cC_pieceAt 5 = .ok (.aload_n 0, 1) := by decide +kernel
theorem dC_pieceAt_6 : decode cC_pieceAt 6 = .ok (.getfield 21, 3) := by decide +kernel
theorem dC_pieceAt_9 : decode cC_pieceAt 9 = .ok (.if_icmp .lt 13, 3) := by decide +kernel
theorem dC_pieceAt_12 : decode cC_pieceAt 12 = .ok (.new 118, 3) := by decide +kernel
theorem dC_pieceAt_15 : decode cC_pieceAt 15 = .ok (.dup, 1) := by decide +kernel
theorem dC_pieceAt_16 : decode cC_pieceAt 16 = .ok (.ldc 156, 2) := by decide +kernel
theorem dC_pieceAt_18 : decode cC_pieceAt 18 = .ok (.invokespecial 122, 3) := by decide +kernel
theorem dC_pieceAt_21 : decode cC_pieceAt 21 = .ok (.athrow, 1) := by decide +kernel
theorem dC_pieceAt_22 : decode cC_pieceAt 22 = .ok (.aload_n 0, 1) := by decide +kernel
theorem dC_pieceAt_23 : decode cC_pieceAt 23 = .ok (.getfield 17, 3) := by decide +kernel
theorem dC_pieceAt_26 : decode cC_pieceAt 26 = .ok (.iload_n 1, 1) := by decide +kernel
theorem dC_pieceAt_27 : decode cC_pieceAt 27 = .ok (.aaload, 1) := by decide +kernel
theorem dC_pieceAt_28 : decode cC_pieceAt 28 = .ok (.areturn, 1) := by decide +kernel
theorem dC_checkIndex_0 : decode cC_checkIndex 0 = .ok (.iload_n 0, 1) := by decide +kernel
theorem dC_checkIndex_1 : decode cC_checkIndex 1 = .ok (.ifCond .lt 8, 3) := by decide +kernel
theorem dC_checkIndex_4 : decode cC_checkIndex 4 = .ok (.iload_n 0, 1) := by decide +kernel
theorem dC_checkIndex_5 : decode cC_checkIndex 5 = .ok (.iload_n 1, 1) := by decide +kernel
theorem dC_checkIndex_6 : decode cC_checkIndex 6 = .ok (.if_icmp .lt 13, 3) := by decide +kernel
theorem dC_checkIndex_9 : decode cC_checkIndex 9 = .ok (.new 118, 3) := by decide +kernel
theorem dC_checkIndex_12 : decode cC_checkIndex 12 = .ok (.dup, 1) := by decide +kernel
theorem dC_checkIndex_13 : decode cC_checkIndex 13 = .ok (.ldc 158, 2) := by decide +kernel
theorem dC_checkIndex_15 : decode cC_checkIndex 15 = .ok (.invokespecial 122, 3) := by decide +kernel
theorem dC_checkIndex_18 : decode cC_checkIndex 18 = .ok (.athrow, 1) := by decide +kernel
theorem dC_checkIndex_19 : decode cC_checkIndex 19 = .ok (.return_, 1) := by decide +kernel
theorem dC_checkRange_0 : decode cC_checkRange 0 = .ok (.iload_n 0, 1) := by decide +kernel
theorem dC_checkRange_1 : decode cC_checkRange 1 = .ok (.iload_n 1, 1) := by decide +kernel
theorem dC_checkRange_2 : decode cC_checkRange 2 = .ok (.if_icmp .lt 8, 3) := by decide +kernel
theorem dC_checkRange_5 : decode cC_checkRange 5 = .ok (.iload_n 0, 1) := by decide +kernel
theorem dC_checkRange_6 : decode cC_checkRange 6 = .ok (.iload_n 2, 1) := by decide +kernel
theorem dC_checkRange_7 : decode cC_checkRange 7 = .ok (.if_icmp .le 13, 3) := by decide +kernel
theorem dC_checkRange_10 : decode cC_checkRange 10 = .ok (.new 93, 3) := by decide +kernel
theorem dC_checkRange_13 : decode cC_checkRange 13 = .ok (.dup, 1) := by decide +kernel
theorem dC_checkRange_14 : decode cC_checkRange 14 = .ok (.ldc 160, 2) := by decide +kernel
theorem dC_checkRange_16 : decode cC_checkRange 16 = .ok (.invokespecial 97, 3) := by decide +kernel
theorem dC_checkRange_19 : decode cC_checkRange 19 = .ok (.athrow, 1) := by decide +kernel
theorem dC_checkRange_20 : decode cC_checkRange 20 = .ok (.return_, 1) := by decide +kernel
theorem dC_orderedPairs_0 : decode cC_orderedPairs 0 = .ok (.iload_n 0, 1) := by decide +kernel
theorem dC_orderedPairs_1 : decode cC_orderedPairs 1 = .ok (.iload_n 0, 1) := by decide +kernel
theorem dC_orderedPairs_2 : decode cC_orderedPairs 2 = .ok (.iconst 1, 1) := by decide +kernel
theorem dC_orderedPairs_3 : decode cC_orderedPairs 3 = .ok (.isub, 1) := by decide +kernel
theorem dC_orderedPairs_4 : decode cC_orderedPairs 4 = .ok (.imul, 1) := by decide +kernel
theorem dC_orderedPairs_5 : decode cC_orderedPairs 5 = .ok (.ireturn, 1) := by decide +kernel
theorem dC_quotient_0 : decode cC_quotient 0 = .ok (.iload_n 1, 1) := by decide +kernel
theorem dC_quotient_1 : decode cC_quotient 1 = .ok (.ifCond .ne 7, 3) := by decide +kernel
theorem dC_quotient_4 : decode cC_quotient 4 = .ok (.iconst 0, 1) := by decide +kernel
theorem dC_quotient_5 : decode cC_quotient 5 = .ok (.goto 6, 3) := by decide +kernel
theorem dC_quotient_8 : decode cC_quotient 8 = .ok (.iload_n 0, 1) := by decide +kernel
theorem dC_quotient_9 : decode cC_quotient 9 = .ok (.iload_n 1, 1) := by decide +kernel
theorem dC_quotient_10 : decode cC_quotient 10 = .ok (.idiv, 1) := by decide +kernel
theorem dC_quotient_11 : decode cC_quotient 11 = .ok (.ireturn, 1) := by decide +kernel
theorem dC_lessened_0 : decode cC_lessened 0 = .ok (.iload_n 1, 1) := by decide +kernel
theorem dC_lessened_1 : decode cC_lessened 1 = .ok (.ifCond .ne 13, 3) := by decide +kernel
theorem dC_lessened_4 : decode cC_lessened 4 = .ok (.iload_n 2, 1) := by decide +kernel
theorem dC_lessened_5 : decode cC_lessened 5 = .ok (.ifCond .ne 7, 3) := by decide +kernel
theorem dC_lessened_8 : decode cC_lessened 8 = .ok (.iconst 0, 1) := by decide +kernel
theorem dC_lessened_9 : decode cC_lessened 9 = .ok (.goto 4, 3) := by decide +kernel
theorem dC_lessened_12 : decode cC_lessened 12 = .ok (.iconst 1, 1) := by decide +kernel
theorem dC_lessened_13 : decode cC_lessened 13 = .ok (.ireturn, 1) := by decide +kernel
theorem dC_lessened_14 : decode cC_lessened 14 = .ok (.iload_n 2, 1) := by decide +kernel
theorem dC_lessened_15 : decode cC_lessened 15 = .ok (.ifCond .ne 7, 3) := by decide +kernel
theorem dC_lessened_18 : decode cC_lessened 18 = .ok (.iload_n 0, 1) := by decide +kernel
theorem dC_lessened_19 : decode cC_lessened 19 = .ok (.goto 4, 3) := by decide +kernel
theorem dC_lessened_22 : decode cC_lessened 22 = .ok (.iload_n 1, 1) := by decide +kernel
theorem dC_lessened_23 : decode cC_lessened 23 = .ok (.iload_n 0, 1) := by decide +kernel
theorem dC_lessened_24 : decode cC_lessened 24 = .ok (.iload_n 1, 1) := by decide +kernel
theorem dC_lessened_25 : decode cC_lessened 25 = .ok (.invokestatic 162, 3) := by decide +kernel
theorem dC_lessened_28 : decode cC_lessened 28 = .ok (.invokestatic 147, 3) := by decide +kernel
theorem dC_lessened_31 : decode cC_lessened 31 = .ok (.ireturn, 1) := by decide +kernel
theorem dC_commonDivisor_0 : decode cC_commonDivisor 0 = .ok (.iload_n 0, 1) := by decide +kernel
theorem dC_commonDivisor_1 : decode cC_commonDivisor 1 = .ok (.istore_n 2, 1) := by decide +kernel
theorem dC_commonDivisor_2 : decode cC_commonDivisor 2 = .ok (.iload_n 1, 1) := by decide +kernel
theorem dC_commonDivisor_3 : decode cC_commonDivisor 3 = .ok (.istore_n 3, 1) := by decide +kernel
theorem dC_commonDivisor_4 : decode cC_commonDivisor 4 = .ok (.iconst 0, 1) := by decide +kernel
theorem dC_commonDivisor_5 : decode cC_commonDivisor 5 = .ok (.istore 4, 2) := by decide +kernel
theorem dC_commonDivisor_7 : decode cC_commonDivisor 7 = .ok (.iload 4, 2) := by decide +kernel
theorem dC_commonDivisor_9 : decode cC_commonDivisor 9 = .ok (.bipush 64, 2) := by decide +kernel
theorem dC_commonDivisor_11 : decode cC_commonDivisor 11 = .ok (.if_icmp .ge 23, 3) := by decide +kernel
theorem dC_commonDivisor_14 : decode cC_commonDivisor 14 = .ok (.iload_n 3, 1) := by decide +kernel
theorem dC_commonDivisor_15 : decode cC_commonDivisor 15 = .ok (.ifCond .eq 19, 3) := by decide +kernel
theorem dC_commonDivisor_18 : decode cC_commonDivisor 18 = .ok (.iload_n 2, 1) := by decide +kernel
theorem dC_commonDivisor_19 : decode cC_commonDivisor 19 = .ok (.iload_n 3, 1) := by decide +kernel
theorem dC_commonDivisor_20 : decode cC_commonDivisor 20 = .ok (.irem, 1) := by decide +kernel
theorem dC_commonDivisor_21 : decode cC_commonDivisor 21 = .ok (.istore 5, 2) := by decide +kernel
theorem dC_commonDivisor_23 : decode cC_commonDivisor 23 = .ok (.iload_n 3, 1) := by decide +kernel
theorem dC_commonDivisor_24 : decode cC_commonDivisor 24 = .ok (.istore_n 2, 1) := by decide +kernel
theorem dC_commonDivisor_25 : decode cC_commonDivisor 25 = .ok (.iload 5, 2) := by decide +kernel
theorem dC_commonDivisor_27 : decode cC_commonDivisor 27 = .ok (.istore_n 3, 1) := by decide +kernel
theorem dC_commonDivisor_28 : decode cC_commonDivisor 28 = .ok (.iinc 4 1, 3) := by decide +kernel
theorem dC_commonDivisor_31 : decode cC_commonDivisor 31 = .ok (.goto (-24), 3) := by decide +kernel
theorem dC_commonDivisor_34 : decode cC_commonDivisor 34 = .ok (.iload_n 2, 1) := by decide +kernel
theorem dC_commonDivisor_35 : decode cC_commonDivisor 35 = .ok (.ireturn, 1) := by decide +kernel
theorem dK_init_0 : decode cK_init 0 = .ok (.aload_n 0, 1) := by decide +kernel
theorem dK_init_1 : decode cK_init 1 = .ok (.invokespecial 3, 3) := by decide +kernel
theorem dK_init_4 : decode cK_init 4 = .ok (.aload_n 0, 1) := by decide +kernel
theorem dK_init_5 : decode cK_init 5 = .ok (.bipush 16, 2) := by decide +kernel
theorem dK_init_7 : decode cK_init 7 = .ok (.newarray .boolean, 2) := by decide +kernel
theorem dK_init_9 : decode cK_init 9 = .ok (.putfield 9, 3) := by decide +kernel
theorem dK_init_12 : decode cK_init 12 = .ok (.aload_n 0, 1) := by decide +kernel
theorem dK_init_13 : decode cK_init 13 = .ok (.bipush 16, 2) := by decide +kernel
theorem dK_init_15 : decode cK_init 15 = .ok (.newarray .int, 2) := by decide +kernel
theorem dK_init_17 : decode cK_init 17 = .ok (.putfield 15, 3) := by decide +kernel
theorem dK_init_20 : decode cK_init 20 = .ok (.aload_n 0, 1) := by decide +kernel
theorem dK_init_21 : decode cK_init 21 = .ok (.bipush 16, 2) := by decide +kernel
theorem dK_init_23 : decode cK_init 23 = .ok (.newarray .int, 2) := by decide +kernel
theorem dK_init_25 : decode cK_init 25 = .ok (.putfield 19, 3) := by decide +kernel
theorem dK_init_28 : decode cK_init 28 = .ok (.aload_n 0, 1) := by decide +kernel
theorem dK_init_29 : decode cK_init 29 = .ok (.sipush 30000, 3) := by decide +kernel
theorem dK_init_32 : decode cK_init 32 = .ok (.putfield 22, 3) := by decide +kernel
theorem dK_init_35 : decode cK_init 35 = .ok (.aload_n 0, 1) := by decide +kernel
theorem dK_init_36 : decode cK_init 36 = .ok (.iconst 1, 1) := by decide +kernel
theorem dK_init_37 : decode cK_init 37 = .ok (.putfield 26, 3) := by decide +kernel
theorem dK_init_40 : decode cK_init 40 = .ok (.aload_n 0, 1) := by decide +kernel
theorem dK_init_41 : decode cK_init 41 = .ok (.iconst 1, 1) := by decide +kernel
theorem dK_init_42 : decode cK_init 42 = .ok (.putfield 29, 3) := by decide +kernel
theorem dK_init_45 : decode cK_init 45 = .ok (.aload_n 0, 1) := by decide +kernel
theorem dK_init_46 : decode cK_init 46 = .ok (.iconst 0, 1) := by decide +kernel
theorem dK_init_47 : decode cK_init 47 = .ok (.putfield 32, 3) := by decide +kernel
theorem dK_init_50 : decode cK_init 50 = .ok (.aload_n 0, 1) := by decide +kernel
theorem dK_init_51 : decode cK_init 51 = .ok (.iconst 0, 1) := by decide +kernel
theorem dK_init_52 : decode cK_init 52 = .ok (.putfield 35, 3) := by decide +kernel
theorem dK_init_55 : decode cK_init 55 = .ok (.aload_n 0, 1) := by decide +kernel
theorem dK_init_56 : decode cK_init 56 = .ok (.bipush 12, 2) := by decide +kernel
theorem dK_init_58 : decode cK_init 58 = .ok (.anewarray 39, 3) := by decide +kernel
theorem dK_init_61 : decode cK_init 61 = .ok (.putfield 41, 3) := by decide +kernel
theorem dK_init_64 : decode cK_init 64 = .ok (.aload_n 0, 1) := by decide +kernel
theorem dK_init_65 : decode cK_init 65 = .ok (.new 45, 3) := by decide +kernel
theorem dK_init_68 : decode cK_init 68 = .ok (.dup, 1) := by decide +kernel
theorem dK_init_69 : decode cK_init 69 = .ok (.invokespecial 47, 3) := by decide +kernel
theorem dK_init_72 : decode cK_init 72 = .ok (.putfield 48, 3) := by decide +kernel
theorem dK_init_75 : decode cK_init 75 = .ok (.iconst 0, 1) := by decide +kernel
theorem dK_init_76 : decode cK_init 76 = .ok (.istore_n 1, 1) := by decide +kernel
theorem dK_init_77 : decode cK_init 77 = .ok (.iload_n 1, 1) := by decide +kernel
theorem dK_init_78 : decode cK_init 78 = .ok (.bipush 16, 2) := by decide +kernel
theorem dK_init_80 : decode cK_init 80 = .ok (.if_icmp .ge 18, 3) := by decide +kernel
theorem dK_init_83 : decode cK_init 83 = .ok (.aload_n 0, 1) := by decide +kernel
theorem dK_init_84 : decode cK_init 84 = .ok (.getfield 19, 3) := by decide +kernel
theorem dK_init_87 : decode cK_init 87 = .ok (.iload_n 1, 1) := by decide +kernel
theorem dK_init_88 : decode cK_init 88 = .ok (.sipush 999, 3) := by decide +kernel
theorem dK_init_91 : decode cK_init 91 = .ok (.iastore, 1) := by decide +kernel
theorem dK_init_92 : decode cK_init 92 = .ok (.iinc 1 1, 3) := by decide +kernel
theorem dK_init_95 : decode cK_init 95 = .ok (.goto (-18), 3) := by decide +kernel
theorem dK_init_98 : decode cK_init 98 = .ok (.return_, 1) := by decide +kernel
theorem dK_take_0 : decode cK_take 0 = .ok (.aload_n 0, 1) := by decide +kernel
theorem dK_take_1 : decode cK_take 1 = .ok (.getfield 32, 3) := by decide +kernel
theorem dK_take_4 : decode cK_take 4 = .ok (.aload_n 0, 1) := by decide +kernel
theorem dK_take_5 : decode cK_take 5 = .ok (.getfield 41, 3) := by decide +kernel
theorem dK_take_8 : decode cK_take 8 = .ok (.arraylength, 1) := by decide +kernel
theorem dK_take_9 : decode cK_take 9 = .ok (.if_icmp .ge 28, 3) := by decide +kernel
theorem dK_take_12 : decode cK_take 12 = .ok (.aload_n 0, 1) := by decide +kernel
theorem dK_take_13 : decode cK_take 13 = .ok (.getfield 41, 3) := by decide +kernel
theorem dK_take_16 : decode cK_take 16 = .ok (.aload_n 0, 1) := by decide +kernel
theorem dK_take_17 : decode cK_take 17 = .ok (.getfield 32, 3) := by decide +kernel
theorem dK_take_20 : decode cK_take 20 = .ok (.aload_n 1, 1) := by decide +kernel
theorem dK_take_21 : decode cK_take 21 = .ok (.aastore, 1) := by decide +kernel
theorem dK_take_22 : decode cK_take 22 = .ok (.aload_n 0, 1) := by decide +kernel
theorem dK_take_23 : decode cK_take 23 = .ok (.dup, 1) := by decide +kernel
theorem dK_take_24 : decode cK_take 24 = .ok (.getfield 32, 3) := by decide +kernel
theorem dK_take_27 : decode cK_take 27 = .ok (.iconst 1, 1) := by decide +kernel
theorem dK_take_28 : decode cK_take 28 = .ok (.iadd, 1) := by decide +kernel
theorem dK_take_29 : decode cK_take 29 = .ok (.putfield 32, 3) := by decide +kernel
theorem dK_take_32 : decode cK_take 32 = .ok (.aload_n 0, 1) := by decide +kernel
theorem dK_take_33 : decode cK_take 33 = .ok (.iconst 1, 1) := by decide +kernel
theorem dK_take_34 : decode cK_take 34 = .ok (.putfield 35, 3) := by decide +kernel
theorem dK_take_37 : decode cK_take 37 = .ok (.return_, 1) := by decide +kernel
theorem dK_numberAt_0 : decode cK_numberAt 0 = .ok (.iload_n 1, 1) := by decide +kernel
theorem dK_numberAt_1 : decode cK_numberAt 1 = .ok (.ifCond .lt 11, 3) := by decide +kernel
theorem dK_numberAt_4 : decode cK_numberAt 4 = .ok (.iload_n 1, 1) := by decide +kernel
theorem dK_numberAt_5 : decode cK_numberAt 5 = .ok (.aload_n 0, 1) := by decide +kernel
theorem dK_numberAt_6 : decode cK_numberAt 6 = .ok (.getfield 32, 3) := by decide +kernel
theorem dK_numberAt_9 : decode cK_numberAt 9 = .ok (.if_icmp .lt 7, 3) := by decide +kernel
theorem dK_numberAt_12 : decode cK_numberAt 12 = .ok (.iconst (-1), 1) := by decide +kernel
theorem dK_numberAt_13 : decode cK_numberAt 13 = .ok (.goto 12, 3) := by decide +kernel
theorem dK_numberAt_16 : decode cK_numberAt 16 = .ok (.aload_n 0, 1) := by decide +kernel
theorem dK_numberAt_17 : decode cK_numberAt 17 = .ok (.getfield 41, 3) := by decide +kernel
theorem dK_numberAt_20 : decode cK_numberAt 20 = .ok (.iload_n 1, 1) := by decide +kernel
theorem dK_numberAt_21 : decode cK_numberAt 21 = .ok (.aaload, 1) := by decide +kernel
theorem dK_numberAt_22 : decode cK_numberAt 22 = .ok (.getfield 52, 3) := by decide +kernel
theorem dK_numberAt_25 : decode cK_numberAt 25 = .ok (.ireturn, 1) := by decide +kernel
theorem dK_gramsTogether_0 : decode cK_gramsTogether 0 = .ok (.iconst 0, 1) := by decide +kernel
theorem dK_gramsTogether_1 : decode cK_gramsTogether 1 = .ok (.istore_n 1, 1) := by decide +kernel
theorem dK_gramsTogether_2 : decode cK_gramsTogether 2 = .ok (.iconst 0, 1) := by decide +kernel
theorem dK_gramsTogether_3 : decode cK_gramsTogether 3 = .ok (.istore_n 2, 1) := by decide +kernel
theorem dK_gramsTogether_4 : decode cK_gramsTogether 4 = .ok (.iload_n 2, 1) := by decide +kernel
theorem dK_gramsTogether_5 : decode cK_gramsTogether 5 = .ok (.aload_n 0, 1) := by decide +kernel
theorem dK_gramsTogether_6 : decode cK_gramsTogether 6 = .ok (.getfield 32, 3) := by decide +kernel
theorem dK_gramsTogether_9 : decode cK_gramsTogether 9 = .ok (.if_icmp .ge 21, 3) := by decide +kernel
theorem dK_gramsTogether_12 : decode cK_gramsTogether 12 = .ok (.iload_n 1, 1) := by decide +kernel
theorem dK_gramsTogether_13 : decode cK_gramsTogether 13 = .ok (.aload_n 0, 1) := by decide +kernel
theorem dK_gramsTogether_14 : decode cK_gramsTogether 14 = .ok (.getfield 41, 3) := by decide +kernel
theorem dK_gramsTogether_17 : decode cK_gramsTogether 17 = .ok (.iload_n 2, 1) := by decide +kernel
theorem dK_gramsTogether_18 : decode cK_gramsTogether 18 = .ok (.aaload, 1) := by decide +kernel
theorem dK_gramsTogether_19 : decode cK_gramsTogether 19 = .ok (.getfield 55, 3) := by decide +kernel
theorem dK_gramsTogether_22 : decode cK_gramsTogether 22 = .ok (.iadd, 1) := by decide +kernel
theorem dK_gramsTogether_23 : decode cK_gramsTogether 23 = .ok (.istore_n 1, 1) := by decide +kernel
theorem dK_gramsTogether_24 : decode cK_gramsTogether 24 = .ok (.iinc 2 1, 3) := by decide +kernel
theorem dK_gramsTogether_27 : decode cK_gramsTogether 27 = .ok (.goto (-23), 3) := by decide +kernel
theorem dK_gramsTogether_30 : decode cK_gramsTogether 30 = .ok (.iload_n 1, 1) := by decide +kernel
theorem dK_gramsTogether_31 : decode cK_gramsTogether 31 = .ok (.ireturn, 1) := by decide +kernel
theorem dK_ruleBetween_0 : decode cK_ruleBetween 0 = .ok (.aload_n 1, 1) := by decide +kernel
theorem dK_ruleBetween_1 : decode cK_ruleBetween 1 = .ok (.getfield 58, 3) := by decide +kernel
theorem dK_ruleBetween_4 : decode cK_ruleBetween 4 = .ok (.aload_n 2, 1) := by decide +kernel
theorem dK_ruleBetween_5 : decode cK_ruleBetween 5 = .ok (.getfield 58, 3) := by decide +kernel
theorem dK_ruleBetween_8 : decode cK_ruleBetween 8 = .ok (.if_icmp .ne 14, 3) := by decide +kernel
theorem dK_ruleBetween_11 : decode cK_ruleBetween 11 = .ok (.aload_n 0, 1) := by decide +kernel
theorem dK_ruleBetween_12 : decode cK_ruleBetween 12 = .ok (.aload_n 1, 1) := by decide +kernel
theorem dK_ruleBetween_13 : decode cK_ruleBetween 13 = .ok (.aload_n 2, 1) := by decide +kernel
theorem dK_ruleBetween_14 : decode cK_ruleBetween 14 = .ok (.invokevirtual 61, 3) := by decide +kernel
theorem dK_ruleBetween_17 : decode cK_ruleBetween 17 = .ok (.ifCond .eq 5, 3) := by decide +kernel
theorem dK_ruleBetween_20 : decode cK_ruleBetween 20 = .ok (.iconst 1, 1) := by decide +kernel
theorem dK_ruleBetween_21 : decode cK_ruleBetween 21 = .ok (.ireturn, 1) := by decide +kernel
theorem dK_ruleBetween_22 : decode cK_ruleBetween 22 = .ok (.aload_n 1, 1) := by decide +kernel
theorem dK_ruleBetween_23 : decode cK_ruleBetween 23 = .ok (.getfield 65, 3) := by decide +kernel
theorem dK_ruleBetween_26 : decode cK_ruleBetween 26 = .ok (.aload_n 2, 1) := by decide +kernel
theorem dK_ruleBetween_27 : decode cK_ruleBetween 27 = .ok (.getfield 68, 3) := by decide +kernel
theorem dK_ruleBetween_30 : decode cK_ruleBetween 30 = .ok (.if_icmp .gt 14, 3) := by decide +kernel
theorem dK_ruleBetween_33 : decode cK_ruleBetween 33 = .ok (.aload_n 2, 1) := by decide +kernel
theorem dK_ruleBetween_34 : decode cK_ruleBetween 34 = .ok (.getfield 65, 3) := by decide +kernel
theorem dK_ruleBetween_37 : decode cK_ruleBetween 37 = .ok (.aload_n 1, 1) := by decide +kernel
theorem dK_ruleBetween_38 : decode cK_ruleBetween 38 = .ok (.getfield 68, 3) := by decide +kernel
theorem dK_ruleBetween_41 : decode cK_ruleBetween 41 = .ok (.if_icmp .le 5, 3) := by decide +kernel
theorem dK_ruleBetween_44 : decode cK_ruleBetween 44 = .ok (.iconst 2, 1) := by decide +kernel
theorem dK_ruleBetween_45 : decode cK_ruleBetween 45 = .ok (.ireturn, 1) := by decide +kernel
theorem dK_ruleBetween_46 : decode cK_ruleBetween 46 = .ok (.aload_n 1, 1) := by decide +kernel
theorem dK_ruleBetween_47 : decode cK_ruleBetween 47 = .ok (.getfield 58, 3) := by decide +kernel
theorem dK_ruleBetween_50 : decode cK_ruleBetween 50 = .ok (.aload_n 2, 1) := by decide +kernel
theorem dK_ruleBetween_51 : decode cK_ruleBetween 51 = .ok (.getfield 58, 3) := by decide +kernel
theorem dK_ruleBetween_54 : decode cK_ruleBetween 54 = .ok (.if_icmp .ne 14, 3) := by decide +kernel
theorem dK_ruleBetween_57 : decode cK_ruleBetween 57 = .ok (.aload_n 0, 1) := by decide +kernel
theorem dK_ruleBetween_58 : decode cK_ruleBetween 58 = .ok (.aload_n 1, 1) := by decide +kernel
theorem dK_ruleBetween_59 : decode cK_ruleBetween 59 = .ok (.aload_n 2, 1) := by decide +kernel
theorem dK_ruleBetween_60 : decode cK_ruleBetween 60 = .ok (.invokevirtual 71, 3) := by decide +kernel
theorem dK_ruleBetween_63 : decode cK_ruleBetween 63 = .ok (.ifCond .eq 5, 3) := by decide +kernel
theorem dK_ruleBetween_66 : decode cK_ruleBetween 66 = .ok (.iconst 3, 1) := by decide +kernel
theorem dK_ruleBetween_67 : decode cK_ruleBetween 67 = .ok (.ireturn, 1) := by decide +kernel
theorem dK_ruleBetween_68 : decode cK_ruleBetween 68 = .ok (.iconst 0, 1) := by decide +kernel
theorem dK_ruleBetween_69 : decode cK_ruleBetween 69 = .ok (.ireturn, 1) := by decide +kernel
theorem dK_sidesClash_0 : decode cK_sidesClash 0 = .ok (.aload_n 1, 1) := by decide +kernel
theorem dK_sidesClash_1 : decode cK_sidesClash 1 = .ok (.getfield 74, 3) := by decide +kernel
theorem dK_sidesClash_4 : decode cK_sidesClash 4 = .ok (.aload_n 2, 1) := by decide +kernel
theorem dK_sidesClash_5 : decode cK_sidesClash 5 = .ok (.getfield 74, 3) := by decide +kernel
theorem dK_sidesClash_8 : decode cK_sidesClash 8 = .ok (.if_icmp .eq 5, 3) := by decide +kernel
theorem dK_sidesClash_11 : decode cK_sidesClash 11 = .ok (.iconst 0, 1) := by decide +kernel
theorem dK_sidesClash_12 : decode cK_sidesClash 12 = .ok (.ireturn, 1) := by decide +kernel
theorem dK_sidesClash_13 : decode cK_sidesClash 13 = .ok (.aload_n 1, 1) := by decide +kernel
theorem dK_sidesClash_14 : decode cK_sidesClash 14 = .ok (.getfield 74, 3) := by decide +kernel
theorem dK_sidesClash_17 : decode cK_sidesClash 17 = .ok (.ifCond .eq 31, 3) := by decide +kernel
theorem dK_sidesClash_20 : decode cK_sidesClash 20 = .ok (.aload_n 1, 1) := by decide +kernel
theorem dK_sidesClash_21 : decode cK_sidesClash 21 = .ok (.getfield 74, 3) := by decide +kernel
theorem dK_sidesClash_24 : decode cK_sidesClash 24 = .ok (.iconst 1, 1) := by decide +kernel
theorem dK_sidesClash_25 : decode cK_sidesClash 25 = .ok (.if_icmp .eq 23, 3) := by decide +kernel
theorem dK_sidesClash_28 : decode cK_sidesClash 28 = .ok (.aload_n 1, 1) := by decide +kernel
theorem dK_sidesClash_29 : decode cK_sidesClash 29 = .ok (.getfield 74, 3) := by decide +kernel
theorem dK_sidesClash_32 : decode cK_sidesClash 32 = .ok (.iconst 2, 1) := by decide +kernel
theorem dK_sidesClash_33 : decode cK_sidesClash 33 = .ok (.if_icmp .ne 19, 3) := by decide +kernel
theorem dK_sidesClash_36 : decode cK_sidesClash 36 = .ok (.aload_n 0, 1) := by decide +kernel
theorem dK_sidesClash_37 : decode cK_sidesClash 37 = .ok (.getfield 9, 3) := by decide +kernel
theorem dK_sidesClash_40 : decode cK_sidesClash 40 = .ok (.aload_n 1, 1) := by decide +kernel
theorem dK_sidesClash_41 : decode cK_sidesClash 41 = .ok (.getfield 58, 3) := by decide +kernel
theorem dK_sidesClash_44 : decode cK_sidesClash 44 = .ok (.baload, 1) := by decide +kernel
theorem dK_sidesClash_45 : decode cK_sidesClash 45 = .ok (.ifCond .eq 7, 3) := by decide +kernel
theorem dK_sidesClash_48 : decode cK_sidesClash 48 = .ok (.iconst 1, 1) := by decide +kernel
theorem dK_sidesClash_49 : decode cK_sidesClash 49 = .ok (.goto 4, 3) := by decide +kernel
theorem dK_sidesClash_52 : decode cK_sidesClash 52 = .ok (.iconst 0, 1) := by decide +kernel
theorem dK_sidesClash_53 : decode cK_sidesClash 53 = .ok (.ireturn, 1) := by decide +kernel
theorem dK_sizesClash_0 : decode cK_sizesClash 0 = .ok (.aload_n 1, 1) := by decide +kernel
theorem dK_sizesClash_1 : decode cK_sizesClash 1 = .ok (.getfield 77, 3) := by decide +kernel
theorem dK_sizesClash_4 : decode cK_sizesClash 4 = .ok (.ifCond .eq 33, 3) := by decide +kernel
theorem dK_sizesClash_7 : decode cK_sizesClash 7 = .ok (.aload_n 2, 1) := by decide +kernel
theorem dK_sizesClash_8 : decode cK_sizesClash 8 = .ok (.getfield 77, 3) := by decide +kernel
theorem dK_sizesClash_11 : decode cK_sizesClash 11 = .ok (.ifCond .eq 26, 3) := by decide +kernel
theorem dK_sizesClash_14 : decode cK_sizesClash 14 = .ok (.aload_n 1, 1) := by decide +kernel
theorem dK_sizesClash_15 : decode cK_sizesClash 15 = .ok (.getfield 77, 3) := by decide +kernel
theorem dK_sizesClash_18 : decode cK_sizesClash 18 = .ok (.aload_n 2, 1) := by decide +kernel
theorem dK_sizesClash_19 : decode cK_sizesClash 19 = .ok (.getfield 77, 3) := by decide +kernel
theorem dK_sizesClash_22 : decode cK_sizesClash 22 = .ok (.isub, 1) := by decide +kernel
theorem dK_sizesClash_23 : decode cK_sizesClash 23 = .ok (.invokestatic 80, 3) := by decide +kernel
theorem dK_sizesClash_26 : decode cK_sizesClash 26 = .ok (.aload_n 0, 1) := by decide +kernel
theorem dK_sizesClash_27 : decode cK_sizesClash 27 = .ok (.getfield 22, 3) := by decide +kernel
theorem dK_sizesClash_30 : decode cK_sizesClash 30 = .ok (.if_icmp .le 7, 3) := by decide +kernel
theorem dK_sizesClash_33 : decode cK_sizesClash 33 = .ok (.iconst 1, 1) := by decide +kernel
theorem dK_sizesClash_34 : decode cK_sizesClash 34 = .ok (.goto 4, 3) := by decide +kernel
theorem dK_sizesClash_37 : decode cK_sizesClash 37 = .ok (.iconst 0, 1) := by decide +kernel
theorem dK_sizesClash_38 : decode cK_sizesClash 38 = .ok (.ireturn, 1) := by decide +kernel
theorem dK_parted_0 : decode cK_parted 0 = .ok (.aload_n 0, 1) := by decide +kernel
theorem dK_parted_1 : decode cK_parted 1 = .ok (.getfield 35, 3) := by decide +kernel
theorem dK_parted_4 : decode cK_parted 4 = .ok (.ifCond .eq 30, 3) := by decide +kernel
theorem dK_parted_7 : decode cK_parted 7 = .ok (.aload_n 0, 1) := by decide +kernel
theorem dK_parted_8 : decode cK_parted 8 = .ok (.getfield 48, 3) := by decide +kernel
theorem dK_parted_11 : decode cK_parted 11 = .ok (.aload_n 0, 1) := by decide +kernel
theorem dK_parted_12 : decode cK_parted 12 = .ok (.getfield 32, 3) := by decide +kernel
theorem dK_parted_15 : decode cK_parted 15 = .ok (.invokevirtual 86, 3) := by decide +kernel
theorem dK_parted_18 : decode cK_parted 18 = .ok (.aload_n 0, 1) := by decide +kernel
theorem dK_parted_19 : decode cK_parted 19 = .ok (.invokevirtual 90, 3) := by decide +kernel
theorem dK_parted_22 : decode cK_parted 22 = .ok (.aload_n 0, 1) := by decide +kernel
theorem dK_parted_23 : decode cK_parted 23 = .ok (.getfield 48, 3) := by decide +kernel
theorem dK_parted_26 : decode cK_parted 26 = .ok (.invokevirtual 93, 3) := by decide +kernel
theorem dK_parted_29 : decode cK_parted 29 = .ok (.aload_n 0, 1) := by decide +kernel
theorem dK_parted_30 : decode cK_parted 30 = .ok (.iconst 0, 1) := by decide +kernel
theorem dK_parted_31 : decode cK_parted 31 = .ok (.putfield 35, 3) := by decide +kernel
theorem dK_parted_34 : decode cK_parted 34 = .ok (.aload_n 0, 1) := by decide +kernel
theorem dK_parted_35 : decode cK_parted 35 = .ok (.getfield 48, 3) := by decide +kernel
theorem dK_parted_38 : decode cK_parted 38 = .ok (.areturn, 1) := by decide +kernel
theorem dK_markFoes_0 : decode cK_markFoes 0 = .ok (.iconst 0, 1) := by decide +kernel
theorem dK_markFoes_1 : decode cK_markFoes 1 = .ok (.istore_n 1, 1) := by decide +kernel
theorem dK_markFoes_2 : decode cK_markFoes 2 = .ok (.iload_n 1, 1) := by decide +kernel
theorem dK_markFoes_3 : decode cK_markFoes 3 = .ok (.aload_n 0, 1) := by decide +kernel
theorem dK_markFoes_4 : decode cK_markFoes 4 = .ok (.getfield 32, 3) := by decide +kernel
theorem dK_markFoes_7 : decode cK_markFoes 7 = .ok (.if_icmp .ge 50, 3) := by decide +kernel
theorem dK_markFoes_10 : decode cK_markFoes 10 = .ok (.iconst 0, 1) := by decide +kernel
theorem dK_markFoes_11 : decode cK_markFoes 11 = .ok (.istore_n 2, 1) := by decide +kernel
theorem dK_markFoes_12 : decode cK_markFoes 12 = .ok (.iload_n 2, 1) := by decide +kernel
theorem dK_markFoes_13 : decode cK_markFoes 13 = .ok (.iload_n 1, 1) := by decide +kernel
theorem dK_markFoes_14 : decode cK_markFoes 14 = .ok (.if_icmp .ge 37, 3) := by decide +kernel
theorem dK_markFoes_17 : decode cK_markFoes 17 = .ok (.aload_n 0, 1) := by decide +kernel
theorem dK_markFoes_18 : decode cK_markFoes 18 = .ok (.aload_n 0, 1) := by decide +kernel
theorem dK_markFoes_19 : decode cK_markFoes 19 = .ok (.getfield 41, 3) := by decide +kernel
theorem dK_markFoes_22 : decode cK_markFoes 22 = .ok (.iload_n 1, 1) := by decide +kernel
theorem dK_markFoes_23 : decode cK_markFoes 23 = .ok (.aaload, 1) := by decide +kernel
theorem dK_markFoes_24 : decode cK_markFoes 24 = .ok (.aload_n 0, 1) := by decide +kernel
theorem dK_markFoes_25 : decode cK_markFoes 25 = .ok (.getfield 41, 3) := by decide +kernel
theorem dK_markFoes_28 : decode cK_markFoes 28 = .ok (.iload_n 2, 1) := by decide +kernel
theorem dK_markFoes_29 : decode cK_markFoes 29 = .ok (.aaload, 1) := by decide +kernel
theorem dK_markFoes_30 : decode cK_markFoes 30 = .ok (.invokevirtual 96, 3) := by decide +kernel
theorem dK_markFoes_33 : decode cK_markFoes 33 = .ok (.ifCond .eq 12, 3) := by decide +kernel
theorem dK_markFoes_36 : decode cK_markFoes 36 = .ok (.aload_n 0, 1) := by decide +kernel
theorem dK_markFoes_37 : decode cK_markFoes 37 = .ok (.getfield 48, 3) := by decide +kernel
theorem dK_markFoes_40 : decode cK_markFoes 40 = .ok (.iload_n 1, 1) := by decide +kernel
theorem dK_markFoes_41 : decode cK_markFoes 41 = .ok (.iload_n 2, 1) := by decide +kernel
theorem dK_markFoes_42 : decode cK_markFoes 42 = .ok (.invokevirtual 100, 3) := by decide +kernel
theorem dK_markFoes_45 : decode cK_markFoes 45 = .ok (.iinc 2 1, 3) := by decide +kernel
theorem dK_markFoes_48 : decode cK_markFoes 48 = .ok (.goto (-36), 3) := by decide +kernel
theorem dK_markFoes_51 : decode cK_markFoes 51 = .ok (.iinc 1 1, 3) := by decide +kernel
theorem dK_markFoes_54 : decode cK_markFoes 54 = .ok (.goto (-52), 3) := by decide +kernel
theorem dK_markFoes_57 : decode cK_markFoes 57 = .ok (.return_, 1) := by decide +kernel
theorem dP_init_0 : decode cP_init 0 = .ok (.aload_n 0, 1) := by decide +kernel
theorem dP_init_1 : decode cP_init 1 = .ok (.invokespecial 3, 3) := by decide +kernel
theorem dP_init_4 : decode cP_init 4 = .ok (.aload_n 0, 1) := by decide +kernel
theorem dP_init_5 : decode cP_init 5 = .ok (.iconst 0, 1) := by decide +kernel
theorem dP_init_6 : decode cP_init 6 = .ok (.putfield 9, 3) := by decide +kernel
theorem dP_init_9 : decode cP_init 9 = .ok (.aload_n 0, 1) := by decide +kernel
theorem dP_init_10 : decode cP_init 10 = .ok (.iconst 0, 1) := by decide +kernel
theorem dP_init_11 : decode cP_init 11 = .ok (.putfield 15, 3) := by decide +kernel
theorem dP_init_14 : decode cP_init 14 = .ok (.aload_n 0, 1) := by decide +kernel
theorem dP_init_15 : decode cP_init 15 = .ok (.iconst 0, 1) := by decide +kernel
theorem dP_init_16 : decode cP_init 16 = .ok (.putfield 18, 3) := by decide +kernel
theorem dP_init_19 : decode cP_init 19 = .ok (.aload_n 0, 1) := by decide +kernel
theorem dP_init_20 : decode cP_init 20 = .ok (.bipush 12, 2) := by decide +kernel
theorem dP_init_22 : decode cP_init 22 = .ok (.newarray .int, 2) := by decide +kernel
theorem dP_init_24 : decode cP_init 24 = .ok (.putfield 21, 3) := by decide +kernel
theorem dP_init_27 : decode cP_init 27 = .ok (.aload_n 0, 1) := by decide +kernel
theorem dP_init_28 : decode cP_init 28 = .ok (.bipush 12, 2) := by decide +kernel
theorem dP_init_30 : decode cP_init 30 = .ok (.newarray .int, 2) := by decide +kernel
theorem dP_init_32 : decode cP_init 32 = .ok (.putfield 25, 3) := by decide +kernel
theorem dP_init_35 : decode cP_init 35 = .ok (.aload_n 0, 1) := by decide +kernel
theorem dP_init_36 : decode cP_init 36 = .ok (.bipush 12, 2) := by decide +kernel
theorem dP_init_38 : decode cP_init 38 = .ok (.newarray .int, 2) := by decide +kernel
theorem dP_init_40 : decode cP_init 40 = .ok (.putfield 28, 3) := by decide +kernel
theorem dP_init_43 : decode cP_init 43 = .ok (.return_, 1) := by decide +kernel
theorem dP_begin_0 : decode cP_begin 0 = .ok (.aload_n 0, 1) := by decide +kernel
theorem dP_begin_1 : decode cP_begin 1 = .ok (.iconst 0, 1) := by decide +kernel
theorem dP_begin_2 : decode cP_begin 2 = .ok (.iload_n 1, 1) := by decide +kernel
theorem dP_begin_3 : decode cP_begin 3 = .ok (.bipush 12, 2) := by decide +kernel
theorem dP_begin_5 : decode cP_begin 5 = .ok (.invokestatic 31, 3) := by decide +kernel
theorem dP_begin_8 : decode cP_begin 8 = .ok (.invokestatic 37, 3) := by decide +kernel
theorem dP_begin_11 : decode cP_begin 11 = .ok (.putfield 15, 3) := by decide +kernel
theorem dP_begin_14 : decode cP_begin 14 = .ok (.iconst 0, 1) := by decide +kernel
theorem dP_begin_15 : decode cP_begin 15 = .ok (.istore_n 2, 1) := by decide +kernel
theorem dP_begin_16 : decode cP_begin 16 = .ok (.iload_n 2, 1) := by decide +kernel
theorem dP_begin_17 : decode cP_begin 17 = .ok (.bipush 12, 2) := by decide +kernel
theorem dP_begin_19 : decode cP_begin 19 = .ok (.if_icmp .ge 23, 3) := by decide +kernel
theorem dP_begin_22 : decode cP_begin 22 = .ok (.aload_n 0, 1) := by decide +kernel
theorem dP_begin_23 : decode cP_begin 23 = .ok (.getfield 21, 3) := by decide +kernel
theorem dP_begin_26 : decode cP_begin 26 = .ok (.iload_n 2, 1) := by decide +kernel
theorem dP_begin_27 : decode cP_begin 27 = .ok (.iconst 0, 1) := by decide +kernel
theorem dP_begin_28 : decode cP_begin 28 = .ok (.iastore, 1) := by decide +kernel
theorem dP_begin_29 : decode cP_begin 29 = .ok (.aload_n 0, 1) := by decide +kernel
theorem dP_begin_30 : decode cP_begin 30 = .ok (.getfield 28, 3) := by decide +kernel
theorem dP_begin_33 : decode cP_begin 33 = .ok (.iload_n 2, 1) := by decide +kernel
theorem dP_begin_34 : decode cP_begin 34 = .ok (.iconst 0, 1) := by decide +kernel
theorem dP_begin_35 : decode cP_begin 35 = .ok (.iastore, 1) := by decide +kernel
theorem dP_begin_36 : decode cP_begin 36 = .ok (.iinc 2 1, 3) := by decide +kernel
theorem dP_begin_39 : decode cP_begin 39 = .ok (.goto (-23), 3) := by decide +kernel
theorem dP_begin_42 : decode cP_begin 42 = .ok (.return_, 1) := by decide +kernel
theorem dP_setApart_0 : decode cP_setApart 0 = .ok (.iload_n 1, 1) := by decide +kernel
theorem dP_setApart_1 : decode cP_setApart 1 = .ok (.ifCond .lt 47, 3) := by decide +kernel
theorem dP_setApart_4 : decode cP_setApart 4 = .ok (.iload_n 1, 1) := by decide +kernel
theorem dP_setApart_5 : decode cP_setApart 5 = .ok (.aload_n 0, 1) := by decide +kernel
theorem dP_setApart_6 : decode cP_setApart 6 = .ok (.getfield 15, 3) := by decide +kernel
theorem dP_setApart_9 : decode cP_setApart 9 = .ok (.if_icmp .ge 39, 3) := by decide +kernel
theorem dP_setApart_12 : decode cP_setApart 12 = .ok (.iload_n 2, 1) := by decide +kernel
theorem dP_setApart_13 : decode cP_setApart 13 = .ok (.ifCond .lt 35, 3) := by decide +kernel
theorem dP_setApart_16 : decode cP_setApart 16 = .ok (.iload_n 2, 1) := by decide +kernel
theorem dP_setApart_17 : decode cP_setApart 17 = .ok (.aload_n 0, 1) := by decide +kernel
theorem dP_setApart_18 : decode cP_setApart 18 = .ok (.getfield 15, 3) := by decide +kernel
theorem dP_setApart_21 : decode cP_setApart 21 = .ok (.if_icmp .ge 27, 3) := by decide +kernel
theorem dP_setApart_24 : decode cP_setApart 24 = .ok (.aload_n 0, 1) := by decide +kernel
theorem dP_setApart_25 : decode cP_setApart 25 = .ok (.getfield 21, 3) := by decide +kernel
theorem dP_setApart_28 : decode cP_setApart 28 = .ok (.iload_n 1, 1) := by decide +kernel
theorem dP_setApart_29 : decode cP_setApart 29 = .ok (.dup2, 1) := by decide +kernel
theorem dP_setApart_30 : decode cP_setApart 30 = .ok (.iaload, 1) := by decide +kernel
theorem dP_setApart_31 : decode cP_setApart 31 = .ok (.iconst 1, 1) := by decide +kernel
theorem dP_setApart_32 : decode cP_setApart 32 = .ok (.iload_n 2, 1) := by decide +kernel
theorem dP_setApart_33 : decode cP_setApart 33 = .ok (.ishl, 1) := by decide +kernel
theorem dP_setApart_34 : decode cP_setApart 34 = .ok (.ior, 1) := by decide +kernel
theorem dP_setApart_35 : decode cP_setApart 35 = .ok (.iastore, 1) := by decide +kernel
theorem dP_setApart_36 : decode cP_setApart 36 = .ok (.aload_n 0, 1) := by decide +kernel
theorem dP_setApart_37 : decode cP_setApart 37 = .ok (.getfield 21, 3) := by decide +kernel
theorem dP_setApart_40 : decode cP_setApart 40 = .ok (.iload_n 2, 1) := by decide +kernel
theorem dP_setApart_41 : decode cP_setApart 41 = .ok (.dup2, 1) := by decide +kernel
theorem dP_setApart_42 : decode cP_setApart 42 = .ok (.iaload, 1) := by decide +kernel
theorem dP_setApart_43 : decode cP_setApart 43 = .ok (.iconst 1, 1) := by decide +kernel
theorem dP_setApart_44 : decode cP_setApart 44 = .ok (.iload_n 1, 1) := by decide +kernel
theorem dP_setApart_45 : decode cP_setApart 45 = .ok (.ishl, 1) := by decide +kernel
theorem dP_setApart_46 : decode cP_setApart 46 = .ok (.ior, 1) := by decide +kernel
theorem dP_setApart_47 : decode cP_setApart 47 = .ok (.iastore, 1) := by decide +kernel
theorem dP_setApart_48 : decode cP_setApart 48 = .ok (.return_, 1) := by decide +kernel
theorem dP_search_0 : decode cP_search 0 = .ok (.aload_n 0, 1) := by decide +kernel
theorem dP_search_1 : decode cP_search 1 = .ok (.iconst 0, 1) := by decide +kernel
theorem dP_search_2 : decode cP_search 2 = .ok (.putfield 18, 3) := by decide +kernel
theorem dP_search_5 : decode cP_search 5 = .ok (.aload_n 0, 1) := by decide +kernel
theorem dP_search_6 : decode cP_search 6 = .ok (.iconst 0, 1) := by decide +kernel
theorem dP_search_7 : decode cP_search 7 = .ok (.iconst 0, 1) := by decide +kernel
theorem dP_search_8 : decode cP_search 8 = .ok (.iconst 1, 1) := by decide +kernel
theorem dP_search_9 : decode cP_search 9 = .ok (.aload_n 0, 1) := by decide +kernel
theorem dP_search_10 : decode cP_search 10 = .ok (.getfield 15, 3) := by decide +kernel
theorem dP_search_13 : decode cP_search 13 = .ok (.ishl, 1) := by decide +kernel
theorem dP_search_14 : decode cP_search 14 = .ok (.iconst 1, 1) := by decide +kernel
theorem dP_search_15 : decode cP_search 15 = .ok (.isub, 1) := by decide +kernel
theorem dP_search_16 : decode cP_search 16 = .ok (.invokevirtual 40, 3) := by decide +kernel
theorem dP_search_19 : decode cP_search 19 = .ok (.aload_n 0, 1) := by decide +kernel
theorem dP_search_20 : decode cP_search 20 = .ok (.aload_n 0, 1) := by decide +kernel
theorem dP_search_21 : decode cP_search 21 = .ok (.getfield 18, 3) := by decide +kernel
theorem dP_search_24 : decode cP_search 24 = .ok (.invokestatic 44, 3) := by decide +kernel
theorem dP_search_27 : decode cP_search 27 = .ok (.putfield 9, 3) := by decide +kernel
theorem dP_search_30 : decode cP_search 30 = .ok (.iconst 0, 1) := by decide +kernel
theorem dP_search_31 : decode cP_search 31 = .ok (.istore_n 1, 1) := by decide +kernel
theorem dP_search_32 : decode cP_search 32 = .ok (.iload_n 1, 1) := by decide +kernel
theorem dP_search_33 : decode cP_search 33 = .ok (.aload_n 0, 1) := by decide +kernel
theorem dP_search_34 : decode cP_search 34 = .ok (.getfield 15, 3) := by decide +kernel
theorem dP_search_37 : decode cP_search 37 = .ok (.if_icmp .ge 28, 3) := by decide +kernel
theorem dP_search_40 : decode cP_search 40 = .ok (.aload_n 0, 1) := by decide +kernel
theorem dP_search_41 : decode cP_search 41 = .ok (.iconst 0, 1) := by decide +kernel
theorem dP_search_42 : decode cP_search 42 = .ok (.iconst 0, 1) := by decide +kernel
theorem dP_search_43 : decode cP_search 43 = .ok (.invokevirtual 50, 3) := by decide +kernel
theorem dP_search_46 : decode cP_search 46 = .ok (.ifCond .ne 19, 3) := by decide +kernel
theorem dP_search_49 : decode cP_search 49 = .ok (.aload_n 0, 1) := by decide +kernel
theorem dP_search_50 : decode cP_search 50 = .ok (.dup, 1) := by decide +kernel
theorem dP_search_51 : decode cP_search 51 = .ok (.getfield 9, 3) := by decide +kernel
theorem dP_search_54 : decode cP_search 54 = .ok (.iconst 1, 1) := by decide +kernel
theorem dP_search_55 : decode cP_search 55 = .ok (.iadd, 1) := by decide +kernel
theorem dP_search_56 : decode cP_search 56 = .ok (.putfield 9, 3) := by decide +kernel
theorem dP_search_59 : decode cP_search 59 = .ok (.iinc 1 1, 3) := by decide +kernel
theorem dP_search_62 : decode cP_search 62 = .ok (.goto (-30), 3) := by decide +kernel
theorem dP_search_65 : decode cP_search 65 = .ok (.return_, 1) := by decide +kernel
theorem dP_setOf_0 : decode cP_setOf 0 = .ok (.iload_n 1, 1) := by decide +kernel
theorem dP_setOf_1 : decode cP_setOf 1 = .ok (.ifCond .lt 11, 3) := by decide +kernel
theorem dP_setOf_4 : decode cP_setOf 4 = .ok (.iload_n 1, 1) := by decide +kernel
theorem dP_setOf_5 : decode cP_setOf 5 = .ok (.aload_n 0, 1) := by decide +kernel
theorem dP_setOf_6 : decode cP_setOf 6 = .ok (.getfield 15, 3) := by decide +kernel
theorem dP_setOf_9 : decode cP_setOf 9 = .ok (.if_icmp .lt 7, 3) := by decide +kernel
theorem dP_setOf_12 : decode cP_setOf 12 = .ok (.iconst (-1), 1) := by decide +kernel
theorem dP_setOf_13 : decode cP_setOf 13 = .ok (.goto 9, 3) := by decide +kernel
theorem dP_setOf_16 : decode cP_setOf 16 = .ok (.aload_n 0, 1) := by decide +kernel
theorem dP_setOf_17 : decode cP_setOf 17 = .ok (.getfield 25, 3) := by decide +kernel
theorem dP_setOf_20 : decode cP_setOf 20 = .ok (.iload_n 1, 1) := by decide +kernel
theorem dP_setOf_21 : decode cP_setOf 21 = .ok (.iaload, 1) := by decide +kernel
theorem dP_setOf_22 : decode cP_setOf 22 = .ok (.ireturn, 1) := by decide +kernel
theorem dP_placeOfFoe_0 : decode cP_placeOfFoe 0 = .ok (.iconst 0, 1) := by decide +kernel
theorem dP_placeOfFoe_1 : decode cP_placeOfFoe 1 = .ok (.istore_n 2, 1) := by decide +kernel
theorem dP_placeOfFoe_2 : decode cP_placeOfFoe 2 = .ok (.iconst 0, 1) := by decide +kernel
theorem dP_placeOfFoe_3 : decode cP_placeOfFoe 3 = .ok (.istore_n 3, 1) := by decide +kernel
theorem dP_placeOfFoe_4 : decode cP_placeOfFoe 4 = .ok (.iload_n 3, 1) := by decide +kernel
theorem dP_placeOfFoe_5 : decode cP_placeOfFoe 5 = .ok (.aload_n 0, 1) := by decide +kernel
theorem dP_placeOfFoe_6 : decode cP_placeOfFoe 6 = .ok (.getfield 15, 3) := by decide +kernel
theorem dP_placeOfFoe_9 : decode cP_placeOfFoe 9 = .ok (.if_icmp .ge 30, 3) := by decide +kernel
theorem dP_placeOfFoe_12 : decode cP_placeOfFoe 12 = .ok (.aload_n 0, 1) := by decide +kernel
theorem dP_placeOfFoe_13 : decode cP_placeOfFoe 13 = .ok (.getfield 18, 3) := by decide +kernel
theorem dP_placeOfFoe_16 : decode cP_placeOfFoe 16 = .ok (.iload_n 3, 1) := by decide +kernel
theorem dP_placeOfFoe_17 : decode cP_placeOfFoe 17 = .ok (.ishr, 1) := by decide +kernel
theorem dP_placeOfFoe_18 : decode cP_placeOfFoe 18 = .ok (.iconst 1, 1) := by decide +kernel
theorem dP_placeOfFoe_19 : decode cP_placeOfFoe 19 = .ok (.iand, 1) := by decide +kernel
theorem dP_placeOfFoe_20 : decode cP_placeOfFoe 20 = .ok (.ifCond .eq 13, 3) := by decide +kernel
theorem dP_placeOfFoe_23 : decode cP_placeOfFoe 23 = .ok (.iload_n 2, 1) := by decide +kernel
theorem dP_placeOfFoe_24 : decode cP_placeOfFoe 24 = .ok (.iload_n 1, 1) := by decide +kernel
theorem dP_placeOfFoe_25 : decode cP_placeOfFoe 25 = .ok (.if_icmp .ne 5, 3) := by decide +kernel
theorem dP_placeOfFoe_28 : decode cP_placeOfFoe 28 = .ok (.iload_n 3, 1) := by decide +kernel
theorem dP_placeOfFoe_29 : decode cP_placeOfFoe 29 = .ok (.ireturn, 1) := by decide +kernel
theorem dP_placeOfFoe_30 : decode cP_placeOfFoe 30 = .ok (.iinc 2 1, 3) := by decide +kernel
theorem dP_placeOfFoe_33 : decode cP_placeOfFoe 33 = .ok (.iinc 3 1, 3) := by decide +kernel
theorem dP_placeOfFoe_36 : decode cP_placeOfFoe 36 = .ok (.goto (-32), 3) := by decide +kernel
theorem dP_placeOfFoe_39 : decode cP_placeOfFoe 39 = .ok (.iconst (-1), 1) := by decide +kernel
theorem dP_placeOfFoe_40 : decode cP_placeOfFoe 40 = .ok (.ireturn, 1) := by decide +kernel
theorem dP_growFoes_0 : decode cP_growFoes 0 = .ok (.iload_n 1, 1) := by decide +kernel
theorem dP_growFoes_1 : decode cP_growFoes 1 = .ok (.aload_n 0, 1) := by decide +kernel
theorem dP_growFoes_2 : decode cP_growFoes 2 = .ok (.getfield 18, 3) := by decide +kernel
theorem dP_growFoes_5 : decode cP_growFoes 5 = .ok (.invokestatic 44, 3) := by decide +kernel
theorem dP_growFoes_8 : decode cP_growFoes 8 = .ok (.if_icmp .le 8, 3) := by decide +kernel
theorem dP_growFoes_11 : decode cP_growFoes 11 = .ok (.aload_n 0, 1) := by decide +kernel
theorem dP_growFoes_12 : decode cP_growFoes 12 = .ok (.iload_n 2, 1) := by decide +kernel
theorem dP_growFoes_13 : decode cP_growFoes 13 = .ok (.putfield 18, 3) := by decide +kernel
theorem dP_growFoes_16 : decode cP_growFoes 16 = .ok (.iload_n 3, 1) := by decide +kernel
theorem dP_growFoes_17 : decode cP_growFoes 17 = .ok (.istore 4, 2) := by decide +kernel
theorem dP_growFoes_19 : decode cP_growFoes 19 = .ok (.iconst 0, 1) := by decide +kernel
theorem dP_growFoes_20 : decode cP_growFoes 20 = .ok (.istore 5, 2) := by decide +kernel
theorem dP_growFoes_22 : decode cP_growFoes 22 = .ok (.iload 5, 2) := by decide +kernel
theorem dP_growFoes_24 : decode cP_growFoes 24 = .ok (.aload_n 0, 1) := by decide +kernel
theorem dP_growFoes_25 : decode cP_growFoes 25 = .ok (.getfield 15, 3) := by decide +kernel
theorem dP_growFoes_28 : decode cP_growFoes 28 = .ok (.if_icmp .ge 78, 3) := by decide +kernel
theorem dP_growFoes_31 : decode cP_growFoes 31 = .ok (.iload_n 1, 1) := by decide +kernel
theorem dP_growFoes_32 : decode cP_growFoes 32 = .ok (.iload 4, 2) := by decide +kernel
theorem dP_growFoes_34 : decode cP_growFoes 34 = .ok (.invokestatic 44, 3) := by decide +kernel
theorem dP_growFoes_37 : decode cP_growFoes 37 = .ok (.iadd, 1) := by decide +kernel
theorem dP_growFoes_38 : decode cP_growFoes 38 = .ok (.aload_n 0, 1) := by decide +kernel
theorem dP_growFoes_39 : decode cP_growFoes 39 = .ok (.getfield 18, 3) := by decide +kernel
theorem dP_growFoes_42 : decode cP_growFoes 42 = .ok (.invokestatic 44, 3) := by decide +kernel
theorem dP_growFoes_45 : decode cP_growFoes 45 = .ok (.if_icmp .le 61, 3) := by decide +kernel
theorem dP_growFoes_48 : decode cP_growFoes 48 = .ok (.iconst 1, 1) := by decide +kernel
theorem dP_growFoes_49 : decode cP_growFoes 49 = .ok (.iload 5, 2) := by decide +kernel
theorem dP_growFoes_51 : decode cP_growFoes 51 = .ok (.ishl, 1) := by decide +kernel
theorem dP_growFoes_52 : decode cP_growFoes 52 = .ok (.istore 6, 2) := by decide +kernel
theorem dP_growFoes_54 : decode cP_growFoes 54 = .ok (.iload 4, 2) := by decide +kernel
theorem dP_growFoes_56 : decode cP_growFoes 56 = .ok (.iload 6, 2) := by decide +kernel
theorem dP_growFoes_58 : decode cP_growFoes 58 = .ok (.iand, 1) := by decide +kernel
theorem dP_growFoes_59 : decode cP_growFoes 59 = .ok (.ifCond .eq 41, 3) := by decide +kernel
theorem dP_growFoes_62 : decode cP_growFoes 62 = .ok (.iload_n 1, 1) := by decide +kernel
theorem dP_growFoes_63 : decode cP_growFoes 63 = .ok (.aload_n 0, 1) := by decide +kernel
theorem dP_growFoes_64 : decode cP_growFoes 64 = .ok (.getfield 15, 3) := by decide +kernel
theorem dP_growFoes_67 : decode cP_growFoes 67 = .ok (.if_icmp .ge 33, 3) := by decide +kernel
theorem dP_growFoes_70 : decode cP_growFoes 70 = .ok (.iload 4, 2) := by decide +kernel
theorem dP_growFoes_72 : decode cP_growFoes 72 = .ok (.iload 6, 2) := by decide +kernel
theorem dP_growFoes_74 : decode cP_growFoes 74 = .ok (.iconst (-1), 1) := by decide +kernel
theorem dP_growFoes_75 : decode cP_growFoes 75 = .ok (.ixor, 1) := by decide +kernel
theorem dP_growFoes_76 : decode cP_growFoes 76 = .ok (.iand, 1) := by decide +kernel
theorem dP_growFoes_77 : decode cP_growFoes 77 = .ok (.istore 4, 2) := by decide +kernel
theorem dP_growFoes_79 : decode cP_growFoes 79 = .ok (.aload_n 0, 1) := by decide +kernel
theorem dP_growFoes_80 : decode cP_growFoes 80 = .ok (.iload_n 1, 1) := by decide +kernel
theorem dP_growFoes_81 : decode cP_growFoes 81 = .ok (.iconst 1, 1) := by decide +kernel
theorem dP_growFoes_82 : decode cP_growFoes 82 = .ok (.iadd, 1) := by decide +kernel
theorem dP_growFoes_83 : decode cP_growFoes 83 = .ok (.iload_n 2, 1) := by decide +kernel
theorem dP_growFoes_84 : decode cP_growFoes 84 = .ok (.iload 6, 2) := by decide +kernel
theorem dP_growFoes_86 : decode cP_growFoes 86 = .ok (.ior, 1) := by decide +kernel
theorem dP_growFoes_87 : decode cP_growFoes 87 = .ok (.iload 4, 2) := by decide +kernel
theorem dP_growFoes_89 : decode cP_growFoes 89 = .ok (.aload_n 0, 1) := by decide +kernel
theorem dP_growFoes_90 : decode cP_growFoes 90 = .ok (.getfield 21, 3) := by decide +kernel
theorem dP_growFoes_93 : decode cP_growFoes 93 = .ok (.iload 5, 2) := by decide +kernel
theorem dP_growFoes_95 : decode cP_growFoes 95 = .ok (.iaload, 1) := by decide +kernel
theorem dP_growFoes_96 : decode cP_growFoes 96 = .ok (.iand, 1) := by decide +kernel
theorem dP_growFoes_97 : decode cP_growFoes 97 = .ok (.invokevirtual 40, 3) := by decide +kernel
theorem dP_growFoes_100 : decode cP_growFoes 100 = .ok (.iinc 5 1, 3) := by decide +kernel
theorem dP_growFoes_103 : decode cP_growFoes 103 = .ok (.goto (-81), 3) := by decide +kernel
theorem dP_growFoes_106 : decode cP_growFoes 106 = .ok (.return_, 1) := by decide +kernel
theorem dP_fill_0 : decode cP_fill 0 = .ok (.iload_n 1, 1) := by decide +kernel
theorem dP_fill_1 : decode cP_fill 1 = .ok (.ifCond .lt 11, 3) := by decide +kernel
theorem dP_fill_4 : decode cP_fill 4 = .ok (.iload_n 1, 1) := by decide +kernel
theorem dP_fill_5 : decode cP_fill 5 = .ok (.aload_n 0, 1) := by decide +kernel
theorem dP_fill_6 : decode cP_fill 6 = .ok (.getfield 15, 3) := by decide +kernel
theorem dP_fill_9 : decode cP_fill 9 = .ok (.if_icmp .lt 5, 3) := by decide +kernel
theorem dP_fill_12 : decode cP_fill 12 = .ok (.iconst 1, 1) := by decide +kernel
theorem dP_fill_13 : decode cP_fill 13 = .ok (.ireturn, 1) := by decide +kernel
theorem dP_fill_14 : decode cP_fill 14 = .ok (.iconst 1, 1) := by decide +kernel
theorem dP_fill_15 : decode cP_fill 15 = .ok (.iload_n 1, 1) := by decide +kernel
theorem dP_fill_16 : decode cP_fill 16 = .ok (.ishl, 1) := by decide +kernel
theorem dP_fill_17 : decode cP_fill 17 = .ok (.istore_n 3, 1) := by decide +kernel
theorem dP_fill_18 : decode cP_fill 18 = .ok (.aload_n 0, 1) := by decide +kernel
theorem dP_fill_19 : decode cP_fill 19 = .ok (.getfield 21, 3) := by decide +kernel
theorem dP_fill_22 : decode cP_fill 22 = .ok (.iload_n 1, 1) := by decide +kernel
theorem dP_fill_23 : decode cP_fill 23 = .ok (.iaload, 1) := by decide +kernel
theorem dP_fill_24 : decode cP_fill 24 = .ok (.iload_n 3, 1) := by decide +kernel
theorem dP_fill_25 : decode cP_fill 25 = .ok (.ineg, 1) := by decide +kernel
theorem dP_fill_26 : decode cP_fill 26 = .ok (.iand, 1) := by decide +kernel
theorem dP_fill_27 : decode cP_fill 27 = .ok (.istore 4, 2) := by decide +kernel
theorem dP_fill_29 : decode cP_fill 29 = .ok (.iload_n 2, 1) := by decide +kernel
theorem dP_fill_30 : decode cP_fill 30 = .ok (.iconst 1, 1) := by decide +kernel
theorem dP_fill_31 : decode cP_fill 31 = .ok (.iadd, 1) := by decide +kernel
theorem dP_fill_32 : decode cP_fill 32 = .ok (.aload_n 0, 1) := by decide +kernel
theorem dP_fill_33 : decode cP_fill 33 = .ok (.getfield 9, 3) := by decide +kernel
theorem dP_fill_36 : decode cP_fill 36 = .ok (.bipush 12, 2) := by decide +kernel
theorem dP_fill_38 : decode cP_fill 38 = .ok (.invokestatic 31, 3) := by decide +kernel
theorem dP_fill_41 : decode cP_fill 41 = .ok (.invokestatic 31, 3) := by decide +kernel
theorem dP_fill_44 : decode cP_fill 44 = .ok (.istore 5, 2) := by decide +kernel
theorem dP_fill_46 : decode cP_fill 46 = .ok (.iconst 0, 1) := by decide +kernel
theorem dP_fill_47 : decode cP_fill 47 = .ok (.istore 6, 2) := by decide +kernel
theorem dP_fill_49 : decode cP_fill 49 = .ok (.iload 6, 2) := by decide +kernel
theorem dP_fill_51 : decode cP_fill 51 = .ok (.iload 5, 2) := by decide +kernel
theorem dP_fill_53 : decode cP_fill 53 = .ok (.if_icmp .ge 90, 3) := by decide +kernel
theorem dP_fill_56 : decode cP_fill 56 = .ok (.aload_n 0, 1) := by decide +kernel
theorem dP_fill_57 : decode cP_fill 57 = .ok (.getfield 28, 3) := by decide +kernel
theorem dP_fill_60 : decode cP_fill 60 = .ok (.iload 6, 2) := by decide +kernel
theorem dP_fill_62 : decode cP_fill 62 = .ok (.iaload, 1) := by decide +kernel
theorem dP_fill_63 : decode cP_fill 63 = .ok (.istore 7, 2) := by decide +kernel
theorem dP_fill_65 : decode cP_fill 65 = .ok (.iload 7, 2) := by decide +kernel
theorem dP_fill_67 : decode cP_fill 67 = .ok (.iload_n 3, 1) := by decide +kernel
theorem dP_fill_68 : decode cP_fill 68 = .ok (.iand, 1) := by decide +kernel
theorem dP_fill_69 : decode cP_fill 69 = .ok (.ifCond .ne 68, 3) := by decide +kernel
theorem dP_fill_72 : decode cP_fill 72 = .ok (.aload_n 0, 1) := by decide +kernel
theorem dP_fill_73 : decode cP_fill 73 = .ok (.getfield 28, 3) := by decide +kernel
theorem dP_fill_76 : decode cP_fill 76 = .ok (.iload 6, 2) := by decide +kernel
theorem dP_fill_78 : decode cP_fill 78 = .ok (.iload 7, 2) := by decide +kernel
theorem dP_fill_80 : decode cP_fill 80 = .ok (.aload_n 0, 1) := by decide +kernel
theorem dP_fill_81 : decode cP_fill 81 = .ok (.getfield 21, 3) := by decide +kernel
theorem dP_fill_84 : decode cP_fill 84 = .ok (.iload_n 1, 1) := by decide +kernel
theorem dP_fill_85 : decode cP_fill 85 = .ok (.iaload, 1) := by decide +kernel
theorem dP_fill_86 : decode cP_fill 86 = .ok (.ior, 1) := by decide +kernel
theorem dP_fill_87 : decode cP_fill 87 = .ok (.iastore, 1) := by decide +kernel
theorem dP_fill_88 : decode cP_fill 88 = .ok (.aload_n 0, 1) := by decide +kernel
theorem dP_fill_89 : decode cP_fill 89 = .ok (.getfield 25, 3) := by decide +kernel
theorem dP_fill_92 : decode cP_fill 92 = .ok (.iload_n 1, 1) := by decide +kernel
theorem dP_fill_93 : decode cP_fill 93 = .ok (.iload 6, 2) := by decide +kernel
theorem dP_fill_95 : decode cP_fill 95 = .ok (.iastore, 1) := by decide +kernel
theorem dP_fill_96 : decode cP_fill 96 = .ok (.aload_n 0, 1) := by decide +kernel
theorem dP_fill_97 : decode cP_fill 97 = .ok (.iload_n 1, 1) := by decide +kernel
theorem dP_fill_98 : decode cP_fill 98 = .ok (.iconst 1, 1) := by decide +kernel
theorem dP_fill_99 : decode cP_fill 99 = .ok (.iadd, 1) := by decide +kernel
theorem dP_fill_100 : decode cP_fill 100 = .ok (.iload_n 2, 1) := by decide +kernel
theorem dP_fill_101 : decode cP_fill 101 = .ok (.iload 6, 2) := by decide +kernel
theorem dP_fill_103 : decode cP_fill 103 = .ok (.iconst 1, 1) := by decide +kernel
theorem dP_fill_104 : decode cP_fill 104 = .ok (.iadd, 1) := by decide +kernel
theorem dP_fill_105 : decode cP_fill 105 = .ok (.invokestatic 37, 3) := by decide +kernel
theorem dP_fill_108 : decode cP_fill 108 = .ok (.invokevirtual 50, 3) := by decide +kernel
theorem dP_fill_111 : decode cP_fill 111 = .ok (.ifCond .eq 5, 3) := by decide +kernel
theorem dP_fill_114 : decode cP_fill 114 = .ok (.iconst 1, 1) := by decide +kernel
theorem dP_fill_115 : decode cP_fill 115 = .ok (.ireturn, 1) := by decide +kernel
theorem dP_fill_116 : decode cP_fill 116 = .ok (.aload_n 0, 1) := by decide +kernel
theorem dP_fill_117 : decode cP_fill 117 = .ok (.getfield 28, 3) := by decide +kernel
theorem dP_fill_120 : decode cP_fill 120 = .ok (.iload 6, 2) := by decide +kernel
theorem dP_fill_122 : decode cP_fill 122 = .ok (.iload 7, 2) := by decide +kernel
theorem dP_fill_124 : decode cP_fill 124 = .ok (.iastore, 1) := by decide +kernel
theorem dP_fill_125 : decode cP_fill 125 = .ok (.iload 4, 2) := by decide +kernel
theorem dP_fill_127 : decode cP_fill 127 = .ok (.iload 7, 2) := by decide +kernel
theorem dP_fill_129 : decode cP_fill 129 = .ok (.iconst (-1), 1) := by decide +kernel
theorem dP_fill_130 : decode cP_fill 130 = .ok (.ixor, 1) := by decide +kernel
theorem dP_fill_131 : decode cP_fill 131 = .ok (.iand, 1) := by decide +kernel
theorem dP_fill_132 : decode cP_fill 132 = .ok (.ifCond .ne 5, 3) := by decide +kernel
theorem dP_fill_135 : decode cP_fill 135 = .ok (.iconst 0, 1) := by decide +kernel
theorem dP_fill_136 : decode cP_fill 136 = .ok (.ireturn, 1) := by decide +kernel
theorem dP_fill_137 : decode cP_fill 137 = .ok (.iinc 6 1, 3) := by decide +kernel
theorem dP_fill_140 : decode cP_fill 140 = .ok (.goto (-91), 3) := by decide +kernel
theorem dP_fill_143 : decode cP_fill 143 = .ok (.iconst 0, 1) := by decide +kernel
theorem dP_fill_144 : decode cP_fill 144 = .ok (.ireturn, 1) := by decide +kernel
theorem dQ_init_0 : decode cQ_init 0 = .ok (.aload_n 0, 1) := by decide +kernel
theorem dQ_init_1 : decode cQ_init 1 = .ok (.invokespecial 3, 3) := by decide +kernel
theorem dQ_init_4 : decode cQ_init 4 = .ok (.aload_n 0, 1) := by decide +kernel
theorem dQ_init_5 : decode cQ_init 5 = .ok (.iconst 0, 1) := by decide +kernel
theorem dQ_init_6 : decode cQ_init 6 = .ok (.putfield 9, 3) := by decide +kernel
theorem dQ_init_9 : decode cQ_init 9 = .ok (.aload_n 0, 1) := by decide +kernel
theorem dQ_init_10 : decode cQ_init 10 = .ok (.sipush 999, 3) := by decide +kernel
theorem dQ_init_13 : decode cQ_init 13 = .ok (.putfield 15, 3) := by decide +kernel
theorem dQ_init_16 : decode cQ_init 16 = .ok (.aload_n 0, 1) := by decide +kernel
theorem dQ_init_17 : decode cQ_init 17 = .ok (.iconst 0, 1) := by decide +kernel
theorem dQ_init_18 : decode cQ_init 18 = .ok (.putfield 18, 3) := by decide +kernel
theorem dQ_init_21 : decode cQ_init 21 = .ok (.aload_n 0, 1) := by decide +kernel
theorem dQ_init_22 : decode cQ_init 22 = .ok (.aload_n 1, 1) := by decide +kernel
theorem dQ_init_23 : decode cQ_init 23 = .ok (.putfield 21, 3) := by decide +kernel
theorem dQ_init_26 : decode cQ_init 26 = .ok (.aload_n 0, 1) := by decide +kernel
theorem dQ_init_27 : decode cQ_init 27 = .ok (.iload_n 2, 1) := by decide +kernel
theorem dQ_init_28 : decode cQ_init 28 = .ok (.putfield 25, 3) := by decide +kernel
theorem dQ_init_31 : decode cQ_init 31 = .ok (.aload_n 0, 1) := by decide +kernel
theorem dQ_init_32 : decode cQ_init 32 = .ok (.aload_n 1, 1) := by decide +kernel
theorem dQ_init_33 : decode cQ_init 33 = .ok (.getfield 28, 3) := by decide +kernel
theorem dQ_init_36 : decode cQ_init 36 = .ok (.putfield 33, 3) := by decide +kernel
theorem dQ_init_39 : decode cQ_init 39 = .ok (.aload_n 0, 1) := by decide +kernel
theorem dQ_init_40 : decode cQ_init 40 = .ok (.iload_n 3, 1) := by decide +kernel
theorem dQ_init_41 : decode cQ_init 41 = .ok (.putfield 36, 3) := by decide +kernel
theorem dQ_init_44 : decode cQ_init 44 = .ok (.aload_n 0, 1) := by decide +kernel
theorem dQ_init_45 : decode cQ_init 45 = .ok (.iload 4, 2) := by decide +kernel
theorem dQ_init_47 : decode cQ_init 47 = .ok (.putfield 39, 3) := by decide +kernel
theorem dQ_init_50 : decode cQ_init 50 = .ok (.aload_n 0, 1) := by decide +kernel
theorem dQ_init_51 : decode cQ_init 51 = .ok (.iload 5, 2) := by decide +kernel
theorem dQ_init_53 : decode cQ_init 53 = .ok (.putfield 42, 3) := by decide +kernel
theorem dQ_init_56 : decode cQ_init 56 = .ok (.return_, 1) := by decide +kernel
