theorem dL_piece_0 : decode cL_piece 0 = .ok (.aload 5, 2) := by decide +kernel
theorem dL_piece_2 : decode cL_piece 2 = .ok (.iconst 0, 1) := by decide +kernel
theorem dL_piece_3 : decode cL_piece 3 = .ok (.aload_n 0, 1) := by decide +kernel
theorem dL_piece_4 : decode cL_piece 4 = .ok (.iload_n 1, 1) := by decide +kernel
theorem dL_piece_5 : decode cL_piece 5 = .ok (.iload_n 2, 1) := by decide +kernel
theorem dL_piece_6 : decode cL_piece 6 = .ok (.iload_n 3, 1) := by decide +kernel
theorem dL_piece_7 : decode cL_piece 7 = .ok (.iload 4, 2) := by decide +kernel
theorem dL_piece_9 : decode cL_piece 9 = .ok (.invokevirtual 7, 3) := by decide +kernel
theorem dL_piece_12 : decode cL_piece 12 = .ok (.i2l, 1) := by decide +kernel
theorem dL_piece_13 : decode cL_piece 13 = .ok (.lastore, 1) := by decide +kernel
theorem dL_piece_14 : decode cL_piece 14 = .ok (.goto 15, 3) := by decide +kernel
theorem dL_piece_17 : decode cL_piece 17 = .ok (.astore 6, 2) := by decide +kernel
theorem dL_piece_19 : decode cL_piece 19 = .ok (.iconst 1, 1) := by decide +kernel
theorem dL_piece_20 : decode cL_piece 20 = .ok (.ireturn, 1) := by decide +kernel
theorem dL_piece_21 : decode cL_piece 21 = .ok (.astore 6, 2) := by decide +kernel
theorem dL_piece_23 : decode cL_piece 23 = .ok (.iconst 2, 1) := by decide +kernel
theorem dL_piece_24 : decode cL_piece 24 = .ok (.ireturn, 1) := by decide +kernel
theorem dL_piece_25 : decode cL_piece 25 = .ok (.astore 6, 2) := by decide +kernel
theorem dL_piece_27 : decode cL_piece 27 = .ok (.iconst 3, 1) := by decide +kernel
theorem dL_piece_28 : decode cL_piece 28 = .ok (.ireturn, 1) := by decide +kernel
theorem dL_piece_29 : decode cL_piece 29 = .ok (.iconst 0, 1) := by decide +kernel
theorem dL_piece_30 : decode cL_piece 30 = .ok (.ireturn, 1) := by decide +kernel
theorem dL_single_0 : decode cL_single 0 = .ok (.aload 4, 2) := by decide +kernel
theorem dL_single_2 : decode cL_single 2 = .ok (.iconst 0, 1) := by decide +kernel
theorem dL_single_3 : decode cL_single 3 = .ok (.aload_n 0, 1) := by decide +kernel
theorem dL_single_4 : decode cL_single 4 = .ok (.iload_n 1, 1) := by decide +kernel
theorem dL_single_5 : decode cL_single 5 = .ok (.iload_n 2, 1) := by decide +kernel
theorem dL_single_6 : decode cL_single 6 = .ok (.iload_n 3, 1) := by decide +kernel
theorem dL_single_7 : decode cL_single 7 = .ok (.invokevirtual 19, 3) := by decide +kernel
theorem dL_single_10 : decode cL_single 10 = .ok (.ifCond .eq 7, 3) := by decide +kernel
theorem dL_single_13 : decode cL_single 13 = .ok (.lconst 1, 1) := by decide +kernel
theorem dL_single_14 : decode cL_single 14 = .ok (.goto 4, 3) := by decide +kernel
theorem dL_single_17 : decode cL_single 17 = .ok (.lconst 0, 1) := by decide +kernel
theorem dL_single_18 : decode cL_single 18 = .ok (.lastore, 1) := by decide +kernel
theorem dL_single_19 : decode cL_single 19 = .ok (.goto 7, 3) := by decide +kernel
theorem dL_single_22 : decode cL_single 22 = .ok (.astore 5, 2) := by decide +kernel
theorem dL_single_24 : decode cL_single 24 = .ok (.iconst 1, 1) := by decide +kernel
theorem dL_single_25 : decode cL_single 25 = .ok (.ireturn, 1) := by decide +kernel
theorem dL_single_26 : decode cL_single 26 = .ok (.iconst 0, 1) := by decide +kernel
theorem dL_single_27 : decode cL_single 27 = .ok (.ireturn, 1) := by decide +kernel
theorem dL_bound_0 : decode cL_bound 0 = .ok (.aload_n 3, 1) := by decide +kernel
theorem dL_bound_1 : decode cL_bound 1 = .ok (.iconst 0, 1) := by decide +kernel
theorem dL_bound_2 : decode cL_bound 2 = .ok (.aload_n 0, 1) := by decide +kernel
theorem dL_bound_3 : decode cL_bound 3 = .ok (.iload_n 1, 1) := by decide +kernel
theorem dL_bound_4 : decode cL_bound 4 = .ok (.iload_n 2, 1) := by decide +kernel
theorem dL_bound_5 : decode cL_bound 5 = .ok (.invokevirtual 23, 3) := by decide +kernel
theorem dL_bound_8 : decode cL_bound 8 = .ok (.i2l, 1) := by decide +kernel
theorem dL_bound_9 : decode cL_bound 9 = .ok (.lastore, 1) := by decide +kernel
theorem dL_bound_10 : decode cL_bound 10 = .ok (.goto 11, 3) := by decide +kernel
theorem dL_bound_13 : decode cL_bound 13 = .ok (.astore 4, 2) := by decide +kernel
theorem dL_bound_15 : decode cL_bound 15 = .ok (.iconst 1, 1) := by decide +kernel
theorem dL_bound_16 : decode cL_bound 16 = .ok (.ireturn, 1) := by decide +kernel
theorem dL_bound_17 : decode cL_bound 17 = .ok (.astore 4, 2) := by decide +kernel
theorem dL_bound_19 : decode cL_bound 19 = .ok (.iconst 2, 1) := by decide +kernel
theorem dL_bound_20 : decode cL_bound 20 = .ok (.ireturn, 1) := by decide +kernel
theorem dL_bound_21 : decode cL_bound 21 = .ok (.iconst 0, 1) := by decide +kernel
theorem dL_bound_22 : decode cL_bound 22 = .ok (.ireturn, 1) := by decide +kernel
theorem dL_table_0 : decode cL_table 0 = .ok (.aload_n 0, 1) := by decide +kernel
theorem dL_table_1 : decode cL_table 1 = .ok (.iload_n 1, 1) := by decide +kernel
theorem dL_table_2 : decode cL_table 2 = .ok (.iload_n 2, 1) := by decide +kernel
theorem dL_table_3 : decode cL_table 3 = .ok (.iload_n 3, 1) := by decide +kernel
theorem dL_table_4 : decode cL_table 4 = .ok (.iload 4, 2) := by decide +kernel
theorem dL_table_6 : decode cL_table 6 = .ok (.invokevirtual 27, 3) := by decide +kernel
theorem dL_table_9 : decode cL_table 9 = .ok (.goto 11, 3) := by decide +kernel
theorem dL_table_12 : decode cL_table 12 = .ok (.astore 5, 2) := by decide +kernel
theorem dL_table_14 : decode cL_table 14 = .ok (.iconst 1, 1) := by decide +kernel
theorem dL_table_15 : decode cL_table 15 = .ok (.ireturn, 1) := by decide +kernel
theorem dL_table_16 : decode cL_table 16 = .ok (.astore 5, 2) := by decide +kernel
theorem dL_table_18 : decode cL_table 18 = .ok (.iconst 2, 1) := by decide +kernel
theorem dL_table_19 : decode cL_table 19 = .ok (.ireturn, 1) := by decide +kernel
theorem dL_table_20 : decode cL_table 20 = .ok (.iconst 0, 1) := by decide +kernel
theorem dL_table_21 : decode cL_table 21 = .ok (.ireturn, 1) := by decide +kernel
theorem dL_worn_0 : decode cL_worn 0 = .ok (.aload_n 0, 1) := by decide +kernel
theorem dL_worn_1 : decode cL_worn 1 = .ok (.iload_n 1, 1) := by decide +kernel
theorem dL_worn_2 : decode cL_worn 2 = .ok (.iload_n 2, 1) := by decide +kernel
theorem dL_worn_3 : decode cL_worn 3 = .ok (.invokevirtual 31, 3) := by decide +kernel
theorem dL_worn_6 : decode cL_worn 6 = .ok (.goto 6, 3) := by decide +kernel
theorem dL_worn_9 : decode cL_worn 9 = .ok (.astore_n 3, 1) := by decide +kernel
theorem dL_worn_10 : decode cL_worn 10 = .ok (.iconst 1, 1) := by decide +kernel
theorem dL_worn_11 : decode cL_worn 11 = .ok (.ireturn, 1) := by decide +kernel
theorem dL_worn_12 : decode cL_worn 12 = .ok (.iconst 0, 1) := by decide +kernel
theorem dL_worn_13 : decode cL_worn 13 = .ok (.ireturn, 1) := by decide +kernel
theorem dL_aged_0 : decode cL_aged 0 = .ok (.aload_n 3, 1) := by decide +kernel
theorem dL_aged_1 : decode cL_aged 1 = .ok (.iconst 0, 1) := by decide +kernel
theorem dL_aged_2 : decode cL_aged 2 = .ok (.aload_n 0, 1) := by decide +kernel
theorem dL_aged_3 : decode cL_aged 3 = .ok (.iload_n 1, 1) := by decide +kernel
theorem dL_aged_4 : decode cL_aged 4 = .ok (.iload_n 2, 1) := by decide +kernel
theorem dL_aged_5 : decode cL_aged 5 = .ok (.invokevirtual 35, 3) := by decide +kernel
theorem dL_aged_8 : decode cL_aged 8 = .ok (.i2l, 1) := by decide +kernel
theorem dL_aged_9 : decode cL_aged 9 = .ok (.lastore, 1) := by decide +kernel
theorem dL_aged_10 : decode cL_aged 10 = .ok (.goto 7, 3) := by decide +kernel
theorem dL_aged_13 : decode cL_aged 13 = .ok (.astore 4, 2) := by decide +kernel
theorem dL_aged_15 : decode cL_aged 15 = .ok (.iconst 1, 1) := by decide +kernel
theorem dL_aged_16 : decode cL_aged 16 = .ok (.ireturn, 1) := by decide +kernel
theorem dL_aged_17 : decode cL_aged 17 = .ok (.iconst 0, 1) := by decide +kernel
theorem dL_aged_18 : decode cL_aged 18 = .ok (.ireturn, 1) := by decide +kernel
theorem dL_unsure_0 : decode cL_unsure 0 = .ok (.aload_n 2, 1) := by decide +kernel
theorem dL_unsure_1 : decode cL_unsure 1 = .ok (.iconst 0, 1) := by decide +kernel
theorem dL_unsure_2 : decode cL_unsure 2 = .ok (.aload_n 0, 1) := by decide +kernel
theorem dL_unsure_3 : decode cL_unsure 3 = .ok (.iload_n 1, 1) := by decide +kernel
theorem dL_unsure_4 : decode cL_unsure 4 = .ok (.invokevirtual 38, 3) := by decide +kernel
theorem dL_unsure_7 : decode cL_unsure 7 = .ok (.ifCond .eq 7, 3) := by decide +kernel
theorem dL_unsure_10 : decode cL_unsure 10 = .ok (.lconst 1, 1) := by decide +kernel
theorem dL_unsure_11 : decode cL_unsure 11 = .ok (.goto 4, 3) := by decide +kernel
theorem dL_unsure_14 : decode cL_unsure 14 = .ok (.lconst 0, 1) := by decide +kernel
theorem dL_unsure_15 : decode cL_unsure 15 = .ok (.lastore, 1) := by decide +kernel
theorem dL_unsure_16 : decode cL_unsure 16 = .ok (.goto 6, 3) := by decide +kernel
theorem dL_unsure_19 : decode cL_unsure 19 = .ok (.astore_n 3, 1) := by decide +kernel
theorem dL_unsure_20 : decode cL_unsure 20 = .ok (.iconst 1, 1) := by decide +kernel
theorem dL_unsure_21 : decode cL_unsure 21 = .ok (.ireturn, 1) := by decide +kernel
theorem dL_unsure_22 : decode cL_unsure 22 = .ok (.iconst 0, 1) := by decide +kernel
theorem dL_unsure_23 : decode cL_unsure 23 = .ok (.ireturn, 1) := by decide +kernel
theorem dL_clash_0 : decode cL_clash 0 = .ok (.aload_n 3, 1) := by decide +kernel
theorem dL_clash_1 : decode cL_clash 1 = .ok (.iconst 0, 1) := by decide +kernel
theorem dL_clash_2 : decode cL_clash 2 = .ok (.aload_n 0, 1) := by decide +kernel
theorem dL_clash_3 : decode cL_clash 3 = .ok (.iload_n 1, 1) := by decide +kernel
theorem dL_clash_4 : decode cL_clash 4 = .ok (.iload_n 2, 1) := by decide +kernel
theorem dL_clash_5 : decode cL_clash 5 = .ok (.invokevirtual 42, 3) := by decide +kernel
theorem dL_clash_8 : decode cL_clash 8 = .ok (.i2l, 1) := by decide +kernel
theorem dL_clash_9 : decode cL_clash 9 = .ok (.lastore, 1) := by decide +kernel
theorem dL_clash_10 : decode cL_clash 10 = .ok (.goto 11, 3) := by decide +kernel
theorem dL_clash_13 : decode cL_clash 13 = .ok (.astore 4, 2) := by decide +kernel
theorem dL_clash_15 : decode cL_clash 15 = .ok (.iconst 1, 1) := by decide +kernel
theorem dL_clash_16 : decode cL_clash 16 = .ok (.ireturn, 1) := by decide +kernel
theorem dL_clash_17 : decode cL_clash 17 = .ok (.astore 4, 2) := by decide +kernel
theorem dL_clash_19 : decode cL_clash 19 = .ok (.iconst 2, 1) := by decide +kernel
theorem dL_clash_20 : decode cL_clash 20 = .ok (.ireturn, 1) := by decide +kernel
theorem dL_clash_21 : decode cL_clash 21 = .ok (.iconst 0, 1) := by decide +kernel
theorem dL_clash_22 : decode cL_clash 22 = .ok (.ireturn, 1) := by decide +kernel
theorem dL_least_0 : decode cL_least 0 = .ok (.aload_n 2, 1) := by decide +kernel
theorem dL_least_1 : decode cL_least 1 = .ok (.iconst 0, 1) := by decide +kernel
theorem dL_least_2 : decode cL_least 2 = .ok (.aload_n 0, 1) := by decide +kernel
theorem dL_least_3 : decode cL_least 3 = .ok (.iload_n 1, 1) := by decide +kernel
theorem dL_least_4 : decode cL_least 4 = .ok (.invokevirtual 45, 3) := by decide +kernel
theorem dL_least_7 : decode cL_least 7 = .ok (.i2l, 1) := by decide +kernel
theorem dL_least_8 : decode cL_least 8 = .ok (.lastore, 1) := by decide +kernel
theorem dL_least_9 : decode cL_least 9 = .ok (.goto 6, 3) := by decide +kernel
theorem dL_least_12 : decode cL_least 12 = .ok (.astore_n 3, 1) := by decide +kernel
theorem dL_least_13 : decode cL_least 13 = .ok (.iconst 1, 1) := by decide +kernel
theorem dL_least_14 : decode cL_least 14 = .ok (.ireturn, 1) := by decide +kernel
theorem dL_least_15 : decode cL_least 15 = .ok (.iconst 0, 1) := by decide +kernel
theorem dL_least_16 : decode cL_least 16 = .ok (.ireturn, 1) := by decide +kernel
theorem dL_animal_0 : decode cL_animal 0 = .ok (.aload_n 2, 1) := by decide +kernel
theorem dL_animal_1 : decode cL_animal 1 = .ok (.iconst 0, 1) := by decide +kernel
theorem dL_animal_2 : decode cL_animal 2 = .ok (.aload_n 0, 1) := by decide +kernel
theorem dL_animal_3 : decode cL_animal 3 = .ok (.iload_n 1, 1) := by decide +kernel
theorem dL_animal_4 : decode cL_animal 4 = .ok (.invokevirtual 49, 3) := by decide +kernel
theorem dL_animal_7 : decode cL_animal 7 = .ok (.i2l, 1) := by decide +kernel
theorem dL_animal_8 : decode cL_animal 8 = .ok (.lastore, 1) := by decide +kernel
theorem dL_animal_9 : decode cL_animal 9 = .ok (.goto 6, 3) := by decide +kernel
theorem dL_animal_12 : decode cL_animal 12 = .ok (.astore_n 3, 1) := by decide +kernel
theorem dL_animal_13 : decode cL_animal 13 = .ok (.iconst 1, 1) := by decide +kernel
theorem dL_animal_14 : decode cL_animal 14 = .ok (.ireturn, 1) := by decide +kernel
theorem dL_animal_15 : decode cL_animal 15 = .ok (.iconst 0, 1) := by decide +kernel
theorem dL_animal_16 : decode cL_animal 16 = .ok (.ireturn, 1) := by decide +kernel
theorem dL_clashing_0 : decode cL_clashing 0 = .ok (.aload_n 3, 1) := by decide +kernel
theorem dL_clashing_1 : decode cL_clashing 1 = .ok (.iconst 0, 1) := by decide +kernel
theorem dL_clashing_2 : decode cL_clashing 2 = .ok (.aload_n 0, 1) := by decide +kernel
theorem dL_clashing_3 : decode cL_clashing 3 = .ok (.iload_n 1, 1) := by decide +kernel
theorem dL_clashing_4 : decode cL_clashing 4 = .ok (.iload_n 2, 1) := by decide +kernel
theorem dL_clashing_5 : decode cL_clashing 5 = .ok (.invokevirtual 52, 3) := by decide +kernel
theorem dL_clashing_8 : decode cL_clashing 8 = .ok (.i2l, 1) := by decide +kernel
theorem dL_clashing_9 : decode cL_clashing 9 = .ok (.lastore, 1) := by decide +kernel
theorem dL_clashing_10 : decode cL_clashing 10 = .ok (.goto 7, 3) := by decide +kernel
theorem dL_clashing_13 : decode cL_clashing 13 = .ok (.astore 4, 2) := by decide +kernel
theorem dL_clashing_15 : decode cL_clashing 15 = .ok (.iconst 1, 1) := by decide +kernel
theorem dL_clashing_16 : decode cL_clashing 16 = .ok (.ireturn, 1) := by decide +kernel
theorem dL_clashing_17 : decode cL_clashing 17 = .ok (.iconst 0, 1) := by decide +kernel
theorem dL_clashing_18 : decode cL_clashing 18 = .ok (.ireturn, 1) := by decide +kernel
theorem dL_weight_0 : decode cL_weight 0 = .ok (.aload_n 3, 1) := by decide +kernel
theorem dL_weight_1 : decode cL_weight 1 = .ok (.iconst 0, 1) := by decide +kernel
theorem dL_weight_2 : decode cL_weight 2 = .ok (.aload_n 0, 1) := by decide +kernel
theorem dL_weight_3 : decode cL_weight 3 = .ok (.iload_n 1, 1) := by decide +kernel
theorem dL_weight_4 : decode cL_weight 4 = .ok (.iload_n 2, 1) := by decide +kernel
theorem dL_weight_5 : decode cL_weight 5 = .ok (.invokevirtual 55, 3) := by decide +kernel
theorem dL_weight_8 : decode cL_weight 8 = .ok (.i2l, 1) := by decide +kernel
theorem dL_weight_9 : decode cL_weight 9 = .ok (.lastore, 1) := by decide +kernel
theorem dL_weight_10 : decode cL_weight 10 = .ok (.goto 11, 3) := by decide +kernel
theorem dL_weight_13 : decode cL_weight 13 = .ok (.astore 4, 2) := by decide +kernel
theorem dL_weight_15 : decode cL_weight 15 = .ok (.iconst 1, 1) := by decide +kernel
theorem dL_weight_16 : decode cL_weight 16 = .ok (.ireturn, 1) := by decide +kernel
theorem dL_weight_17 : decode cL_weight 17 = .ok (.astore 4, 2) := by decide +kernel
theorem dL_weight_19 : decode cL_weight 19 = .ok (.iconst 2, 1) := by decide +kernel
theorem dL_weight_20 : decode cL_weight 20 = .ok (.ireturn, 1) := by decide +kernel
theorem dL_weight_21 : decode cL_weight 21 = .ok (.iconst 0, 1) := by decide +kernel
theorem dL_weight_22 : decode cL_weight 22 = .ok (.ireturn, 1) := by decide +kernel
theorem dL_sum_0 : decode cL_sum 0 = .ok (.aload_n 2, 1) := by decide +kernel
theorem dL_sum_1 : decode cL_sum 1 = .ok (.iconst 0, 1) := by decide +kernel
theorem dL_sum_2 : decode cL_sum 2 = .ok (.aload_n 0, 1) := by decide +kernel
theorem dL_sum_3 : decode cL_sum 3 = .ok (.iload_n 1, 1) := by decide +kernel
theorem dL_sum_4 : decode cL_sum 4 = .ok (.invokevirtual 58, 3) := by decide +kernel
theorem dL_sum_7 : decode cL_sum 7 = .ok (.i2l, 1) := by decide +kernel
theorem dL_sum_8 : decode cL_sum 8 = .ok (.lastore, 1) := by decide +kernel
theorem dL_sum_9 : decode cL_sum 9 = .ok (.goto 6, 3) := by decide +kernel
theorem dL_sum_12 : decode cL_sum 12 = .ok (.astore_n 3, 1) := by decide +kernel
theorem dL_sum_13 : decode cL_sum 13 = .ok (.iconst 1, 1) := by decide +kernel
theorem dL_sum_14 : decode cL_sum 14 = .ok (.ireturn, 1) := by decide +kernel
theorem dL_sum_15 : decode cL_sum 15 = .ok (.iconst 0, 1) := by decide +kernel
theorem dL_sum_16 : decode cL_sum 16 = .ok (.ireturn, 1) := by decide +kernel
theorem dL_share_0 : decode cL_share 0 = .ok (.aload_n 3, 1) := by decide +kernel
theorem dL_share_1 : decode cL_share 1 = .ok (.iconst 0, 1) := by decide +kernel
theorem dL_share_2 : decode cL_share 2 = .ok (.aload_n 0, 1) := by decide +kernel
theorem dL_share_3 : decode cL_share 3 = .ok (.iload_n 1, 1) := by decide +kernel
theorem dL_share_4 : decode cL_share 4 = .ok (.iload_n 2, 1) := by decide +kernel
theorem dL_share_5 : decode cL_share 5 = .ok (.invokevirtual 61, 3) := by decide +kernel
theorem dL_share_8 : decode cL_share 8 = .ok (.i2l, 1) := by decide +kernel
theorem dL_share_9 : decode cL_share 9 = .ok (.lastore, 1) := by decide +kernel
theorem dL_share_10 : decode cL_share 10 = .ok (.goto 7, 3) := by decide +kernel
theorem dL_share_13 : decode cL_share 13 = .ok (.astore 4, 2) := by decide +kernel
theorem dL_share_15 : decode cL_share 15 = .ok (.iconst 1, 1) := by decide +kernel
theorem dL_share_16 : decode cL_share 16 = .ok (.ireturn, 1) := by decide +kernel
theorem dL_share_17 : decode cL_share 17 = .ok (.iconst 0, 1) := by decide +kernel
theorem dL_share_18 : decode cL_share 18 = .ok (.ireturn, 1) := by decide +kernel
theorem dL_sieve_0 : decode cL_sieve 0 = .ok (.aload_n 0, 1) := by decide +kernel
theorem dL_sieve_1 : decode cL_sieve 1 = .ok (.iload_n 1, 1) := by decide +kernel
theorem dL_sieve_2 : decode cL_sieve 2 = .ok (.iload_n 2, 1) := by decide +kernel
theorem dL_sieve_3 : decode cL_sieve 3 = .ok (.iload_n 3, 1) := by decide +kernel
theorem dL_sieve_4 : decode cL_sieve 4 = .ok (.invokevirtual 64, 3) := by decide +kernel
theorem dL_sieve_7 : decode cL_sieve 7 = .ok (.goto 11, 3) := by decide +kernel
theorem dL_sieve_10 : decode cL_sieve 10 = .ok (.astore 4, 2) := by decide +kernel
theorem dL_sieve_12 : decode cL_sieve 12 = .ok (.iconst 1, 1) := by decide +kernel
theorem dL_sieve_13 : decode cL_sieve 13 = .ok (.ireturn, 1) := by decide +kernel
theorem dL_sieve_14 : decode cL_sieve 14 = .ok (.astore 4, 2) := by decide +kernel
theorem dL_sieve_16 : decode cL_sieve 16 = .ok (.iconst 2, 1) := by decide +kernel
theorem dL_sieve_17 : decode cL_sieve 17 = .ok (.ireturn, 1) := by decide +kernel
theorem dL_sieve_18 : decode cL_sieve 18 = .ok (.iconst 0, 1) := by decide +kernel
theorem dL_sieve_19 : decode cL_sieve 19 = .ok (.ireturn, 1) := by decide +kernel
theorem dL_scaled_0 : decode cL_scaled 0 = .ok (.aload_n 3, 1) := by decide +kernel
theorem dL_scaled_1 : decode cL_scaled 1 = .ok (.iconst 0, 1) := by decide +kernel
theorem dL_scaled_2 : decode cL_scaled 2 = .ok (.aload_n 0, 1) := by decide +kernel
theorem dL_scaled_3 : decode cL_scaled 3 = .ok (.iload_n 1, 1) := by decide +kernel
theorem dL_scaled_4 : decode cL_scaled 4 = .ok (.iload_n 2, 1) := by decide +kernel
theorem dL_scaled_5 : decode cL_scaled 5 = .ok (.invokevirtual 68, 3) := by decide +kernel
theorem dL_scaled_8 : decode cL_scaled 8 = .ok (.i2l, 1) := by decide +kernel
theorem dL_scaled_9 : decode cL_scaled 9 = .ok (.lastore, 1) := by decide +kernel
theorem dL_scaled_10 : decode cL_scaled 10 = .ok (.goto 7, 3) := by decide +kernel
theorem dL_scaled_13 : decode cL_scaled 13 = .ok (.astore 4, 2) := by decide +kernel
theorem dL_scaled_15 : decode cL_scaled 15 = .ok (.iconst 1, 1) := by decide +kernel
theorem dL_scaled_16 : decode cL_scaled 16 = .ok (.ireturn, 1) := by decide +kernel
theorem dL_scaled_17 : decode cL_scaled 17 = .ok (.iconst 0, 1) := by decide +kernel
theorem dL_scaled_18 : decode cL_scaled 18 = .ok (.ireturn, 1) := by decide +kernel
theorem dL_diverse_0 : decode cL_diverse 0 = .ok (.aload_n 2, 1) := by decide +kernel
theorem dL_diverse_1 : decode cL_diverse 1 = .ok (.iconst 0, 1) := by decide +kernel
theorem dL_diverse_2 : decode cL_diverse 2 = .ok (.aload_n 0, 1) := by decide +kernel
theorem dL_diverse_3 : decode cL_diverse 3 = .ok (.iload_n 1, 1) := by decide +kernel
theorem dL_diverse_4 : decode cL_diverse 4 = .ok (.invokevirtual 71, 3) := by decide +kernel
theorem dL_diverse_7 : decode cL_diverse 7 = .ok (.i2l, 1) := by decide +kernel
theorem dL_diverse_8 : decode cL_diverse 8 = .ok (.lastore, 1) := by decide +kernel
theorem dL_diverse_9 : decode cL_diverse 9 = .ok (.goto 6, 3) := by decide +kernel
theorem dL_diverse_12 : decode cL_diverse 12 = .ok (.astore_n 3, 1) := by decide +kernel
theorem dL_diverse_13 : decode cL_diverse 13 = .ok (.iconst 1, 1) := by decide +kernel
theorem dL_diverse_14 : decode cL_diverse 14 = .ok (.ireturn, 1) := by decide +kernel
theorem dL_diverse_15 : decode cL_diverse 15 = .ok (.iconst 0, 1) := by decide +kernel
theorem dL_diverse_16 : decode cL_diverse 16 = .ok (.ireturn, 1) := by decide +kernel
theorem dL_pieces_0 : decode cL_pieces 0 = .ok (.aload_n 2, 1) := by decide +kernel
theorem dL_pieces_1 : decode cL_pieces 1 = .ok (.iconst 0, 1) := by decide +kernel
theorem dL_pieces_2 : decode cL_pieces 2 = .ok (.aload_n 0, 1) := by decide +kernel
theorem dL_pieces_3 : decode cL_pieces 3 = .ok (.iload_n 1, 1) := by decide +kernel
theorem dL_pieces_4 : decode cL_pieces 4 = .ok (.invokevirtual 74, 3) := by decide +kernel
theorem dL_pieces_7 : decode cL_pieces 7 = .ok (.i2l, 1) := by decide +kernel
theorem dL_pieces_8 : decode cL_pieces 8 = .ok (.lastore, 1) := by decide +kernel
theorem dL_pieces_9 : decode cL_pieces 9 = .ok (.goto 6, 3) := by decide +kernel
theorem dL_pieces_12 : decode cL_pieces 12 = .ok (.astore_n 3, 1) := by decide +kernel
theorem dL_pieces_13 : decode cL_pieces 13 = .ok (.iconst 1, 1) := by decide +kernel
theorem dL_pieces_14 : decode cL_pieces 14 = .ok (.ireturn, 1) := by decide +kernel
theorem dL_pieces_15 : decode cL_pieces 15 = .ok (.iconst 0, 1) := by decide +kernel
theorem dL_pieces_16 : decode cL_pieces 16 = .ok (.ireturn, 1) := by decide +kernel
