theorem d_LW_feed_0 : decode b_LW_feed 0 = .ok (.aload 6, 2) := by decide +kernel
theorem d_LW_feed_2 : decode b_LW_feed 2 = .ok (.iconst 0, 1) := by decide +kernel
theorem d_LW_feed_3 : decode b_LW_feed 3 = .ok (.aload_n 0, 1) := by decide +kernel
theorem d_LW_feed_4 : decode b_LW_feed 4 = .ok (.iload_n 1, 1) := by decide +kernel
theorem d_LW_feed_5 : decode b_LW_feed 5 = .ok (.iload_n 2, 1) := by decide +kernel
theorem d_LW_feed_6 : decode b_LW_feed 6 = .ok (.iload_n 3, 1) := by decide +kernel
theorem d_LW_feed_7 : decode b_LW_feed 7 = .ok (.iload 4, 2) := by decide +kernel
theorem d_LW_feed_9 : decode b_LW_feed 9 = .ok (.iload 5, 2) := by decide +kernel
theorem d_LW_feed_11 : decode b_LW_feed 11 = .ok (.invokevirtual 7, 3) := by decide +kernel
theorem d_LW_feed_14 : decode b_LW_feed 14 = .ok (.i2l, 1) := by decide +kernel
theorem d_LW_feed_15 : decode b_LW_feed 15 = .ok (.lastore, 1) := by decide +kernel
theorem d_LW_feed_16 : decode b_LW_feed 16 = .ok (.goto 7, 3) := by decide +kernel
theorem d_LW_feed_19 : decode b_LW_feed 19 = .ok (.astore 7, 2) := by decide +kernel
theorem d_LW_feed_21 : decode b_LW_feed 21 = .ok (.iconst 1, 1) := by decide +kernel
theorem d_LW_feed_22 : decode b_LW_feed 22 = .ok (.ireturn, 1) := by decide +kernel
theorem d_LW_feed_23 : decode b_LW_feed 23 = .ok (.iconst 0, 1) := by decide +kernel
theorem d_LW_feed_24 : decode b_LW_feed 24 = .ok (.ireturn, 1) := by decide +kernel
theorem d_LW_end_0 : decode b_LW_end 0 = .ok (.aload_n 3, 1) := by decide +kernel
theorem d_LW_end_1 : decode b_LW_end 1 = .ok (.iconst 0, 1) := by decide +kernel
theorem d_LW_end_2 : decode b_LW_end 2 = .ok (.aload_n 0, 1) := by decide +kernel
theorem d_LW_end_3 : decode b_LW_end 3 = .ok (.iload_n 1, 1) := by decide +kernel
theorem d_LW_end_4 : decode b_LW_end 4 = .ok (.iload_n 2, 1) := by decide +kernel
theorem d_LW_end_5 : decode b_LW_end 5 = .ok (.invokevirtual 15, 3) := by decide +kernel
theorem d_LW_end_8 : decode b_LW_end 8 = .ok (.i2l, 1) := by decide +kernel
theorem d_LW_end_9 : decode b_LW_end 9 = .ok (.lastore, 1) := by decide +kernel
theorem d_LW_end_10 : decode b_LW_end 10 = .ok (.goto 11, 3) := by decide +kernel
theorem d_LW_end_13 : decode b_LW_end 13 = .ok (.astore 4, 2) := by decide +kernel
theorem d_LW_end_15 : decode b_LW_end 15 = .ok (.iconst 1, 1) := by decide +kernel
theorem d_LW_end_16 : decode b_LW_end 16 = .ok (.ireturn, 1) := by decide +kernel
theorem d_LW_end_17 : decode b_LW_end 17 = .ok (.astore 4, 2) := by decide +kernel
theorem d_LW_end_19 : decode b_LW_end 19 = .ok (.iconst 2, 1) := by decide +kernel
theorem d_LW_end_20 : decode b_LW_end 20 = .ok (.ireturn, 1) := by decide +kernel
theorem d_LW_end_21 : decode b_LW_end 21 = .ok (.iconst 0, 1) := by decide +kernel
theorem d_LW_end_22 : decode b_LW_end 22 = .ok (.ireturn, 1) := by decide +kernel
theorem d_LW_check_0 : decode b_LW_check 0 = .ok (.aload_n 1, 1) := by decide +kernel
theorem d_LW_check_1 : decode b_LW_check 1 = .ok (.iconst 0, 1) := by decide +kernel
theorem d_LW_check_2 : decode b_LW_check 2 = .ok (.aload_n 0, 1) := by decide +kernel
theorem d_LW_check_3 : decode b_LW_check 3 = .ok (.invokevirtual 21, 3) := by decide +kernel
theorem d_LW_check_6 : decode b_LW_check 6 = .ok (.i2l, 1) := by decide +kernel
theorem d_LW_check_7 : decode b_LW_check 7 = .ok (.lastore, 1) := by decide +kernel
theorem d_LW_check_8 : decode b_LW_check 8 = .ok (.goto 6, 3) := by decide +kernel
theorem d_LW_check_11 : decode b_LW_check 11 = .ok (.astore_n 2, 1) := by decide +kernel
theorem d_LW_check_12 : decode b_LW_check 12 = .ok (.iconst 1, 1) := by decide +kernel
theorem d_LW_check_13 : decode b_LW_check 13 = .ok (.ireturn, 1) := by decide +kernel
theorem d_LW_check_14 : decode b_LW_check 14 = .ok (.iconst 0, 1) := by decide +kernel
theorem d_LW_check_15 : decode b_LW_check 15 = .ok (.ireturn, 1) := by decide +kernel
theorem d_LW_validate_0 : decode b_LW_validate 0 = .ok (.aload_n 1, 1) := by decide +kernel
theorem d_LW_validate_1 : decode b_LW_validate 1 = .ok (.iconst 0, 1) := by decide +kernel
theorem d_LW_validate_2 : decode b_LW_validate 2 = .ok (.aload_n 0, 1) := by decide +kernel
theorem d_LW_validate_3 : decode b_LW_validate 3 = .ok (.invokevirtual 27, 3) := by decide +kernel
theorem d_LW_validate_6 : decode b_LW_validate 6 = .ok (.ifCond .eq 7, 3) := by decide +kernel
theorem d_LW_validate_9 : decode b_LW_validate 9 = .ok (.lconst 1, 1) := by decide +kernel
theorem d_LW_validate_10 : decode b_LW_validate 10 = .ok (.goto 4, 3) := by decide +kernel
theorem d_LW_validate_13 : decode b_LW_validate 13 = .ok (.lconst 0, 1) := by decide +kernel
theorem d_LW_validate_14 : decode b_LW_validate 14 = .ok (.lastore, 1) := by decide +kernel
theorem d_LW_validate_15 : decode b_LW_validate 15 = .ok (.goto 9, 3) := by decide +kernel
theorem d_LW_validate_18 : decode b_LW_validate 18 = .ok (.astore_n 2, 1) := by decide +kernel
theorem d_LW_validate_19 : decode b_LW_validate 19 = .ok (.iconst 1, 1) := by decide +kernel
theorem d_LW_validate_20 : decode b_LW_validate 20 = .ok (.ireturn, 1) := by decide +kernel
theorem d_LW_validate_21 : decode b_LW_validate 21 = .ok (.astore_n 2, 1) := by decide +kernel
theorem d_LW_validate_22 : decode b_LW_validate 22 = .ok (.iconst 2, 1) := by decide +kernel
theorem d_LW_validate_23 : decode b_LW_validate 23 = .ok (.ireturn, 1) := by decide +kernel
theorem d_LW_validate_24 : decode b_LW_validate 24 = .ok (.iconst 0, 1) := by decide +kernel
theorem d_LW_validate_25 : decode b_LW_validate 25 = .ok (.ireturn, 1) := by decide +kernel
theorem d_LW_pair_0 : decode b_LW_pair 0 = .ok (.aload_n 3, 1) := by decide +kernel
theorem d_LW_pair_1 : decode b_LW_pair 1 = .ok (.iconst 0, 1) := by decide +kernel
theorem d_LW_pair_2 : decode b_LW_pair 2 = .ok (.aload_n 0, 1) := by decide +kernel
theorem d_LW_pair_3 : decode b_LW_pair 3 = .ok (.iload_n 1, 1) := by decide +kernel
theorem d_LW_pair_4 : decode b_LW_pair 4 = .ok (.iload_n 2, 1) := by decide +kernel
theorem d_LW_pair_5 : decode b_LW_pair 5 = .ok (.invokevirtual 33, 3) := by decide +kernel
theorem d_LW_pair_8 : decode b_LW_pair 8 = .ok (.i2l, 1) := by decide +kernel
theorem d_LW_pair_9 : decode b_LW_pair 9 = .ok (.lastore, 1) := by decide +kernel
theorem d_LW_pair_10 : decode b_LW_pair 10 = .ok (.goto 7, 3) := by decide +kernel
theorem d_LW_pair_13 : decode b_LW_pair 13 = .ok (.astore 4, 2) := by decide +kernel
theorem d_LW_pair_15 : decode b_LW_pair 15 = .ok (.iconst 1, 1) := by decide +kernel
theorem d_LW_pair_16 : decode b_LW_pair 16 = .ok (.ireturn, 1) := by decide +kernel
theorem d_LW_pair_17 : decode b_LW_pair 17 = .ok (.iconst 0, 1) := by decide +kernel
theorem d_LW_pair_18 : decode b_LW_pair 18 = .ok (.ireturn, 1) := by decide +kernel
theorem d_LW_value_0 : decode b_LW_value 0 = .ok (.aload 4, 2) := by decide +kernel
theorem d_LW_value_2 : decode b_LW_value 2 = .ok (.iconst 0, 1) := by decide +kernel
theorem d_LW_value_3 : decode b_LW_value 3 = .ok (.aload_n 0, 1) := by decide +kernel
theorem d_LW_value_4 : decode b_LW_value 4 = .ok (.iload_n 1, 1) := by decide +kernel
theorem d_LW_value_5 : decode b_LW_value 5 = .ok (.iload_n 2, 1) := by decide +kernel
theorem d_LW_value_6 : decode b_LW_value 6 = .ok (.iload_n 3, 1) := by decide +kernel
theorem d_LW_value_7 : decode b_LW_value 7 = .ok (.invokevirtual 37, 3) := by decide +kernel
theorem d_LW_value_10 : decode b_LW_value 10 = .ok (.i2l, 1) := by decide +kernel
theorem d_LW_value_11 : decode b_LW_value 11 = .ok (.lastore, 1) := by decide +kernel
theorem d_LW_value_12 : decode b_LW_value 12 = .ok (.goto 11, 3) := by decide +kernel
theorem d_LW_value_15 : decode b_LW_value 15 = .ok (.astore 5, 2) := by decide +kernel
theorem d_LW_value_17 : decode b_LW_value 17 = .ok (.iconst 1, 1) := by decide +kernel
theorem d_LW_value_18 : decode b_LW_value 18 = .ok (.ireturn, 1) := by decide +kernel
theorem d_LW_value_19 : decode b_LW_value 19 = .ok (.astore 5, 2) := by decide +kernel
theorem d_LW_value_21 : decode b_LW_value 21 = .ok (.iconst 2, 1) := by decide +kernel
theorem d_LW_value_22 : decode b_LW_value 22 = .ok (.ireturn, 1) := by decide +kernel
theorem d_LW_value_23 : decode b_LW_value 23 = .ok (.iconst 0, 1) := by decide +kernel
theorem d_LW_value_24 : decode b_LW_value 24 = .ok (.ireturn, 1) := by decide +kernel
theorem d_LW_alike_0 : decode b_LW_alike 0 = .ok (.aload_n 3, 1) := by decide +kernel
theorem d_LW_alike_1 : decode b_LW_alike 1 = .ok (.iconst 0, 1) := by decide +kernel
theorem d_LW_alike_2 : decode b_LW_alike 2 = .ok (.aload_n 0, 1) := by decide +kernel
theorem d_LW_alike_3 : decode b_LW_alike 3 = .ok (.iload_n 1, 1) := by decide +kernel
theorem d_LW_alike_4 : decode b_LW_alike 4 = .ok (.iload_n 2, 1) := by decide +kernel
theorem d_LW_alike_5 : decode b_LW_alike 5 = .ok (.invokevirtual 41, 3) := by decide +kernel
theorem d_LW_alike_8 : decode b_LW_alike 8 = .ok (.ifCond .eq 7, 3) := by decide +kernel
theorem d_LW_alike_11 : decode b_LW_alike 11 = .ok (.lconst 1, 1) := by decide +kernel
theorem d_LW_alike_12 : decode b_LW_alike 12 = .ok (.goto 4, 3) := by decide +kernel
theorem d_LW_alike_15 : decode b_LW_alike 15 = .ok (.lconst 0, 1) := by decide +kernel
theorem d_LW_alike_16 : decode b_LW_alike 16 = .ok (.lastore, 1) := by decide +kernel
theorem d_LW_alike_17 : decode b_LW_alike 17 = .ok (.goto 7, 3) := by decide +kernel
theorem d_LW_alike_20 : decode b_LW_alike 20 = .ok (.astore 4, 2) := by decide +kernel
theorem d_LW_alike_22 : decode b_LW_alike 22 = .ok (.iconst 1, 1) := by decide +kernel
theorem d_LW_alike_23 : decode b_LW_alike 23 = .ok (.ireturn, 1) := by decide +kernel
theorem d_LW_alike_24 : decode b_LW_alike 24 = .ok (.iconst 0, 1) := by decide +kernel
theorem d_LW_alike_25 : decode b_LW_alike 25 = .ok (.ireturn, 1) := by decide +kernel
theorem d_LW_matches_0 : decode b_LW_matches 0 = .ok (.aload_n 3, 1) := by decide +kernel
theorem d_LW_matches_1 : decode b_LW_matches 1 = .ok (.iconst 0, 1) := by decide +kernel
theorem d_LW_matches_2 : decode b_LW_matches 2 = .ok (.aload_n 0, 1) := by decide +kernel
theorem d_LW_matches_3 : decode b_LW_matches 3 = .ok (.iload_n 1, 1) := by decide +kernel
theorem d_LW_matches_4 : decode b_LW_matches 4 = .ok (.iload_n 2, 1) := by decide +kernel
theorem d_LW_matches_5 : decode b_LW_matches 5 = .ok (.invokevirtual 45, 3) := by decide +kernel
theorem d_LW_matches_8 : decode b_LW_matches 8 = .ok (.ifCond .eq 7, 3) := by decide +kernel
theorem d_LW_matches_11 : decode b_LW_matches 11 = .ok (.lconst 1, 1) := by decide +kernel
theorem d_LW_matches_12 : decode b_LW_matches 12 = .ok (.goto 4, 3) := by decide +kernel
theorem d_LW_matches_15 : decode b_LW_matches 15 = .ok (.lconst 0, 1) := by decide +kernel
theorem d_LW_matches_16 : decode b_LW_matches 16 = .ok (.lastore, 1) := by decide +kernel
theorem d_LW_matches_17 : decode b_LW_matches 17 = .ok (.goto 11, 3) := by decide +kernel
theorem d_LW_matches_20 : decode b_LW_matches 20 = .ok (.astore 4, 2) := by decide +kernel
theorem d_LW_matches_22 : decode b_LW_matches 22 = .ok (.iconst 1, 1) := by decide +kernel
theorem d_LW_matches_23 : decode b_LW_matches 23 = .ok (.ireturn, 1) := by decide +kernel
theorem d_LW_matches_24 : decode b_LW_matches 24 = .ok (.astore 4, 2) := by decide +kernel
theorem d_LW_matches_26 : decode b_LW_matches 26 = .ok (.iconst 2, 1) := by decide +kernel
theorem d_LW_matches_27 : decode b_LW_matches 27 = .ok (.ireturn, 1) := by decide +kernel
theorem d_LW_matches_28 : decode b_LW_matches 28 = .ok (.iconst 0, 1) := by decide +kernel
theorem d_LW_matches_29 : decode b_LW_matches 29 = .ok (.ireturn, 1) := by decide +kernel
theorem d_LW_count_0 : decode b_LW_count 0 = .ok (.aload_n 2, 1) := by decide +kernel
theorem d_LW_count_1 : decode b_LW_count 1 = .ok (.iconst 0, 1) := by decide +kernel
theorem d_LW_count_2 : decode b_LW_count 2 = .ok (.aload_n 0, 1) := by decide +kernel
theorem d_LW_count_3 : decode b_LW_count 3 = .ok (.iload_n 1, 1) := by decide +kernel
theorem d_LW_count_4 : decode b_LW_count 4 = .ok (.invokevirtual 48, 3) := by decide +kernel
theorem d_LW_count_7 : decode b_LW_count 7 = .ok (.i2l, 1) := by decide +kernel
theorem d_LW_count_8 : decode b_LW_count 8 = .ok (.lastore, 1) := by decide +kernel
theorem d_LW_count_9 : decode b_LW_count 9 = .ok (.goto 6, 3) := by decide +kernel
theorem d_LW_count_12 : decode b_LW_count 12 = .ok (.astore_n 3, 1) := by decide +kernel
theorem d_LW_count_13 : decode b_LW_count 13 = .ok (.iconst 1, 1) := by decide +kernel
theorem d_LW_count_14 : decode b_LW_count 14 = .ok (.ireturn, 1) := by decide +kernel
theorem d_LW_count_15 : decode b_LW_count 15 = .ok (.iconst 0, 1) := by decide +kernel
theorem d_LW_count_16 : decode b_LW_count 16 = .ok (.ireturn, 1) := by decide +kernel
