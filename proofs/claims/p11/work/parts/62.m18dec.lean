theorem d_Jd_finish_0 : decode b_Jd_finish 0 = .ok (.aload_n 0, 1) := by decide +kernel
theorem d_Jd_finish_1 : decode b_Jd_finish 1 = .ok (.getfield 56, 3) := by decide +kernel
theorem d_Jd_finish_4 : decode b_Jd_finish 4 = .ok (.ifCond .eq 11, 3) := by decide +kernel
theorem d_Jd_finish_7 : decode b_Jd_finish 7 = .ok (.aload_n 0, 1) := by decide +kernel
theorem d_Jd_finish_8 : decode b_Jd_finish 8 = .ok (.getfield 44, 3) := by decide +kernel
theorem d_Jd_finish_11 : decode b_Jd_finish 11 = .ok (.iconst 0, 1) := by decide +kernel
theorem d_Jd_finish_12 : decode b_Jd_finish 12 = .ok (.invokevirtual 48, 3) := by decide +kernel
theorem d_Jd_finish_15 : decode b_Jd_finish 15 = .ok (.aload_n 0, 1) := by decide +kernel
theorem d_Jd_finish_16 : decode b_Jd_finish 16 = .ok (.getfield 44, 3) := by decide +kernel
theorem d_Jd_finish_19 : decode b_Jd_finish 19 = .ok (.invokevirtual 66, 3) := by decide +kernel
theorem d_Jd_finish_22 : decode b_Jd_finish 22 = .ok (.return_, 1) := by decide +kernel
theorem d_Jd_isOver_0 : decode b_Jd_isOver 0 = .ok (.aload_n 0, 1) := by decide +kernel
theorem d_Jd_isOver_1 : decode b_Jd_isOver 1 = .ok (.getfield 56, 3) := by decide +kernel
theorem d_Jd_isOver_4 : decode b_Jd_isOver 4 = .ok (.ireturn, 1) := by decide +kernel
theorem d_SJ_validate_0 : decode b_SJ_validate 0 = .ok (.aload_n 0, 1) := by decide +kernel
theorem d_SJ_validate_1 : decode b_SJ_validate 1 = .ok (.getfield 16, 3) := by decide +kernel
theorem d_SJ_validate_4 : decode b_SJ_validate 4 = .ok (.invokevirtual 102, 3) := by decide +kernel
theorem d_SJ_validate_7 : decode b_SJ_validate 7 = .ok (.ifCond .eq 13, 3) := by decide +kernel
theorem d_SJ_validate_10 : decode b_SJ_validate 10 = .ok (.aload_n 0, 1) := by decide +kernel
theorem d_SJ_validate_11 : decode b_SJ_validate 11 = .ok (.getfield 52, 3) := by decide +kernel
theorem d_SJ_validate_14 : decode b_SJ_validate 14 = .ok (.invokevirtual 116, 3) := by decide +kernel
theorem d_SJ_validate_17 : decode b_SJ_validate 17 = .ok (.ifCond .ne 13, 3) := by decide +kernel
theorem d_SJ_validate_20 : decode b_SJ_validate 20 = .ok (.new 105, 3) := by decide +kernel
theorem d_SJ_validate_23 : decode b_SJ_validate 23 = .ok (.dup, 1) := by decide +kernel
theorem d_SJ_validate_24 : decode b_SJ_validate 24 = .ok (.ldc 119, 2) := by decide +kernel
theorem d_SJ_validate_26 : decode b_SJ_validate 26 = .ok (.invokespecial 109, 3) := by decide +kernel
theorem d_SJ_validate_29 : decode b_SJ_validate 29 = .ok (.athrow, 1) := by decide +kernel
theorem d_SJ_validate_30 : decode b_SJ_validate 30 = .ok (.aload_n 0, 1) := by decide +kernel
theorem d_SJ_validate_31 : decode b_SJ_validate 31 = .ok (.getfield 61, 3) := by decide +kernel
theorem d_SJ_validate_34 : decode b_SJ_validate 34 = .ok (.invokevirtual 121, 3) := by decide +kernel
theorem d_SJ_validate_37 : decode b_SJ_validate 37 = .ok (.aload_n 0, 1) := by decide +kernel
theorem d_SJ_validate_38 : decode b_SJ_validate 38 = .ok (.getfield 61, 3) := by decide +kernel
theorem d_SJ_validate_41 : decode b_SJ_validate 41 = .ok (.iconst 0, 1) := by decide +kernel
theorem d_SJ_validate_42 : decode b_SJ_validate 42 = .ok (.iconst 0, 1) := by decide +kernel
theorem d_SJ_validate_43 : decode b_SJ_validate 43 = .ok (.iconst 1, 1) := by decide +kernel
theorem d_SJ_validate_44 : decode b_SJ_validate 44 = .ok (.invokevirtual 124, 3) := by decide +kernel
theorem d_SJ_validate_47 : decode b_SJ_validate 47 = .ok (.istore_n 1, 1) := by decide +kernel
theorem d_SJ_validate_48 : decode b_SJ_validate 48 = .ok (.aload_n 0, 1) := by decide +kernel
theorem d_SJ_validate_49 : decode b_SJ_validate 49 = .ok (.getfield 61, 3) := by decide +kernel
theorem d_SJ_validate_52 : decode b_SJ_validate 52 = .ok (.invokevirtual 128, 3) := by decide +kernel
theorem d_SJ_validate_55 : decode b_SJ_validate 55 = .ok (.aload_n 0, 1) := by decide +kernel
theorem d_SJ_validate_56 : decode b_SJ_validate 56 = .ok (.getfield 61, 3) := by decide +kernel
theorem d_SJ_validate_59 : decode b_SJ_validate 59 = .ok (.invokevirtual 131, 3) := by decide +kernel
theorem d_SJ_validate_62 : decode b_SJ_validate 62 = .ok (.ifCond .eq 13, 3) := by decide +kernel
theorem d_SJ_validate_65 : decode b_SJ_validate 65 = .ok (.new 134, 3) := by decide +kernel
theorem d_SJ_validate_68 : decode b_SJ_validate 68 = .ok (.dup, 1) := by decide +kernel
theorem d_SJ_validate_69 : decode b_SJ_validate 69 = .ok (.ldc 136, 2) := by decide +kernel
theorem d_SJ_validate_71 : decode b_SJ_validate 71 = .ok (.invokespecial 138, 3) := by decide +kernel
theorem d_SJ_validate_74 : decode b_SJ_validate 74 = .ok (.athrow, 1) := by decide +kernel
theorem d_SJ_validate_75 : decode b_SJ_validate 75 = .ok (.iload_n 1, 1) := by decide +kernel
theorem d_SJ_validate_76 : decode b_SJ_validate 76 = .ok (.ireturn, 1) := by decide +kernel
theorem d_Jd_pairsKept_0 : decode b_Jd_pairsKept 0 = .ok (.aload_n 0, 1) := by decide +kernel
theorem d_Jd_pairsKept_1 : decode b_Jd_pairsKept 1 = .ok (.getfield 44, 3) := by decide +kernel
theorem d_Jd_pairsKept_4 : decode b_Jd_pairsKept 4 = .ok (.invokevirtual 69, 3) := by decide +kernel
theorem d_Jd_pairsKept_7 : decode b_Jd_pairsKept 7 = .ok (.ireturn, 1) := by decide +kernel
theorem d_SJ_pairs_0 : decode b_SJ_pairs 0 = .ok (.aload_n 0, 1) := by decide +kernel
theorem d_SJ_pairs_1 : decode b_SJ_pairs 1 = .ok (.getfield 61, 3) := by decide +kernel
theorem d_SJ_pairs_4 : decode b_SJ_pairs 4 = .ok (.invokevirtual 139, 3) := by decide +kernel
theorem d_SJ_pairs_7 : decode b_SJ_pairs 7 = .ok (.ireturn, 1) := by decide +kernel
theorem d_Pr_at_0 : decode b_Pr_at 0 = .ok (.iload_n 1, 1) := by decide +kernel
theorem d_Pr_at_1 : decode b_Pr_at 1 = .ok (.ifCond .lt 11, 3) := by decide +kernel
theorem d_Pr_at_4 : decode b_Pr_at 4 = .ok (.iload_n 1, 1) := by decide +kernel
theorem d_Pr_at_5 : decode b_Pr_at 5 = .ok (.aload_n 0, 1) := by decide +kernel
theorem d_Pr_at_6 : decode b_Pr_at 6 = .ok (.getfield 18, 3) := by decide +kernel
theorem d_Pr_at_9 : decode b_Pr_at 9 = .ok (.if_icmp .lt 5, 3) := by decide +kernel
theorem d_Pr_at_12 : decode b_Pr_at 12 = .ok (.iconst (-1), 1) := by decide +kernel
theorem d_Pr_at_13 : decode b_Pr_at 13 = .ok (.ireturn, 1) := by decide +kernel
theorem d_Pr_at_14 : decode b_Pr_at 14 = .ok (.iload_n 2, 1) := by decide +kernel
theorem d_Pr_at_15 : decode b_Pr_at 15 = .ok (.ifCond .eq 12, 3) := by decide +kernel
theorem d_Pr_at_18 : decode b_Pr_at 18 = .ok (.aload_n 0, 1) := by decide +kernel
theorem d_Pr_at_19 : decode b_Pr_at 19 = .ok (.getfield 15, 3) := by decide +kernel
theorem d_Pr_at_22 : decode b_Pr_at 22 = .ok (.iload_n 1, 1) := by decide +kernel
theorem d_Pr_at_23 : decode b_Pr_at 23 = .ok (.iaload, 1) := by decide +kernel
theorem d_Pr_at_24 : decode b_Pr_at 24 = .ok (.goto 9, 3) := by decide +kernel
theorem d_Pr_at_27 : decode b_Pr_at 27 = .ok (.aload_n 0, 1) := by decide +kernel
theorem d_Pr_at_28 : decode b_Pr_at 28 = .ok (.getfield 9, 3) := by decide +kernel
theorem d_Pr_at_31 : decode b_Pr_at 31 = .ok (.iload_n 1, 1) := by decide +kernel
theorem d_Pr_at_32 : decode b_Pr_at 32 = .ok (.iaload, 1) := by decide +kernel
theorem d_Pr_at_33 : decode b_Pr_at 33 = .ok (.ireturn, 1) := by decide +kernel
theorem d_Jd_pairAt_0 : decode b_Jd_pairAt 0 = .ok (.aload_n 0, 1) := by decide +kernel
theorem d_Jd_pairAt_1 : decode b_Jd_pairAt 1 = .ok (.getfield 44, 3) := by decide +kernel
theorem d_Jd_pairAt_4 : decode b_Jd_pairAt 4 = .ok (.iload_n 1, 1) := by decide +kernel
theorem d_Jd_pairAt_5 : decode b_Jd_pairAt 5 = .ok (.iload_n 2, 1) := by decide +kernel
theorem d_Jd_pairAt_6 : decode b_Jd_pairAt 6 = .ok (.invokevirtual 73, 3) := by decide +kernel
theorem d_Jd_pairAt_9 : decode b_Jd_pairAt 9 = .ok (.ireturn, 1) := by decide +kernel
theorem d_SJ_pair_0 : decode b_SJ_pair 0 = .ok (.iload_n 1, 1) := by decide +kernel
theorem d_SJ_pair_1 : decode b_SJ_pair 1 = .ok (.ifCond .lt 14, 3) := by decide +kernel
theorem d_SJ_pair_4 : decode b_SJ_pair 4 = .ok (.iload_n 1, 1) := by decide +kernel
theorem d_SJ_pair_5 : decode b_SJ_pair 5 = .ok (.aload_n 0, 1) := by decide +kernel
theorem d_SJ_pair_6 : decode b_SJ_pair 6 = .ok (.getfield 61, 3) := by decide +kernel
theorem d_SJ_pair_9 : decode b_SJ_pair 9 = .ok (.invokevirtual 139, 3) := by decide +kernel
theorem d_SJ_pair_12 : decode b_SJ_pair 12 = .ok (.if_icmp .lt 13, 3) := by decide +kernel
theorem d_SJ_pair_15 : decode b_SJ_pair 15 = .ok (.new 73, 3) := by decide +kernel
theorem d_SJ_pair_18 : decode b_SJ_pair 18 = .ok (.dup, 1) := by decide +kernel
theorem d_SJ_pair_19 : decode b_SJ_pair 19 = .ok (.ldc 142, 2) := by decide +kernel
theorem d_SJ_pair_21 : decode b_SJ_pair 21 = .ok (.invokespecial 77, 3) := by decide +kernel
theorem d_SJ_pair_24 : decode b_SJ_pair 24 = .ok (.athrow, 1) := by decide +kernel
theorem d_SJ_pair_25 : decode b_SJ_pair 25 = .ok (.aload_n 0, 1) := by decide +kernel
theorem d_SJ_pair_26 : decode b_SJ_pair 26 = .ok (.getfield 61, 3) := by decide +kernel
theorem d_SJ_pair_29 : decode b_SJ_pair 29 = .ok (.iload_n 1, 1) := by decide +kernel
theorem d_SJ_pair_30 : decode b_SJ_pair 30 = .ok (.iload_n 2, 1) := by decide +kernel
theorem d_SJ_pair_31 : decode b_SJ_pair 31 = .ok (.invokevirtual 144, 3) := by decide +kernel
theorem d_SJ_pair_34 : decode b_SJ_pair 34 = .ok (.ireturn, 1) := by decide +kernel
theorem d_Tx_has_0 : decode b_Tx_has 0 = .ok (.iload_n 1, 1) := by decide +kernel
theorem d_Tx_has_1 : decode b_Tx_has 1 = .ok (.ifCond .lt 15, 3) := by decide +kernel
theorem d_Tx_has_4 : decode b_Tx_has 4 = .ok (.iload_n 1, 1) := by decide +kernel
theorem d_Tx_has_5 : decode b_Tx_has 5 = .ok (.aload_n 0, 1) := by decide +kernel
theorem d_Tx_has_6 : decode b_Tx_has 6 = .ok (.getfield 43, 3) := by decide +kernel
theorem d_Tx_has_9 : decode b_Tx_has 9 = .ok (.if_icmp .ge 7, 3) := by decide +kernel
theorem d_Tx_has_12 : decode b_Tx_has 12 = .ok (.iconst 1, 1) := by decide +kernel
theorem d_Tx_has_13 : decode b_Tx_has 13 = .ok (.goto 4, 3) := by decide +kernel
theorem d_Tx_has_16 : decode b_Tx_has 16 = .ok (.iconst 0, 1) := by decide +kernel
theorem d_Tx_has_17 : decode b_Tx_has 17 = .ok (.ireturn, 1) := by decide +kernel
theorem d_SJ_value_0 : decode b_SJ_value 0 = .ok (.iload_n 3, 1) := by decide +kernel
theorem d_SJ_value_1 : decode b_SJ_value 1 = .ok (.ifCond .lt 8, 3) := by decide +kernel
theorem d_SJ_value_4 : decode b_SJ_value 4 = .ok (.iload_n 3, 1) := by decide +kernel
theorem d_SJ_value_5 : decode b_SJ_value 5 = .ok (.iconst 4, 1) := by decide +kernel
theorem d_SJ_value_6 : decode b_SJ_value 6 = .ok (.if_icmp .le 13, 3) := by decide +kernel
theorem d_SJ_value_9 : decode b_SJ_value 9 = .ok (.new 97, 3) := by decide +kernel
theorem d_SJ_value_12 : decode b_SJ_value 12 = .ok (.dup, 1) := by decide +kernel
theorem d_SJ_value_13 : decode b_SJ_value 13 = .ok (.ldc 148, 2) := by decide +kernel
theorem d_SJ_value_15 : decode b_SJ_value 15 = .ok (.invokespecial 101, 3) := by decide +kernel
theorem d_SJ_value_18 : decode b_SJ_value 18 = .ok (.athrow, 1) := by decide +kernel
theorem d_SJ_value_19 : decode b_SJ_value 19 = .ok (.iload_n 1, 1) := by decide +kernel
theorem d_SJ_value_20 : decode b_SJ_value 20 = .ok (.ifCond .eq 10, 3) := by decide +kernel
theorem d_SJ_value_23 : decode b_SJ_value 23 = .ok (.aload_n 0, 1) := by decide +kernel
theorem d_SJ_value_24 : decode b_SJ_value 24 = .ok (.getfield 10, 3) := by decide +kernel
theorem d_SJ_value_27 : decode b_SJ_value 27 = .ok (.goto 7, 3) := by decide +kernel
theorem d_SJ_value_30 : decode b_SJ_value 30 = .ok (.aload_n 0, 1) := by decide +kernel
theorem d_SJ_value_31 : decode b_SJ_value 31 = .ok (.getfield 16, 3) := by decide +kernel
theorem d_SJ_value_34 : decode b_SJ_value 34 = .ok (.astore 4, 2) := by decide +kernel
theorem d_SJ_value_36 : decode b_SJ_value 36 = .ok (.aload 4, 2) := by decide +kernel
theorem d_SJ_value_38 : decode b_SJ_value 38 = .ok (.iload_n 2, 1) := by decide +kernel
theorem d_SJ_value_39 : decode b_SJ_value 39 = .ok (.invokevirtual 150, 3) := by decide +kernel
theorem d_SJ_value_42 : decode b_SJ_value 42 = .ok (.ifCond .ne 13, 3) := by decide +kernel
theorem d_SJ_value_45 : decode b_SJ_value 45 = .ok (.new 73, 3) := by decide +kernel
theorem d_SJ_value_48 : decode b_SJ_value 48 = .ok (.dup, 1) := by decide +kernel
theorem d_SJ_value_49 : decode b_SJ_value 49 = .ok (.ldc 154, 2) := by decide +kernel
theorem d_SJ_value_51 : decode b_SJ_value 51 = .ok (.invokespecial 77, 3) := by decide +kernel
theorem d_SJ_value_54 : decode b_SJ_value 54 = .ok (.athrow, 1) := by decide +kernel
theorem d_SJ_value_55 : decode b_SJ_value 55 = .ok (.iload_n 3, 1) := by decide +kernel
theorem d_SJ_value_56 : decode b_SJ_value 56 = .ok (.tableswitch 60 0 3 #[32, 39, 46, 53], 32) := by decide +kernel
theorem d_SJ_value_88 : decode b_SJ_value 88 = .ok (.aload 4, 2) := by decide +kernel
theorem d_SJ_value_90 : decode b_SJ_value 90 = .ok (.iload_n 2, 1) := by decide +kernel
theorem d_SJ_value_91 : decode b_SJ_value 91 = .ok (.invokevirtual 156, 3) := by decide +kernel
theorem d_SJ_value_94 : decode b_SJ_value 94 = .ok (.ireturn, 1) := by decide +kernel
theorem d_SJ_value_95 : decode b_SJ_value 95 = .ok (.aload 4, 2) := by decide +kernel
theorem d_SJ_value_97 : decode b_SJ_value 97 = .ok (.iload_n 2, 1) := by decide +kernel
theorem d_SJ_value_98 : decode b_SJ_value 98 = .ok (.invokevirtual 160, 3) := by decide +kernel
theorem d_SJ_value_101 : decode b_SJ_value 101 = .ok (.ireturn, 1) := by decide +kernel
theorem d_SJ_value_102 : decode b_SJ_value 102 = .ok (.aload 4, 2) := by decide +kernel
theorem d_SJ_value_104 : decode b_SJ_value 104 = .ok (.iload_n 2, 1) := by decide +kernel
theorem d_SJ_value_105 : decode b_SJ_value 105 = .ok (.invokevirtual 163, 3) := by decide +kernel
theorem d_SJ_value_108 : decode b_SJ_value 108 = .ok (.ireturn, 1) := by decide +kernel
theorem d_SJ_value_109 : decode b_SJ_value 109 = .ok (.aload 4, 2) := by decide +kernel
theorem d_SJ_value_111 : decode b_SJ_value 111 = .ok (.iload_n 2, 1) := by decide +kernel
theorem d_SJ_value_112 : decode b_SJ_value 112 = .ok (.invokevirtual 166, 3) := by decide +kernel
theorem d_SJ_value_115 : decode b_SJ_value 115 = .ok (.ireturn, 1) := by decide +kernel
theorem d_SJ_value_116 : decode b_SJ_value 116 = .ok (.aload 4, 2) := by decide +kernel
theorem d_SJ_value_118 : decode b_SJ_value 118 = .ok (.iload_n 2, 1) := by decide +kernel
theorem d_SJ_value_119 : decode b_SJ_value 119 = .ok (.invokevirtual 169, 3) := by decide +kernel
theorem d_SJ_value_122 : decode b_SJ_value 122 = .ok (.ireturn, 1) := by decide +kernel
theorem d_SJ_alike_0 : decode b_SJ_alike 0 = .ok (.aload_n 0, 1) := by decide +kernel
theorem d_SJ_alike_1 : decode b_SJ_alike 1 = .ok (.getfield 16, 3) := by decide +kernel
theorem d_SJ_alike_4 : decode b_SJ_alike 4 = .ok (.iload_n 1, 1) := by decide +kernel
theorem d_SJ_alike_5 : decode b_SJ_alike 5 = .ok (.invokevirtual 150, 3) := by decide +kernel
theorem d_SJ_alike_8 : decode b_SJ_alike 8 = .ok (.ifCond .eq 14, 3) := by decide +kernel
theorem d_SJ_alike_11 : decode b_SJ_alike 11 = .ok (.aload_n 0, 1) := by decide +kernel
theorem d_SJ_alike_12 : decode b_SJ_alike 12 = .ok (.getfield 16, 3) := by decide +kernel
theorem d_SJ_alike_15 : decode b_SJ_alike 15 = .ok (.iload_n 2, 1) := by decide +kernel
theorem d_SJ_alike_16 : decode b_SJ_alike 16 = .ok (.invokevirtual 150, 3) := by decide +kernel
theorem d_SJ_alike_19 : decode b_SJ_alike 19 = .ok (.ifCond .ne 13, 3) := by decide +kernel
theorem d_SJ_alike_22 : decode b_SJ_alike 22 = .ok (.new 73, 3) := by decide +kernel
theorem d_SJ_alike_25 : decode b_SJ_alike 25 = .ok (.dup, 1) := by decide +kernel
theorem d_SJ_alike_26 : decode b_SJ_alike 26 = .ok (.ldc 154, 2) := by decide +kernel
theorem d_SJ_alike_28 : decode b_SJ_alike 28 = .ok (.invokespecial 77, 3) := by decide +kernel
theorem d_SJ_alike_31 : decode b_SJ_alike 31 = .ok (.athrow, 1) := by decide +kernel
theorem d_SJ_alike_32 : decode b_SJ_alike 32 = .ok (.aload_n 0, 1) := by decide +kernel
theorem d_SJ_alike_33 : decode b_SJ_alike 33 = .ok (.getfield 16, 3) := by decide +kernel
theorem d_SJ_alike_36 : decode b_SJ_alike 36 = .ok (.iload_n 1, 1) := by decide +kernel
theorem d_SJ_alike_37 : decode b_SJ_alike 37 = .ok (.aload_n 0, 1) := by decide +kernel
theorem d_SJ_alike_38 : decode b_SJ_alike 38 = .ok (.getfield 16, 3) := by decide +kernel
theorem d_SJ_alike_41 : decode b_SJ_alike 41 = .ok (.iload_n 2, 1) := by decide +kernel
theorem d_SJ_alike_42 : decode b_SJ_alike 42 = .ok (.iconst 0, 1) := by decide +kernel
theorem d_SJ_alike_43 : decode b_SJ_alike 43 = .ok (.invokestatic 172, 3) := by decide +kernel
theorem d_SJ_alike_46 : decode b_SJ_alike 46 = .ok (.ireturn, 1) := by decide +kernel
theorem d_SJ_matches_0 : decode b_SJ_matches 0 = .ok (.aload_n 0, 1) := by decide +kernel
theorem d_SJ_matches_1 : decode b_SJ_matches 1 = .ok (.getfield 16, 3) := by decide +kernel
theorem d_SJ_matches_4 : decode b_SJ_matches 4 = .ok (.iload_n 1, 1) := by decide +kernel
theorem d_SJ_matches_5 : decode b_SJ_matches 5 = .ok (.invokevirtual 150, 3) := by decide +kernel
theorem d_SJ_matches_8 : decode b_SJ_matches 8 = .ok (.ifCond .eq 14, 3) := by decide +kernel
theorem d_SJ_matches_11 : decode b_SJ_matches 11 = .ok (.aload_n 0, 1) := by decide +kernel
theorem d_SJ_matches_12 : decode b_SJ_matches 12 = .ok (.getfield 16, 3) := by decide +kernel
theorem d_SJ_matches_15 : decode b_SJ_matches 15 = .ok (.iload_n 2, 1) := by decide +kernel
theorem d_SJ_matches_16 : decode b_SJ_matches 16 = .ok (.invokevirtual 150, 3) := by decide +kernel
theorem d_SJ_matches_19 : decode b_SJ_matches 19 = .ok (.ifCond .ne 13, 3) := by decide +kernel
theorem d_SJ_matches_22 : decode b_SJ_matches 22 = .ok (.new 73, 3) := by decide +kernel
theorem d_SJ_matches_25 : decode b_SJ_matches 25 = .ok (.dup, 1) := by decide +kernel
theorem d_SJ_matches_26 : decode b_SJ_matches 26 = .ok (.ldc 154, 2) := by decide +kernel
theorem d_SJ_matches_28 : decode b_SJ_matches 28 = .ok (.invokespecial 77, 3) := by decide +kernel
theorem d_SJ_matches_31 : decode b_SJ_matches 31 = .ok (.athrow, 1) := by decide +kernel
theorem d_SJ_matches_32 : decode b_SJ_matches 32 = .ok (.aload_n 0, 1) := by decide +kernel
theorem d_SJ_matches_33 : decode b_SJ_matches 33 = .ok (.getfield 16, 3) := by decide +kernel
theorem d_SJ_matches_36 : decode b_SJ_matches 36 = .ok (.iload_n 1, 1) := by decide +kernel
theorem d_SJ_matches_37 : decode b_SJ_matches 37 = .ok (.invokevirtual 156, 3) := by decide +kernel
theorem d_SJ_matches_40 : decode b_SJ_matches 40 = .ok (.iconst 4, 1) := by decide +kernel
theorem d_SJ_matches_41 : decode b_SJ_matches 41 = .ok (.if_icmp .ne 15, 3) := by decide +kernel
theorem d_SJ_matches_44 : decode b_SJ_matches 44 = .ok (.aload_n 0, 1) := by decide +kernel
theorem d_SJ_matches_45 : decode b_SJ_matches 45 = .ok (.getfield 16, 3) := by decide +kernel
theorem d_SJ_matches_48 : decode b_SJ_matches 48 = .ok (.iload_n 2, 1) := by decide +kernel
theorem d_SJ_matches_49 : decode b_SJ_matches 49 = .ok (.invokevirtual 156, 3) := by decide +kernel
theorem d_SJ_matches_52 : decode b_SJ_matches 52 = .ok (.iconst 4, 1) := by decide +kernel
theorem d_SJ_matches_53 : decode b_SJ_matches 53 = .ok (.if_icmp .eq 13, 3) := by decide +kernel
theorem d_SJ_matches_56 : decode b_SJ_matches 56 = .ok (.new 97, 3) := by decide +kernel
theorem d_SJ_matches_59 : decode b_SJ_matches 59 = .ok (.dup, 1) := by decide +kernel
theorem d_SJ_matches_60 : decode b_SJ_matches 60 = .ok (.ldc 176, 2) := by decide +kernel
theorem d_SJ_matches_62 : decode b_SJ_matches 62 = .ok (.invokespecial 101, 3) := by decide +kernel
theorem d_SJ_matches_65 : decode b_SJ_matches 65 = .ok (.athrow, 1) := by decide +kernel
theorem d_SJ_matches_66 : decode b_SJ_matches 66 = .ok (.aload_n 0, 1) := by decide +kernel
theorem d_SJ_matches_67 : decode b_SJ_matches 67 = .ok (.getfield 40, 3) := by decide +kernel
theorem d_SJ_matches_70 : decode b_SJ_matches 70 = .ok (.aload_n 0, 1) := by decide +kernel
theorem d_SJ_matches_71 : decode b_SJ_matches 71 = .ok (.getfield 16, 3) := by decide +kernel
theorem d_SJ_matches_74 : decode b_SJ_matches 74 = .ok (.iload_n 2, 1) := by decide +kernel
theorem d_SJ_matches_75 : decode b_SJ_matches 75 = .ok (.invokevirtual 178, 3) := by decide +kernel
theorem d_SJ_matches_78 : decode b_SJ_matches 78 = .ok (.ifCond .eq 13, 3) := by decide +kernel
theorem d_SJ_matches_81 : decode b_SJ_matches 81 = .ok (.aload_n 0, 1) := by decide +kernel
theorem d_SJ_matches_82 : decode b_SJ_matches 82 = .ok (.getfield 40, 3) := by decide +kernel
theorem d_SJ_matches_85 : decode b_SJ_matches 85 = .ok (.invokevirtual 182, 3) := by decide +kernel
theorem d_SJ_matches_88 : decode b_SJ_matches 88 = .ok (.ifCond .ne 13, 3) := by decide +kernel
theorem d_SJ_matches_91 : decode b_SJ_matches 91 = .ok (.new 97, 3) := by decide +kernel
theorem d_SJ_matches_94 : decode b_SJ_matches 94 = .ok (.dup, 1) := by decide +kernel
theorem d_SJ_matches_95 : decode b_SJ_matches 95 = .ok (.ldc 185, 2) := by decide +kernel
theorem d_SJ_matches_97 : decode b_SJ_matches 97 = .ok (.invokespecial 101, 3) := by decide +kernel
theorem d_SJ_matches_100 : decode b_SJ_matches 100 = .ok (.athrow, 1) := by decide +kernel
theorem d_SJ_matches_101 : decode b_SJ_matches 101 = .ok (.aload_n 0, 1) := by decide +kernel
theorem d_SJ_matches_102 : decode b_SJ_matches 102 = .ok (.getfield 31, 3) := by decide +kernel
theorem d_SJ_matches_105 : decode b_SJ_matches 105 = .ok (.aload_n 0, 1) := by decide +kernel
theorem d_SJ_matches_106 : decode b_SJ_matches 106 = .ok (.getfield 16, 3) := by decide +kernel
theorem d_SJ_matches_109 : decode b_SJ_matches 109 = .ok (.iload_n 1, 1) := by decide +kernel
theorem d_SJ_matches_110 : decode b_SJ_matches 110 = .ok (.invokevirtual 187, 3) := by decide +kernel
theorem d_SJ_matches_113 : decode b_SJ_matches 113 = .ok (.ireturn, 1) := by decide +kernel
theorem d_Jd_evaluatedSchemas_0 : decode b_Jd_evaluatedSchemas 0 = .ok (.aload_n 0, 1) := by decide +kernel
theorem d_Jd_evaluatedSchemas_1 : decode b_Jd_evaluatedSchemas 1 = .ok (.getfield 60, 3) := by decide +kernel
theorem d_Jd_evaluatedSchemas_4 : decode b_Jd_evaluatedSchemas 4 = .ok (.ireturn, 1) := by decide +kernel
theorem d_Jd_deepest_0 : decode b_Jd_deepest 0 = .ok (.aload_n 0, 1) := by decide +kernel
theorem d_Jd_deepest_1 : decode b_Jd_deepest 1 = .ok (.getfield 63, 3) := by decide +kernel
theorem d_Jd_deepest_4 : decode b_Jd_deepest 4 = .ok (.ireturn, 1) := by decide +kernel
theorem d_SJ_count_0 : decode b_SJ_count 0 = .ok (.iload_n 1, 1) := by decide +kernel
theorem d_SJ_count_1 : decode b_SJ_count 1 = .ok (.tableswitch 63 0 3 #[31, 39, 47, 55], 31) := by decide +kernel
theorem d_SJ_count_32 : decode b_SJ_count 32 = .ok (.aload_n 0, 1) := by decide +kernel
theorem d_SJ_count_33 : decode b_SJ_count 33 = .ok (.getfield 10, 3) := by decide +kernel
theorem d_SJ_count_36 : decode b_SJ_count 36 = .ok (.invokevirtual 102, 3) := by decide +kernel
theorem d_SJ_count_39 : decode b_SJ_count 39 = .ok (.ireturn, 1) := by decide +kernel
theorem d_SJ_count_40 : decode b_SJ_count 40 = .ok (.aload_n 0, 1) := by decide +kernel
theorem d_SJ_count_41 : decode b_SJ_count 41 = .ok (.getfield 16, 3) := by decide +kernel
theorem d_SJ_count_44 : decode b_SJ_count 44 = .ok (.invokevirtual 102, 3) := by decide +kernel
theorem d_SJ_count_47 : decode b_SJ_count 47 = .ok (.ireturn, 1) := by decide +kernel
theorem d_SJ_count_48 : decode b_SJ_count 48 = .ok (.aload_n 0, 1) := by decide +kernel
theorem d_SJ_count_49 : decode b_SJ_count 49 = .ok (.getfield 61, 3) := by decide +kernel
theorem d_SJ_count_52 : decode b_SJ_count 52 = .ok (.invokevirtual 190, 3) := by decide +kernel
theorem d_SJ_count_55 : decode b_SJ_count 55 = .ok (.ireturn, 1) := by decide +kernel
theorem d_SJ_count_56 : decode b_SJ_count 56 = .ok (.aload_n 0, 1) := by decide +kernel
theorem d_SJ_count_57 : decode b_SJ_count 57 = .ok (.getfield 61, 3) := by decide +kernel
theorem d_SJ_count_60 : decode b_SJ_count 60 = .ok (.invokevirtual 193, 3) := by decide +kernel
theorem d_SJ_count_63 : decode b_SJ_count 63 = .ok (.ireturn, 1) := by decide +kernel
theorem d_SJ_count_64 : decode b_SJ_count 64 = .ok (.new 97, 3) := by decide +kernel
theorem d_SJ_count_67 : decode b_SJ_count 67 = .ok (.dup, 1) := by decide +kernel
theorem d_SJ_count_68 : decode b_SJ_count 68 = .ok (.ldc 196, 2) := by decide +kernel
theorem d_SJ_count_70 : decode b_SJ_count 70 = .ok (.invokespecial 101, 3) := by decide +kernel
theorem d_SJ_count_73 : decode b_SJ_count 73 = .ok (.athrow, 1) := by decide +kernel
