theorem d_Ld_isZero_0 : decode b_Ld_isZero 0 = .ok (.iconst 0, 1) := by decide +kernel
theorem d_Ld_isZero_1 : decode b_Ld_isZero 1 = .ok (.istore_n 1, 1) := by decide +kernel
theorem d_Ld_isZero_2 : decode b_Ld_isZero 2 = .ok (.iload_n 1, 1) := by decide +kernel
theorem d_Ld_isZero_3 : decode b_Ld_isZero 3 = .ok (.bipush 7, 2) := by decide +kernel
theorem d_Ld_isZero_5 : decode b_Ld_isZero 5 = .ok (.if_icmp .ge 22, 3) := by decide +kernel
theorem d_Ld_isZero_8 : decode b_Ld_isZero 8 = .ok (.aload_n 0, 1) := by decide +kernel
theorem d_Ld_isZero_9 : decode b_Ld_isZero 9 = .ok (.getfield 13, 3) := by decide +kernel
theorem d_Ld_isZero_12 : decode b_Ld_isZero 12 = .ok (.iload_n 1, 1) := by decide +kernel
theorem d_Ld_isZero_13 : decode b_Ld_isZero 13 = .ok (.laload, 1) := by decide +kernel
theorem d_Ld_isZero_14 : decode b_Ld_isZero 14 = .ok (.lconst 0, 1) := by decide +kernel
theorem d_Ld_isZero_15 : decode b_Ld_isZero 15 = .ok (.lcmp, 1) := by decide +kernel
theorem d_Ld_isZero_16 : decode b_Ld_isZero 16 = .ok (.ifCond .eq 5, 3) := by decide +kernel
theorem d_Ld_isZero_19 : decode b_Ld_isZero 19 = .ok (.iconst 0, 1) := by decide +kernel
theorem d_Ld_isZero_20 : decode b_Ld_isZero 20 = .ok (.ireturn, 1) := by decide +kernel
theorem d_Ld_isZero_21 : decode b_Ld_isZero 21 = .ok (.iinc 1 1, 3) := by decide +kernel
theorem d_Ld_isZero_24 : decode b_Ld_isZero 24 = .ok (.goto (-22), 3) := by decide +kernel
theorem d_Ld_isZero_27 : decode b_Ld_isZero 27 = .ok (.iconst 1, 1) := by decide +kernel
theorem d_Ld_isZero_28 : decode b_Ld_isZero 28 = .ok (.ireturn, 1) := by decide +kernel
theorem d_Jd_hasAll_0 : decode b_Jd_hasAll 0 = .ok (.aload_n 0, 1) := by decide +kernel
theorem d_Jd_hasAll_1 : decode b_Jd_hasAll 1 = .ok (.getfield 15, 3) := by decide +kernel
theorem d_Jd_hasAll_4 : decode b_Jd_hasAll 4 = .ok (.iload_n 1, 1) := by decide +kernel
theorem d_Jd_hasAll_5 : decode b_Jd_hasAll 5 = .ok (.invokevirtual 100, 3) := by decide +kernel
theorem d_Jd_hasAll_8 : decode b_Jd_hasAll 8 = .ok (.istore_n 3, 1) := by decide +kernel
theorem d_Jd_hasAll_9 : decode b_Jd_hasAll 9 = .ok (.iconst 0, 1) := by decide +kernel
theorem d_Jd_hasAll_10 : decode b_Jd_hasAll 10 = .ok (.istore 4, 2) := by decide +kernel
theorem d_Jd_hasAll_12 : decode b_Jd_hasAll 12 = .ok (.iload 4, 2) := by decide +kernel
theorem d_Jd_hasAll_14 : decode b_Jd_hasAll 14 = .ok (.aload_n 0, 1) := by decide +kernel
theorem d_Jd_hasAll_15 : decode b_Jd_hasAll 15 = .ok (.getfield 15, 3) := by decide +kernel
theorem d_Jd_hasAll_18 : decode b_Jd_hasAll 18 = .ok (.iload_n 1, 1) := by decide +kernel
theorem d_Jd_hasAll_19 : decode b_Jd_hasAll 19 = .ok (.invokevirtual 103, 3) := by decide +kernel
theorem d_Jd_hasAll_22 : decode b_Jd_hasAll 22 = .ok (.if_icmp .ge 37, 3) := by decide +kernel
theorem d_Jd_hasAll_25 : decode b_Jd_hasAll 25 = .ok (.aload_n 0, 1) := by decide +kernel
theorem d_Jd_hasAll_26 : decode b_Jd_hasAll 26 = .ok (.getfield 23, 3) := by decide +kernel
theorem d_Jd_hasAll_29 : decode b_Jd_hasAll 29 = .ok (.iload_n 2, 1) := by decide +kernel
theorem d_Jd_hasAll_30 : decode b_Jd_hasAll 30 = .ok (.aload_n 0, 1) := by decide +kernel
theorem d_Jd_hasAll_31 : decode b_Jd_hasAll 31 = .ok (.getfield 15, 3) := by decide +kernel
theorem d_Jd_hasAll_34 : decode b_Jd_hasAll 34 = .ok (.iload_n 3, 1) := by decide +kernel
theorem d_Jd_hasAll_35 : decode b_Jd_hasAll 35 = .ok (.invokevirtual 195, 3) := by decide +kernel
theorem d_Jd_hasAll_38 : decode b_Jd_hasAll 38 = .ok (.iconst (-1), 1) := by decide +kernel
theorem d_Jd_hasAll_39 : decode b_Jd_hasAll 39 = .ok (.if_icmp .ne 5, 3) := by decide +kernel
theorem d_Jd_hasAll_42 : decode b_Jd_hasAll 42 = .ok (.iconst 0, 1) := by decide +kernel
theorem d_Jd_hasAll_43 : decode b_Jd_hasAll 43 = .ok (.ireturn, 1) := by decide +kernel
theorem d_Jd_hasAll_44 : decode b_Jd_hasAll 44 = .ok (.aload_n 0, 1) := by decide +kernel
theorem d_Jd_hasAll_45 : decode b_Jd_hasAll 45 = .ok (.getfield 15, 3) := by decide +kernel
theorem d_Jd_hasAll_48 : decode b_Jd_hasAll 48 = .ok (.iload_n 3, 1) := by decide +kernel
theorem d_Jd_hasAll_49 : decode b_Jd_hasAll 49 = .ok (.invokevirtual 111, 3) := by decide +kernel
theorem d_Jd_hasAll_52 : decode b_Jd_hasAll 52 = .ok (.istore_n 3, 1) := by decide +kernel
theorem d_Jd_hasAll_53 : decode b_Jd_hasAll 53 = .ok (.iinc 4 1, 3) := by decide +kernel
theorem d_Jd_hasAll_56 : decode b_Jd_hasAll 56 = .ok (.goto (-44), 3) := by decide +kernel
theorem d_Jd_hasAll_59 : decode b_Jd_hasAll 59 = .ok (.iconst 1, 1) := by decide +kernel
theorem d_Jd_hasAll_60 : decode b_Jd_hasAll 60 = .ok (.ireturn, 1) := by decide +kernel
theorem d_Jd_hasDependents_0 : decode b_Jd_hasDependents 0 = .ok (.aload_n 0, 1) := by decide +kernel
theorem d_Jd_hasDependents_1 : decode b_Jd_hasDependents 1 = .ok (.getfield 15, 3) := by decide +kernel
theorem d_Jd_hasDependents_4 : decode b_Jd_hasDependents 4 = .ok (.iload_n 1, 1) := by decide +kernel
theorem d_Jd_hasDependents_5 : decode b_Jd_hasDependents 5 = .ok (.invokevirtual 100, 3) := by decide +kernel
theorem d_Jd_hasDependents_8 : decode b_Jd_hasDependents 8 = .ok (.istore_n 3, 1) := by decide +kernel
theorem d_Jd_hasDependents_9 : decode b_Jd_hasDependents 9 = .ok (.iconst 0, 1) := by decide +kernel
theorem d_Jd_hasDependents_10 : decode b_Jd_hasDependents 10 = .ok (.istore 4, 2) := by decide +kernel
theorem d_Jd_hasDependents_12 : decode b_Jd_hasDependents 12 = .ok (.iload 4, 2) := by decide +kernel
theorem d_Jd_hasDependents_14 : decode b_Jd_hasDependents 14 = .ok (.aload_n 0, 1) := by decide +kernel
theorem d_Jd_hasDependents_15 : decode b_Jd_hasDependents 15 = .ok (.getfield 15, 3) := by decide +kernel
theorem d_Jd_hasDependents_18 : decode b_Jd_hasDependents 18 = .ok (.iload_n 1, 1) := by decide +kernel
theorem d_Jd_hasDependents_19 : decode b_Jd_hasDependents 19 = .ok (.invokevirtual 103, 3) := by decide +kernel
theorem d_Jd_hasDependents_22 : decode b_Jd_hasDependents 22 = .ok (.if_icmp .ge 48, 3) := by decide +kernel
theorem d_Jd_hasDependents_25 : decode b_Jd_hasDependents 25 = .ok (.aload_n 0, 1) := by decide +kernel
theorem d_Jd_hasDependents_26 : decode b_Jd_hasDependents 26 = .ok (.getfield 23, 3) := by decide +kernel
theorem d_Jd_hasDependents_29 : decode b_Jd_hasDependents 29 = .ok (.iload_n 2, 1) := by decide +kernel
theorem d_Jd_hasDependents_30 : decode b_Jd_hasDependents 30 = .ok (.aload_n 0, 1) := by decide +kernel
theorem d_Jd_hasDependents_31 : decode b_Jd_hasDependents 31 = .ok (.getfield 15, 3) := by decide +kernel
theorem d_Jd_hasDependents_34 : decode b_Jd_hasDependents 34 = .ok (.iload_n 3, 1) := by decide +kernel
theorem d_Jd_hasDependents_35 : decode b_Jd_hasDependents 35 = .ok (.iconst 1, 1) := by decide +kernel
theorem d_Jd_hasDependents_36 : decode b_Jd_hasDependents 36 = .ok (.isub, 1) := by decide +kernel
theorem d_Jd_hasDependents_37 : decode b_Jd_hasDependents 37 = .ok (.invokevirtual 195, 3) := by decide +kernel
theorem d_Jd_hasDependents_40 : decode b_Jd_hasDependents 40 = .ok (.iconst (-1), 1) := by decide +kernel
theorem d_Jd_hasDependents_41 : decode b_Jd_hasDependents 41 = .ok (.if_icmp .eq 14, 3) := by decide +kernel
theorem d_Jd_hasDependents_44 : decode b_Jd_hasDependents 44 = .ok (.aload_n 0, 1) := by decide +kernel
theorem d_Jd_hasDependents_45 : decode b_Jd_hasDependents 45 = .ok (.iload_n 3, 1) := by decide +kernel
theorem d_Jd_hasDependents_46 : decode b_Jd_hasDependents 46 = .ok (.iload_n 2, 1) := by decide +kernel
theorem d_Jd_hasDependents_47 : decode b_Jd_hasDependents 47 = .ok (.invokevirtual 274, 3) := by decide +kernel
theorem d_Jd_hasDependents_50 : decode b_Jd_hasDependents 50 = .ok (.ifCond .ne 5, 3) := by decide +kernel
theorem d_Jd_hasDependents_53 : decode b_Jd_hasDependents 53 = .ok (.iconst 0, 1) := by decide +kernel
theorem d_Jd_hasDependents_54 : decode b_Jd_hasDependents 54 = .ok (.ireturn, 1) := by decide +kernel
theorem d_Jd_hasDependents_55 : decode b_Jd_hasDependents 55 = .ok (.aload_n 0, 1) := by decide +kernel
theorem d_Jd_hasDependents_56 : decode b_Jd_hasDependents 56 = .ok (.getfield 15, 3) := by decide +kernel
theorem d_Jd_hasDependents_59 : decode b_Jd_hasDependents 59 = .ok (.iload_n 3, 1) := by decide +kernel
theorem d_Jd_hasDependents_60 : decode b_Jd_hasDependents 60 = .ok (.invokevirtual 111, 3) := by decide +kernel
theorem d_Jd_hasDependents_63 : decode b_Jd_hasDependents 63 = .ok (.istore_n 3, 1) := by decide +kernel
theorem d_Jd_hasDependents_64 : decode b_Jd_hasDependents 64 = .ok (.iinc 4 1, 3) := by decide +kernel
theorem d_Jd_hasDependents_67 : decode b_Jd_hasDependents 67 = .ok (.goto (-55), 3) := by decide +kernel
theorem d_Jd_hasDependents_70 : decode b_Jd_hasDependents 70 = .ok (.iconst 1, 1) := by decide +kernel
theorem d_Jd_hasDependents_71 : decode b_Jd_hasDependents 71 = .ok (.ireturn, 1) := by decide +kernel
theorem d_Pr_sort_0 : decode b_Pr_sort 0 = .ok (.iconst 1, 1) := by decide +kernel
theorem d_Pr_sort_1 : decode b_Pr_sort 1 = .ok (.istore_n 1, 1) := by decide +kernel
theorem d_Pr_sort_2 : decode b_Pr_sort 2 = .ok (.iload_n 1, 1) := by decide +kernel
theorem d_Pr_sort_3 : decode b_Pr_sort 3 = .ok (.aload_n 0, 1) := by decide +kernel
theorem d_Pr_sort_4 : decode b_Pr_sort 4 = .ok (.getfield 18, 3) := by decide +kernel
theorem d_Pr_sort_7 : decode b_Pr_sort 7 = .ok (.if_icmp .ge 124, 3) := by decide +kernel
theorem d_Pr_sort_10 : decode b_Pr_sort 10 = .ok (.aload_n 0, 1) := by decide +kernel
theorem d_Pr_sort_11 : decode b_Pr_sort 11 = .ok (.getfield 9, 3) := by decide +kernel
theorem d_Pr_sort_14 : decode b_Pr_sort 14 = .ok (.iload_n 1, 1) := by decide +kernel
theorem d_Pr_sort_15 : decode b_Pr_sort 15 = .ok (.iaload, 1) := by decide +kernel
theorem d_Pr_sort_16 : decode b_Pr_sort 16 = .ok (.istore_n 2, 1) := by decide +kernel
theorem d_Pr_sort_17 : decode b_Pr_sort 17 = .ok (.aload_n 0, 1) := by decide +kernel
theorem d_Pr_sort_18 : decode b_Pr_sort 18 = .ok (.getfield 15, 3) := by decide +kernel
theorem d_Pr_sort_21 : decode b_Pr_sort 21 = .ok (.iload_n 1, 1) := by decide +kernel
theorem d_Pr_sort_22 : decode b_Pr_sort 22 = .ok (.iaload, 1) := by decide +kernel
theorem d_Pr_sort_23 : decode b_Pr_sort 23 = .ok (.istore_n 3, 1) := by decide +kernel
theorem d_Pr_sort_24 : decode b_Pr_sort 24 = .ok (.iload_n 1, 1) := by decide +kernel
theorem d_Pr_sort_25 : decode b_Pr_sort 25 = .ok (.istore 4, 2) := by decide +kernel
theorem d_Pr_sort_27 : decode b_Pr_sort 27 = .ok (.iload 4, 2) := by decide +kernel
theorem d_Pr_sort_29 : decode b_Pr_sort 29 = .ok (.ifCond .le 80, 3) := by decide +kernel
theorem d_Pr_sort_32 : decode b_Pr_sort 32 = .ok (.aload_n 0, 1) := by decide +kernel
theorem d_Pr_sort_33 : decode b_Pr_sort 33 = .ok (.getfield 9, 3) := by decide +kernel
theorem d_Pr_sort_36 : decode b_Pr_sort 36 = .ok (.iload 4, 2) := by decide +kernel
theorem d_Pr_sort_38 : decode b_Pr_sort 38 = .ok (.iconst 1, 1) := by decide +kernel
theorem d_Pr_sort_39 : decode b_Pr_sort 39 = .ok (.isub, 1) := by decide +kernel
theorem d_Pr_sort_40 : decode b_Pr_sort 40 = .ok (.iaload, 1) := by decide +kernel
theorem d_Pr_sort_41 : decode b_Pr_sort 41 = .ok (.iload_n 2, 1) := by decide +kernel
theorem d_Pr_sort_42 : decode b_Pr_sort 42 = .ok (.if_icmp .gt 29, 3) := by decide +kernel
theorem d_Pr_sort_45 : decode b_Pr_sort 45 = .ok (.aload_n 0, 1) := by decide +kernel
theorem d_Pr_sort_46 : decode b_Pr_sort 46 = .ok (.getfield 9, 3) := by decide +kernel
theorem d_Pr_sort_49 : decode b_Pr_sort 49 = .ok (.iload 4, 2) := by decide +kernel
theorem d_Pr_sort_51 : decode b_Pr_sort 51 = .ok (.iconst 1, 1) := by decide +kernel
theorem d_Pr_sort_52 : decode b_Pr_sort 52 = .ok (.isub, 1) := by decide +kernel
theorem d_Pr_sort_53 : decode b_Pr_sort 53 = .ok (.iaload, 1) := by decide +kernel
theorem d_Pr_sort_54 : decode b_Pr_sort 54 = .ok (.iload_n 2, 1) := by decide +kernel
theorem d_Pr_sort_55 : decode b_Pr_sort 55 = .ok (.if_icmp .ne 54, 3) := by decide +kernel
theorem d_Pr_sort_58 : decode b_Pr_sort 58 = .ok (.aload_n 0, 1) := by decide +kernel
theorem d_Pr_sort_59 : decode b_Pr_sort 59 = .ok (.getfield 15, 3) := by decide +kernel
theorem d_Pr_sort_62 : decode b_Pr_sort 62 = .ok (.iload 4, 2) := by decide +kernel
theorem d_Pr_sort_64 : decode b_Pr_sort 64 = .ok (.iconst 1, 1) := by decide +kernel
theorem d_Pr_sort_65 : decode b_Pr_sort 65 = .ok (.isub, 1) := by decide +kernel
theorem d_Pr_sort_66 : decode b_Pr_sort 66 = .ok (.iaload, 1) := by decide +kernel
theorem d_Pr_sort_67 : decode b_Pr_sort 67 = .ok (.iload_n 3, 1) := by decide +kernel
theorem d_Pr_sort_68 : decode b_Pr_sort 68 = .ok (.if_icmp .le 41, 3) := by decide +kernel
theorem d_Pr_sort_71 : decode b_Pr_sort 71 = .ok (.aload_n 0, 1) := by decide +kernel
theorem d_Pr_sort_72 : decode b_Pr_sort 72 = .ok (.getfield 9, 3) := by decide +kernel
theorem d_Pr_sort_75 : decode b_Pr_sort 75 = .ok (.iload 4, 2) := by decide +kernel
theorem d_Pr_sort_77 : decode b_Pr_sort 77 = .ok (.aload_n 0, 1) := by decide +kernel
theorem d_Pr_sort_78 : decode b_Pr_sort 78 = .ok (.getfield 9, 3) := by decide +kernel
theorem d_Pr_sort_81 : decode b_Pr_sort 81 = .ok (.iload 4, 2) := by decide +kernel
theorem d_Pr_sort_83 : decode b_Pr_sort 83 = .ok (.iconst 1, 1) := by decide +kernel
theorem d_Pr_sort_84 : decode b_Pr_sort 84 = .ok (.isub, 1) := by decide +kernel
theorem d_Pr_sort_85 : decode b_Pr_sort 85 = .ok (.iaload, 1) := by decide +kernel
theorem d_Pr_sort_86 : decode b_Pr_sort 86 = .ok (.iastore, 1) := by decide +kernel
theorem d_Pr_sort_87 : decode b_Pr_sort 87 = .ok (.aload_n 0, 1) := by decide +kernel
theorem d_Pr_sort_88 : decode b_Pr_sort 88 = .ok (.getfield 15, 3) := by decide +kernel
theorem d_Pr_sort_91 : decode b_Pr_sort 91 = .ok (.iload 4, 2) := by decide +kernel
theorem d_Pr_sort_93 : decode b_Pr_sort 93 = .ok (.aload_n 0, 1) := by decide +kernel
theorem d_Pr_sort_94 : decode b_Pr_sort 94 = .ok (.getfield 15, 3) := by decide +kernel
theorem d_Pr_sort_97 : decode b_Pr_sort 97 = .ok (.iload 4, 2) := by decide +kernel
theorem d_Pr_sort_99 : decode b_Pr_sort 99 = .ok (.iconst 1, 1) := by decide +kernel
theorem d_Pr_sort_100 : decode b_Pr_sort 100 = .ok (.isub, 1) := by decide +kernel
theorem d_Pr_sort_101 : decode b_Pr_sort 101 = .ok (.iaload, 1) := by decide +kernel
theorem d_Pr_sort_102 : decode b_Pr_sort 102 = .ok (.iastore, 1) := by decide +kernel
theorem d_Pr_sort_103 : decode b_Pr_sort 103 = .ok (.iinc 4 (-1), 3) := by decide +kernel
theorem d_Pr_sort_106 : decode b_Pr_sort 106 = .ok (.goto (-79), 3) := by decide +kernel
theorem d_Pr_sort_109 : decode b_Pr_sort 109 = .ok (.aload_n 0, 1) := by decide +kernel
theorem d_Pr_sort_110 : decode b_Pr_sort 110 = .ok (.getfield 9, 3) := by decide +kernel
theorem d_Pr_sort_113 : decode b_Pr_sort 113 = .ok (.iload 4, 2) := by decide +kernel
theorem d_Pr_sort_115 : decode b_Pr_sort 115 = .ok (.iload_n 2, 1) := by decide +kernel
theorem d_Pr_sort_116 : decode b_Pr_sort 116 = .ok (.iastore, 1) := by decide +kernel
theorem d_Pr_sort_117 : decode b_Pr_sort 117 = .ok (.aload_n 0, 1) := by decide +kernel
theorem d_Pr_sort_118 : decode b_Pr_sort 118 = .ok (.getfield 15, 3) := by decide +kernel
theorem d_Pr_sort_121 : decode b_Pr_sort 121 = .ok (.iload 4, 2) := by decide +kernel
theorem d_Pr_sort_123 : decode b_Pr_sort 123 = .ok (.iload_n 3, 1) := by decide +kernel
theorem d_Pr_sort_124 : decode b_Pr_sort 124 = .ok (.iastore, 1) := by decide +kernel
theorem d_Pr_sort_125 : decode b_Pr_sort 125 = .ok (.iinc 1 1, 3) := by decide +kernel
theorem d_Pr_sort_128 : decode b_Pr_sort 128 = .ok (.goto (-126), 3) := by decide +kernel
theorem d_Pr_sort_131 : decode b_Pr_sort 131 = .ok (.return_, 1) := by decide +kernel
theorem d_Jd_finish_0 : decode b_Jd_finish 0 = .ok (.aload_n 0, 1) := by decide +kernel
theorem d_Jd_finish_1 : decode b_Jd_finish 1 = .ok (.getfield 56, 3) := by decide +kernel
theorem d_Jd_finish_4 : decode b_Jd_finish 4 = .ok (.ifCond .eq 11, 3) := by decide +kernel
theorem d_Jd_finish_7 : decode b_Jd_finish 7 = .ok (.aload_n 0, 1) := by decide +kernel
theorem d_Jd_finish_8 : decode b_Jd_finish 8 = .ok (.getfield 44, 3) := by decide +kernel
theorem d_Jd_finish_11 : decode b_Jd_finish 11 = .ok (.iconst 0, 1) := by decide +kernel
theorem d_Jd_finish_12 : decode b_Jd_finish 12 = .ok (.invokevirtual 48, 3) := by decide +kernel
theorem d_Jd_finish_15 : decode b_Jd_finish 15 = .ok (.aload_n 0, 1) := by decide +kernel
theorem d_Jd_finish_16 : decode b_Jd_finish 16 = .ok (.getfield 44, 3) := by decide +kernel
theorem d_Jd_finish_19 : decode b_Jd_finish 19 = .ok (.invokevirtual 66, 3) := by decide +kernel
theorem d_Jd_finish_22 : decode b_Jd_finish 22 = .ok (.return_, 1) := by decide +kernel
theorem d_Jd_isOver_0 : decode b_Jd_isOver 0 = .ok (.aload_n 0, 1) := by decide +kernel
theorem d_Jd_isOver_1 : decode b_Jd_isOver 1 = .ok (.getfield 56, 3) := by decide +kernel
theorem d_Jd_isOver_4 : decode b_Jd_isOver 4 = .ok (.ireturn, 1) := by decide +kernel
theorem d_Jd_pairsKept_0 : decode b_Jd_pairsKept 0 = .ok (.aload_n 0, 1) := by decide +kernel
theorem d_Jd_pairsKept_1 : decode b_Jd_pairsKept 1 = .ok (.getfield 44, 3) := by decide +kernel
theorem d_Jd_pairsKept_4 : decode b_Jd_pairsKept 4 = .ok (.invokevirtual 69, 3) := by decide +kernel
theorem d_Jd_pairsKept_7 : decode b_Jd_pairsKept 7 = .ok (.ireturn, 1) := by decide +kernel
theorem d_Pr_at_0 : decode b_Pr_at 0 = .ok (.iload_n 1, 1) := by decide +kernel
theorem d_Pr_at_1 : decode b_Pr_at 1 = .ok (.ifCond .lt 11, 3) := by decide +kernel
theorem d_Pr_at_4 : decode b_Pr_at 4 = .ok (.iload_n 1, 1) := by decide +kernel
theorem d_Pr_at_5 : decode b_Pr_at 5 = .ok (.aload_n 0, 1) := by decide +kernel
theorem d_Pr_at_6 : decode b_Pr_at 6 = .ok (.getfield 18, 3) := by decide +kernel
theorem d_Pr_at_9 : decode b_Pr_at 9 = .ok (.if_icmp .lt 5, 3) := by decide +kernel
theorem d_Pr_at_12 : decode b_Pr_at 12 = .ok (.iconst (-1), 1) := by decide +kernel
theorem d_Pr_at_13 : decode b_Pr_at 13 = .ok (.ireturn, 1) := by decide +kernel
theorem d_Pr_at_14 : decode b_Pr_at 14 = .ok (.iload_n 2, 1) := by decide +kernel
theorem d_Pr_at_15 : decode b_Pr_at 15 = .ok (.ifCond .eq 12, 3) := by decide +kernel
theorem d_Pr_at_18 : decode b_Pr_at 18 = .ok (.aload_n 0, 1) := by decide +kernel
theorem d_Pr_at_19 : decode b_Pr_at 19 = .ok (.getfield 15, 3) := by decide +kernel
theorem d_Pr_at_22 : decode b_Pr_at 22 = .ok (.iload_n 1, 1) := by decide +kernel
theorem d_Pr_at_23 : decode b_Pr_at 23 = .ok (.iaload, 1) := by decide +kernel
theorem d_Pr_at_24 : decode b_Pr_at 24 = .ok (.goto 9, 3) := by decide +kernel
theorem d_Pr_at_27 : decode b_Pr_at 27 = .ok (.aload_n 0, 1) := by decide +kernel
theorem d_Pr_at_28 : decode b_Pr_at 28 = .ok (.getfield 9, 3) := by decide +kernel
theorem d_Pr_at_31 : decode b_Pr_at 31 = .ok (.iload_n 1, 1) := by decide +kernel
theorem d_Pr_at_32 : decode b_Pr_at 32 = .ok (.iaload, 1) := by decide +kernel
theorem d_Pr_at_33 : decode b_Pr_at 33 = .ok (.ireturn, 1) := by decide +kernel
theorem d_Jd_pairAt_0 : decode b_Jd_pairAt 0 = .ok (.aload_n 0, 1) := by decide +kernel
theorem d_Jd_pairAt_1 : decode b_Jd_pairAt 1 = .ok (.getfield 44, 3) := by decide +kernel
theorem d_Jd_pairAt_4 : decode b_Jd_pairAt 4 = .ok (.iload_n 1, 1) := by decide +kernel
theorem d_Jd_pairAt_5 : decode b_Jd_pairAt 5 = .ok (.iload_n 2, 1) := by decide +kernel
theorem d_Jd_pairAt_6 : decode b_Jd_pairAt 6 = .ok (.invokevirtual 73, 3) := by decide +kernel
theorem d_Jd_pairAt_9 : decode b_Jd_pairAt 9 = .ok (.ireturn, 1) := by decide +kernel
theorem d_Jd_evaluatedSchemas_0 : decode b_Jd_evaluatedSchemas 0 = .ok (.aload_n 0, 1) := by decide +kernel
theorem d_Jd_evaluatedSchemas_1 : decode b_Jd_evaluatedSchemas 1 = .ok (.getfield 60, 3) := by decide +kernel
theorem d_Jd_evaluatedSchemas_4 : decode b_Jd_evaluatedSchemas 4 = .ok (.ireturn, 1) := by decide +kernel
theorem d_Jd_deepest_0 : decode b_Jd_deepest 0 = .ok (.aload_n 0, 1) := by decide +kernel
theorem d_Jd_deepest_1 : decode b_Jd_deepest 1 = .ok (.getfield 63, 3) := by decide +kernel
theorem d_Jd_deepest_4 : decode b_Jd_deepest 4 = .ok (.ireturn, 1) := by decide +kernel
theorem d_Tx_clear_0 : decode b_Tx_clear 0 = .ok (.aload_n 0, 1) := by decide +kernel
theorem d_Tx_clear_1 : decode b_Tx_clear 1 = .ok (.iconst 0, 1) := by decide +kernel
theorem d_Tx_clear_2 : decode b_Tx_clear 2 = .ok (.putfield 43, 3) := by decide +kernel
theorem d_Tx_clear_5 : decode b_Tx_clear 5 = .ok (.aload_n 0, 1) := by decide +kernel
theorem d_Tx_clear_6 : decode b_Tx_clear 6 = .ok (.iconst 0, 1) := by decide +kernel
theorem d_Tx_clear_7 : decode b_Tx_clear 7 = .ok (.putfield 47, 3) := by decide +kernel
theorem d_Tx_clear_10 : decode b_Tx_clear 10 = .ok (.aload_n 0, 1) := by decide +kernel
theorem d_Tx_clear_11 : decode b_Tx_clear 11 = .ok (.iconst 0, 1) := by decide +kernel
theorem d_Tx_clear_12 : decode b_Tx_clear 12 = .ok (.putfield 50, 3) := by decide +kernel
theorem d_Tx_clear_15 : decode b_Tx_clear 15 = .ok (.return_, 1) := by decide +kernel
theorem d_Tx_begin_0 : decode b_Tx_begin 0 = .ok (.aload_n 0, 1) := by decide +kernel
theorem d_Tx_begin_1 : decode b_Tx_begin 1 = .ok (.getfield 43, 3) := by decide +kernel
theorem d_Tx_begin_4 : decode b_Tx_begin 4 = .ok (.sipush 1000, 3) := by decide +kernel
theorem d_Tx_begin_7 : decode b_Tx_begin 7 = .ok (.if_icmp .lt 5, 3) := by decide +kernel
theorem d_Tx_begin_10 : decode b_Tx_begin 10 = .ok (.iconst (-1), 1) := by decide +kernel
theorem d_Tx_begin_11 : decode b_Tx_begin 11 = .ok (.ireturn, 1) := by decide +kernel
theorem d_Tx_begin_12 : decode b_Tx_begin 12 = .ok (.aload_n 0, 1) := by decide +kernel
theorem d_Tx_begin_13 : decode b_Tx_begin 13 = .ok (.getfield 43, 3) := by decide +kernel
theorem d_Tx_begin_16 : decode b_Tx_begin 16 = .ok (.istore 5, 2) := by decide +kernel
theorem d_Tx_begin_18 : decode b_Tx_begin 18 = .ok (.aload_n 0, 1) := by decide +kernel
theorem d_Tx_begin_19 : decode b_Tx_begin 19 = .ok (.dup, 1) := by decide +kernel
theorem d_Tx_begin_20 : decode b_Tx_begin 20 = .ok (.getfield 43, 3) := by decide +kernel
theorem d_Tx_begin_23 : decode b_Tx_begin 23 = .ok (.iconst 1, 1) := by decide +kernel
theorem d_Tx_begin_24 : decode b_Tx_begin 24 = .ok (.iadd, 1) := by decide +kernel
theorem d_Tx_begin_25 : decode b_Tx_begin 25 = .ok (.putfield 43, 3) := by decide +kernel
theorem d_Tx_begin_28 : decode b_Tx_begin 28 = .ok (.aload_n 0, 1) := by decide +kernel
theorem d_Tx_begin_29 : decode b_Tx_begin 29 = .ok (.getfield 9, 3) := by decide +kernel
theorem d_Tx_begin_32 : decode b_Tx_begin 32 = .ok (.iload 5, 2) := by decide +kernel
theorem d_Tx_begin_34 : decode b_Tx_begin 34 = .ok (.iload_n 1, 1) := by decide +kernel
theorem d_Tx_begin_35 : decode b_Tx_begin 35 = .ok (.iastore, 1) := by decide +kernel
theorem d_Tx_begin_36 : decode b_Tx_begin 36 = .ok (.aload_n 0, 1) := by decide +kernel
theorem d_Tx_begin_37 : decode b_Tx_begin 37 = .ok (.getfield 15, 3) := by decide +kernel
theorem d_Tx_begin_40 : decode b_Tx_begin 40 = .ok (.iload 5, 2) := by decide +kernel
theorem d_Tx_begin_42 : decode b_Tx_begin 42 = .ok (.iload_n 2, 1) := by decide +kernel
theorem d_Tx_begin_43 : decode b_Tx_begin 43 = .ok (.iastore, 1) := by decide +kernel
theorem d_Tx_begin_44 : decode b_Tx_begin 44 = .ok (.aload_n 0, 1) := by decide +kernel
theorem d_Tx_begin_45 : decode b_Tx_begin 45 = .ok (.getfield 18, 3) := by decide +kernel
theorem d_Tx_begin_48 : decode b_Tx_begin 48 = .ok (.iload 5, 2) := by decide +kernel
theorem d_Tx_begin_50 : decode b_Tx_begin 50 = .ok (.iconst 0, 1) := by decide +kernel
theorem d_Tx_begin_51 : decode b_Tx_begin 51 = .ok (.iastore, 1) := by decide +kernel
theorem d_Tx_begin_52 : decode b_Tx_begin 52 = .ok (.aload_n 0, 1) := by decide +kernel
theorem d_Tx_begin_53 : decode b_Tx_begin 53 = .ok (.getfield 21, 3) := by decide +kernel
theorem d_Tx_begin_56 : decode b_Tx_begin 56 = .ok (.iload 5, 2) := by decide +kernel
theorem d_Tx_begin_58 : decode b_Tx_begin 58 = .ok (.iload_n 3, 1) := by decide +kernel
theorem d_Tx_begin_59 : decode b_Tx_begin 59 = .ok (.iastore, 1) := by decide +kernel
theorem d_Tx_begin_60 : decode b_Tx_begin 60 = .ok (.aload_n 0, 1) := by decide +kernel
theorem d_Tx_begin_61 : decode b_Tx_begin 61 = .ok (.getfield 24, 3) := by decide +kernel
theorem d_Tx_begin_64 : decode b_Tx_begin 64 = .ok (.iload 5, 2) := by decide +kernel
theorem d_Tx_begin_66 : decode b_Tx_begin 66 = .ok (.iconst 0, 1) := by decide +kernel
theorem d_Tx_begin_67 : decode b_Tx_begin 67 = .ok (.iastore, 1) := by decide +kernel
theorem d_Tx_begin_68 : decode b_Tx_begin 68 = .ok (.aload_n 0, 1) := by decide +kernel
theorem d_Tx_begin_69 : decode b_Tx_begin 69 = .ok (.getfield 27, 3) := by decide +kernel
theorem d_Tx_begin_72 : decode b_Tx_begin 72 = .ok (.iload 5, 2) := by decide +kernel
theorem d_Tx_begin_74 : decode b_Tx_begin 74 = .ok (.aload_n 0, 1) := by decide +kernel
theorem d_Tx_begin_75 : decode b_Tx_begin 75 = .ok (.getfield 47, 3) := by decide +kernel
theorem d_Tx_begin_78 : decode b_Tx_begin 78 = .ok (.iastore, 1) := by decide +kernel
theorem d_Tx_begin_79 : decode b_Tx_begin 79 = .ok (.aload_n 0, 1) := by decide +kernel
theorem d_Tx_begin_80 : decode b_Tx_begin 80 = .ok (.getfield 30, 3) := by decide +kernel
theorem d_Tx_begin_83 : decode b_Tx_begin 83 = .ok (.iload 5, 2) := by decide +kernel
theorem d_Tx_begin_85 : decode b_Tx_begin 85 = .ok (.aload_n 0, 1) := by decide +kernel
theorem d_Tx_begin_86 : decode b_Tx_begin 86 = .ok (.getfield 43, 3) := by decide +kernel
theorem d_Tx_begin_89 : decode b_Tx_begin 89 = .ok (.iastore, 1) := by decide +kernel
theorem d_Tx_begin_90 : decode b_Tx_begin 90 = .ok (.aload_n 0, 1) := by decide +kernel
theorem d_Tx_begin_91 : decode b_Tx_begin 91 = .ok (.getfield 33, 3) := by decide +kernel
theorem d_Tx_begin_94 : decode b_Tx_begin 94 = .ok (.iload 5, 2) := by decide +kernel
theorem d_Tx_begin_96 : decode b_Tx_begin 96 = .ok (.iload 4, 2) := by decide +kernel
theorem d_Tx_begin_98 : decode b_Tx_begin 98 = .ok (.iastore, 1) := by decide +kernel
theorem d_Tx_begin_99 : decode b_Tx_begin 99 = .ok (.aload_n 0, 1) := by decide +kernel
theorem d_Tx_begin_100 : decode b_Tx_begin 100 = .ok (.getfield 36, 3) := by decide +kernel
theorem d_Tx_begin_103 : decode b_Tx_begin 103 = .ok (.iload 5, 2) := by decide +kernel
theorem d_Tx_begin_105 : decode b_Tx_begin 105 = .ok (.iconst 0, 1) := by decide +kernel
theorem d_Tx_begin_106 : decode b_Tx_begin 106 = .ok (.bastore, 1) := by decide +kernel
theorem d_Tx_begin_107 : decode b_Tx_begin 107 = .ok (.iload 5, 2) := by decide +kernel
theorem d_Tx_begin_109 : decode b_Tx_begin 109 = .ok (.ireturn, 1) := by decide +kernel
theorem d_Tx_addDigit_0 : decode b_Tx_addDigit 0 = .ok (.aload_n 0, 1) := by decide +kernel
theorem d_Tx_addDigit_1 : decode b_Tx_addDigit 1 = .ok (.getfield 47, 3) := by decide +kernel
theorem d_Tx_addDigit_4 : decode b_Tx_addDigit 4 = .ok (.aload_n 0, 1) := by decide +kernel
theorem d_Tx_addDigit_5 : decode b_Tx_addDigit 5 = .ok (.getfield 40, 3) := by decide +kernel
theorem d_Tx_addDigit_8 : decode b_Tx_addDigit 8 = .ok (.arraylength, 1) := by decide +kernel
theorem d_Tx_addDigit_9 : decode b_Tx_addDigit 9 = .ok (.if_icmp .ge 23, 3) := by decide +kernel
theorem d_Tx_addDigit_12 : decode b_Tx_addDigit 12 = .ok (.aload_n 0, 1) := by decide +kernel
theorem d_Tx_addDigit_13 : decode b_Tx_addDigit 13 = .ok (.getfield 40, 3) := by decide +kernel
theorem d_Tx_addDigit_16 : decode b_Tx_addDigit 16 = .ok (.aload_n 0, 1) := by decide +kernel
theorem d_Tx_addDigit_17 : decode b_Tx_addDigit 17 = .ok (.getfield 47, 3) := by decide +kernel
theorem d_Tx_addDigit_20 : decode b_Tx_addDigit 20 = .ok (.iload_n 1, 1) := by decide +kernel
theorem d_Tx_addDigit_21 : decode b_Tx_addDigit 21 = .ok (.iastore, 1) := by decide +kernel
theorem d_Tx_addDigit_22 : decode b_Tx_addDigit 22 = .ok (.aload_n 0, 1) := by decide +kernel
theorem d_Tx_addDigit_23 : decode b_Tx_addDigit 23 = .ok (.dup, 1) := by decide +kernel
theorem d_Tx_addDigit_24 : decode b_Tx_addDigit 24 = .ok (.getfield 47, 3) := by decide +kernel
theorem d_Tx_addDigit_27 : decode b_Tx_addDigit 27 = .ok (.iconst 1, 1) := by decide +kernel
theorem d_Tx_addDigit_28 : decode b_Tx_addDigit 28 = .ok (.iadd, 1) := by decide +kernel
theorem d_Tx_addDigit_29 : decode b_Tx_addDigit 29 = .ok (.putfield 47, 3) := by decide +kernel
theorem d_Tx_addDigit_32 : decode b_Tx_addDigit 32 = .ok (.return_, 1) := by decide +kernel
theorem d_Rd_readDigits_0 : decode b_Rd_readDigits 0 = .ok (.iconst 0, 1) := by decide +kernel
theorem d_Rd_readDigits_1 : decode b_Rd_readDigits 1 = .ok (.istore_n 2, 1) := by decide +kernel
theorem d_Rd_readDigits_2 : decode b_Rd_readDigits 2 = .ok (.iload_n 2, 1) := by decide +kernel
theorem d_Rd_readDigits_3 : decode b_Rd_readDigits 3 = .ok (.iload_n 1, 1) := by decide +kernel
theorem d_Rd_readDigits_4 : decode b_Rd_readDigits 4 = .ok (.if_icmp .ge 44, 3) := by decide +kernel
theorem d_Rd_readDigits_7 : decode b_Rd_readDigits 7 = .ok (.aload_n 0, 1) := by decide +kernel
theorem d_Rd_readDigits_8 : decode b_Rd_readDigits 8 = .ok (.invokevirtual 48, 3) := by decide +kernel
theorem d_Rd_readDigits_11 : decode b_Rd_readDigits 11 = .ok (.istore_n 3, 1) := by decide +kernel
theorem d_Rd_readDigits_12 : decode b_Rd_readDigits 12 = .ok (.iload_n 3, 1) := by decide +kernel
theorem d_Rd_readDigits_13 : decode b_Rd_readDigits 13 = .ok (.invokestatic 52, 3) := by decide +kernel
theorem d_Rd_readDigits_16 : decode b_Rd_readDigits 16 = .ok (.ifCond .ne 5, 3) := by decide +kernel
theorem d_Rd_readDigits_19 : decode b_Rd_readDigits 19 = .ok (.iload_n 2, 1) := by decide +kernel
theorem d_Rd_readDigits_20 : decode b_Rd_readDigits 20 = .ok (.ireturn, 1) := by decide +kernel
theorem d_Rd_readDigits_21 : decode b_Rd_readDigits 21 = .ok (.aload_n 0, 1) := by decide +kernel
theorem d_Rd_readDigits_22 : decode b_Rd_readDigits 22 = .ok (.getfield 15, 3) := by decide +kernel
theorem d_Rd_readDigits_25 : decode b_Rd_readDigits 25 = .ok (.iload_n 3, 1) := by decide +kernel
theorem d_Rd_readDigits_26 : decode b_Rd_readDigits 26 = .ok (.bipush 48, 2) := by decide +kernel
theorem d_Rd_readDigits_28 : decode b_Rd_readDigits 28 = .ok (.isub, 1) := by decide +kernel
theorem d_Rd_readDigits_29 : decode b_Rd_readDigits 29 = .ok (.invokevirtual 123, 3) := by decide +kernel
theorem d_Rd_readDigits_32 : decode b_Rd_readDigits 32 = .ok (.aload_n 0, 1) := by decide +kernel
theorem d_Rd_readDigits_33 : decode b_Rd_readDigits 33 = .ok (.dup, 1) := by decide +kernel
theorem d_Rd_readDigits_34 : decode b_Rd_readDigits 34 = .ok (.getfield 28, 3) := by decide +kernel
theorem d_Rd_readDigits_37 : decode b_Rd_readDigits 37 = .ok (.iconst 1, 1) := by decide +kernel
theorem d_Rd_readDigits_38 : decode b_Rd_readDigits 38 = .ok (.iadd, 1) := by decide +kernel
theorem d_Rd_readDigits_39 : decode b_Rd_readDigits 39 = .ok (.putfield 28, 3) := by decide +kernel
theorem d_Rd_readDigits_42 : decode b_Rd_readDigits 42 = .ok (.iinc 2 1, 3) := by decide +kernel
theorem d_Rd_readDigits_45 : decode b_Rd_readDigits 45 = .ok (.goto (-43), 3) := by decide +kernel
theorem d_Rd_readDigits_48 : decode b_Rd_readDigits 48 = .ok (.iload_n 1, 1) := by decide +kernel
theorem d_Rd_readDigits_49 : decode b_Rd_readDigits 49 = .ok (.ireturn, 1) := by decide +kernel
theorem d_Tx_endNumber_0 : decode b_Tx_endNumber 0 = .ok (.iload_n 1, 1) := by decide +kernel
theorem d_Tx_endNumber_1 : decode b_Tx_endNumber 1 = .ok (.ifCond .lt 11, 3) := by decide +kernel
theorem d_Tx_endNumber_4 : decode b_Tx_endNumber 4 = .ok (.iload_n 1, 1) := by decide +kernel
theorem d_Tx_endNumber_5 : decode b_Tx_endNumber 5 = .ok (.aload_n 0, 1) := by decide +kernel
theorem d_Tx_endNumber_6 : decode b_Tx_endNumber 6 = .ok (.getfield 43, 3) := by decide +kernel
theorem d_Tx_endNumber_9 : decode b_Tx_endNumber 9 = .ok (.if_icmp .lt 4, 3) := by decide +kernel
theorem d_Tx_endNumber_12 : decode b_Tx_endNumber 12 = .ok (.return_, 1) := by decide +kernel
theorem d_Tx_endNumber_13 : decode b_Tx_endNumber 13 = .ok (.aload_n 0, 1) := by decide +kernel
theorem d_Tx_endNumber_14 : decode b_Tx_endNumber 14 = .ok (.getfield 27, 3) := by decide +kernel
theorem d_Tx_endNumber_17 : decode b_Tx_endNumber 17 = .ok (.iload_n 1, 1) := by decide +kernel
theorem d_Tx_endNumber_18 : decode b_Tx_endNumber 18 = .ok (.iaload, 1) := by decide +kernel
theorem d_Tx_endNumber_19 : decode b_Tx_endNumber 19 = .ok (.istore 4, 2) := by decide +kernel
theorem d_Tx_endNumber_21 : decode b_Tx_endNumber 21 = .ok (.aload_n 0, 1) := by decide +kernel
theorem d_Tx_endNumber_22 : decode b_Tx_endNumber 22 = .ok (.getfield 47, 3) := by decide +kernel
theorem d_Tx_endNumber_25 : decode b_Tx_endNumber 25 = .ok (.istore 5, 2) := by decide +kernel
theorem d_Tx_endNumber_27 : decode b_Tx_endNumber 27 = .ok (.iload 5, 2) := by decide +kernel
theorem d_Tx_endNumber_29 : decode b_Tx_endNumber 29 = .ok (.iload 4, 2) := by decide +kernel
theorem d_Tx_endNumber_31 : decode b_Tx_endNumber 31 = .ok (.if_icmp .le 21, 3) := by decide +kernel
theorem d_Tx_endNumber_34 : decode b_Tx_endNumber 34 = .ok (.aload_n 0, 1) := by decide +kernel
theorem d_Tx_endNumber_35 : decode b_Tx_endNumber 35 = .ok (.getfield 40, 3) := by decide +kernel
theorem d_Tx_endNumber_38 : decode b_Tx_endNumber 38 = .ok (.iload 5, 2) := by decide +kernel
theorem d_Tx_endNumber_40 : decode b_Tx_endNumber 40 = .ok (.iconst 1, 1) := by decide +kernel
theorem d_Tx_endNumber_41 : decode b_Tx_endNumber 41 = .ok (.isub, 1) := by decide +kernel
theorem d_Tx_endNumber_42 : decode b_Tx_endNumber 42 = .ok (.iaload, 1) := by decide +kernel
theorem d_Tx_endNumber_43 : decode b_Tx_endNumber 43 = .ok (.ifCond .ne 9, 3) := by decide +kernel
theorem d_Tx_endNumber_46 : decode b_Tx_endNumber 46 = .ok (.iinc 5 (-1), 3) := by decide +kernel
theorem d_Tx_endNumber_49 : decode b_Tx_endNumber 49 = .ok (.goto (-22), 3) := by decide +kernel
theorem d_Tx_endNumber_52 : decode b_Tx_endNumber 52 = .ok (.iload 4, 2) := by decide +kernel
theorem d_Tx_endNumber_54 : decode b_Tx_endNumber 54 = .ok (.iload 5, 2) := by decide +kernel
theorem d_Tx_endNumber_56 : decode b_Tx_endNumber 56 = .ok (.if_icmp .ge 19, 3) := by decide +kernel
theorem d_Tx_endNumber_59 : decode b_Tx_endNumber 59 = .ok (.aload_n 0, 1) := by decide +kernel
theorem d_Tx_endNumber_60 : decode b_Tx_endNumber 60 = .ok (.getfield 40, 3) := by decide +kernel
theorem d_Tx_endNumber_63 : decode b_Tx_endNumber 63 = .ok (.iload 4, 2) := by decide +kernel
theorem d_Tx_endNumber_65 : decode b_Tx_endNumber 65 = .ok (.iaload, 1) := by decide +kernel
theorem d_Tx_endNumber_66 : decode b_Tx_endNumber 66 = .ok (.ifCond .ne 9, 3) := by decide +kernel
theorem d_Tx_endNumber_69 : decode b_Tx_endNumber 69 = .ok (.iinc 4 1, 3) := by decide +kernel
theorem d_Tx_endNumber_72 : decode b_Tx_endNumber 72 = .ok (.goto (-20), 3) := by decide +kernel
theorem d_Tx_endNumber_75 : decode b_Tx_endNumber 75 = .ok (.aload_n 0, 1) := by decide +kernel
theorem d_Tx_endNumber_76 : decode b_Tx_endNumber 76 = .ok (.getfield 27, 3) := by decide +kernel
theorem d_Tx_endNumber_79 : decode b_Tx_endNumber 79 = .ok (.iload_n 1, 1) := by decide +kernel
theorem d_Tx_endNumber_80 : decode b_Tx_endNumber 80 = .ok (.iload 4, 2) := by decide +kernel
theorem d_Tx_endNumber_82 : decode b_Tx_endNumber 82 = .ok (.iastore, 1) := by decide +kernel
theorem d_Tx_endNumber_83 : decode b_Tx_endNumber 83 = .ok (.aload_n 0, 1) := by decide +kernel
theorem d_Tx_endNumber_84 : decode b_Tx_endNumber 84 = .ok (.getfield 18, 3) := by decide +kernel
theorem d_Tx_endNumber_87 : decode b_Tx_endNumber 87 = .ok (.iload_n 1, 1) := by decide +kernel
theorem d_Tx_endNumber_88 : decode b_Tx_endNumber 88 = .ok (.iload 5, 2) := by decide +kernel
theorem d_Tx_endNumber_90 : decode b_Tx_endNumber 90 = .ok (.iload 4, 2) := by decide +kernel
theorem d_Tx_endNumber_92 : decode b_Tx_endNumber 92 = .ok (.isub, 1) := by decide +kernel
theorem d_Tx_endNumber_93 : decode b_Tx_endNumber 93 = .ok (.iastore, 1) := by decide +kernel
theorem d_Tx_endNumber_94 : decode b_Tx_endNumber 94 = .ok (.aload_n 0, 1) := by decide +kernel
theorem d_Tx_endNumber_95 : decode b_Tx_endNumber 95 = .ok (.getfield 24, 3) := by decide +kernel
theorem d_Tx_endNumber_98 : decode b_Tx_endNumber 98 = .ok (.iload_n 1, 1) := by decide +kernel
theorem d_Tx_endNumber_99 : decode b_Tx_endNumber 99 = .ok (.iload 5, 2) := by decide +kernel
theorem d_Tx_endNumber_101 : decode b_Tx_endNumber 101 = .ok (.iload 4, 2) := by decide +kernel
theorem d_Tx_endNumber_103 : decode b_Tx_endNumber 103 = .ok (.if_icmp .ne 7, 3) := by decide +kernel
theorem d_Tx_endNumber_106 : decode b_Tx_endNumber 106 = .ok (.iconst 0, 1) := by decide +kernel
theorem d_Tx_endNumber_107 : decode b_Tx_endNumber 107 = .ok (.goto 12, 3) := by decide +kernel
theorem d_Tx_endNumber_110 : decode b_Tx_endNumber 110 = .ok (.iload_n 3, 1) := by decide +kernel
theorem d_Tx_endNumber_111 : decode b_Tx_endNumber 111 = .ok (.aload_n 0, 1) := by decide +kernel
theorem d_Tx_endNumber_112 : decode b_Tx_endNumber 112 = .ok (.getfield 47, 3) := by decide +kernel
theorem d_Tx_endNumber_115 : decode b_Tx_endNumber 115 = .ok (.iadd, 1) := by decide +kernel
theorem d_Tx_endNumber_116 : decode b_Tx_endNumber 116 = .ok (.iload 5, 2) := by decide +kernel
theorem d_Tx_endNumber_118 : decode b_Tx_endNumber 118 = .ok (.isub, 1) := by decide +kernel
theorem d_Tx_endNumber_119 : decode b_Tx_endNumber 119 = .ok (.iastore, 1) := by decide +kernel
theorem d_Tx_endNumber_120 : decode b_Tx_endNumber 120 = .ok (.aload_n 0, 1) := by decide +kernel
theorem d_Tx_endNumber_121 : decode b_Tx_endNumber 121 = .ok (.getfield 36, 3) := by decide +kernel
theorem d_Tx_endNumber_124 : decode b_Tx_endNumber 124 = .ok (.iload_n 1, 1) := by decide +kernel
theorem d_Tx_endNumber_125 : decode b_Tx_endNumber 125 = .ok (.iload_n 2, 1) := by decide +kernel
theorem d_Tx_endNumber_126 : decode b_Tx_endNumber 126 = .ok (.ifCond .eq 14, 3) := by decide +kernel
theorem d_Tx_endNumber_129 : decode b_Tx_endNumber 129 = .ok (.iload 5, 2) := by decide +kernel
theorem d_Tx_endNumber_131 : decode b_Tx_endNumber 131 = .ok (.iload 4, 2) := by decide +kernel
theorem d_Tx_endNumber_133 : decode b_Tx_endNumber 133 = .ok (.if_icmp .le 7, 3) := by decide +kernel
theorem d_Tx_endNumber_136 : decode b_Tx_endNumber 136 = .ok (.iconst 1, 1) := by decide +kernel
theorem d_Tx_endNumber_137 : decode b_Tx_endNumber 137 = .ok (.goto 4, 3) := by decide +kernel
theorem d_Tx_endNumber_140 : decode b_Tx_endNumber 140 = .ok (.iconst 0, 1) := by decide +kernel
theorem d_Tx_endNumber_141 : decode b_Tx_endNumber 141 = .ok (.bastore, 1) := by decide +kernel
theorem d_Tx_endNumber_142 : decode b_Tx_endNumber 142 = .ok (.return_, 1) := by decide +kernel
theorem d_Rd_readNumber_0 : decode b_Rd_readNumber 0 = .ok (.aload_n 0, 1) := by decide +kernel
theorem d_Rd_readNumber_1 : decode b_Rd_readNumber 1 = .ok (.getfield 28, 3) := by decide +kernel
theorem d_Rd_readNumber_4 : decode b_Rd_readNumber 4 = .ok (.istore_n 2, 1) := by decide +kernel
theorem d_Rd_readNumber_5 : decode b_Rd_readNumber 5 = .ok (.aload_n 0, 1) := by decide +kernel
theorem d_Rd_readNumber_6 : decode b_Rd_readNumber 6 = .ok (.invokevirtual 48, 3) := by decide +kernel
theorem d_Rd_readNumber_9 : decode b_Rd_readNumber 9 = .ok (.bipush 45, 2) := by decide +kernel
theorem d_Rd_readNumber_11 : decode b_Rd_readNumber 11 = .ok (.if_icmp .ne 7, 3) := by decide +kernel
theorem d_Rd_readNumber_14 : decode b_Rd_readNumber 14 = .ok (.iconst 1, 1) := by decide +kernel
theorem d_Rd_readNumber_15 : decode b_Rd_readNumber 15 = .ok (.goto 4, 3) := by decide +kernel
theorem d_Rd_readNumber_18 : decode b_Rd_readNumber 18 = .ok (.iconst 0, 1) := by decide +kernel
theorem d_Rd_readNumber_19 : decode b_Rd_readNumber 19 = .ok (.istore_n 3, 1) := by decide +kernel
theorem d_Rd_readNumber_20 : decode b_Rd_readNumber 20 = .ok (.iload_n 3, 1) := by decide +kernel
theorem d_Rd_readNumber_21 : decode b_Rd_readNumber 21 = .ok (.ifCond .eq 13, 3) := by decide +kernel
theorem d_Rd_readNumber_24 : decode b_Rd_readNumber 24 = .ok (.aload_n 0, 1) := by decide +kernel
theorem d_Rd_readNumber_25 : decode b_Rd_readNumber 25 = .ok (.dup, 1) := by decide +kernel
theorem d_Rd_readNumber_26 : decode b_Rd_readNumber 26 = .ok (.getfield 28, 3) := by decide +kernel
theorem d_Rd_readNumber_29 : decode b_Rd_readNumber 29 = .ok (.iconst 1, 1) := by decide +kernel
theorem d_Rd_readNumber_30 : decode b_Rd_readNumber 30 = .ok (.iadd, 1) := by decide +kernel
theorem d_Rd_readNumber_31 : decode b_Rd_readNumber 31 = .ok (.putfield 28, 3) := by decide +kernel
theorem d_Rd_readNumber_34 : decode b_Rd_readNumber 34 = .ok (.aload_n 0, 1) := by decide +kernel
theorem d_Rd_readNumber_35 : decode b_Rd_readNumber 35 = .ok (.invokevirtual 48, 3) := by decide +kernel
theorem d_Rd_readNumber_38 : decode b_Rd_readNumber 38 = .ok (.bipush 48, 2) := by decide +kernel
theorem d_Rd_readNumber_40 : decode b_Rd_readNumber 40 = .ok (.if_icmp .ne 11, 3) := by decide +kernel
theorem d_Rd_readNumber_43 : decode b_Rd_readNumber 43 = .ok (.aload_n 0, 1) := by decide +kernel
theorem d_Rd_readNumber_44 : decode b_Rd_readNumber 44 = .ok (.iconst 1, 1) := by decide +kernel
theorem d_Rd_readNumber_45 : decode b_Rd_readNumber 45 = .ok (.invokevirtual 113, 3) := by decide +kernel
theorem d_Rd_readNumber_48 : decode b_Rd_readNumber 48 = .ok (.goto 10, 3) := by decide +kernel
theorem d_Rd_readNumber_51 : decode b_Rd_readNumber 51 = .ok (.aload_n 0, 1) := by decide +kernel
theorem d_Rd_readNumber_52 : decode b_Rd_readNumber 52 = .ok (.sipush 8192, 3) := by decide +kernel
theorem d_Rd_readNumber_55 : decode b_Rd_readNumber 55 = .ok (.invokevirtual 113, 3) := by decide +kernel
theorem d_Rd_readNumber_58 : decode b_Rd_readNumber 58 = .ok (.istore 4, 2) := by decide +kernel
theorem d_Rd_readNumber_60 : decode b_Rd_readNumber 60 = .ok (.iload 4, 2) := by decide +kernel
theorem d_Rd_readNumber_62 : decode b_Rd_readNumber 62 = .ok (.ifCond .ne 12, 3) := by decide +kernel
theorem d_Rd_readNumber_65 : decode b_Rd_readNumber 65 = .ok (.aload_n 0, 1) := by decide +kernel
theorem d_Rd_readNumber_66 : decode b_Rd_readNumber 66 = .ok (.aload_n 0, 1) := by decide +kernel
theorem d_Rd_readNumber_67 : decode b_Rd_readNumber 67 = .ok (.getfield 28, 3) := by decide +kernel
theorem d_Rd_readNumber_70 : decode b_Rd_readNumber 70 = .ok (.invokevirtual 44, 3) := by decide +kernel
theorem d_Rd_readNumber_73 : decode b_Rd_readNumber 73 = .ok (.ireturn, 1) := by decide +kernel
theorem d_Rd_readNumber_74 : decode b_Rd_readNumber 74 = .ok (.iconst 0, 1) := by decide +kernel
theorem d_Rd_readNumber_75 : decode b_Rd_readNumber 75 = .ok (.istore 5, 2) := by decide +kernel
theorem d_Rd_readNumber_77 : decode b_Rd_readNumber 77 = .ok (.aload_n 0, 1) := by decide +kernel
theorem d_Rd_readNumber_78 : decode b_Rd_readNumber 78 = .ok (.invokevirtual 48, 3) := by decide +kernel
theorem d_Rd_readNumber_81 : decode b_Rd_readNumber 81 = .ok (.bipush 46, 2) := by decide +kernel
theorem d_Rd_readNumber_83 : decode b_Rd_readNumber 83 = .ok (.if_icmp .ne 36, 3) := by decide +kernel
theorem d_Rd_readNumber_86 : decode b_Rd_readNumber 86 = .ok (.aload_n 0, 1) := by decide +kernel
theorem d_Rd_readNumber_87 : decode b_Rd_readNumber 87 = .ok (.dup, 1) := by decide +kernel
theorem d_Rd_readNumber_88 : decode b_Rd_readNumber 88 = .ok (.getfield 28, 3) := by decide +kernel
theorem d_Rd_readNumber_91 : decode b_Rd_readNumber 91 = .ok (.iconst 1, 1) := by decide +kernel
theorem d_Rd_readNumber_92 : decode b_Rd_readNumber 92 = .ok (.iadd, 1) := by decide +kernel
theorem d_Rd_readNumber_93 : decode b_Rd_readNumber 93 = .ok (.putfield 28, 3) := by decide +kernel
theorem d_Rd_readNumber_96 : decode b_Rd_readNumber 96 = .ok (.aload_n 0, 1) := by decide +kernel
theorem d_Rd_readNumber_97 : decode b_Rd_readNumber 97 = .ok (.sipush 8192, 3) := by decide +kernel
theorem d_Rd_readNumber_100 : decode b_Rd_readNumber 100 = .ok (.invokevirtual 113, 3) := by decide +kernel
theorem d_Rd_readNumber_103 : decode b_Rd_readNumber 103 = .ok (.istore 5, 2) := by decide +kernel
theorem d_Rd_readNumber_105 : decode b_Rd_readNumber 105 = .ok (.iload 5, 2) := by decide +kernel
theorem d_Rd_readNumber_107 : decode b_Rd_readNumber 107 = .ok (.ifCond .ne 12, 3) := by decide +kernel
theorem d_Rd_readNumber_110 : decode b_Rd_readNumber 110 = .ok (.aload_n 0, 1) := by decide +kernel
theorem d_Rd_readNumber_111 : decode b_Rd_readNumber 111 = .ok (.aload_n 0, 1) := by decide +kernel
theorem d_Rd_readNumber_112 : decode b_Rd_readNumber 112 = .ok (.getfield 28, 3) := by decide +kernel
theorem d_Rd_readNumber_115 : decode b_Rd_readNumber 115 = .ok (.invokevirtual 44, 3) := by decide +kernel
theorem d_Rd_readNumber_118 : decode b_Rd_readNumber 118 = .ok (.ireturn, 1) := by decide +kernel
theorem d_Rd_readNumber_119 : decode b_Rd_readNumber 119 = .ok (.iload 4, 2) := by decide +kernel
theorem d_Rd_readNumber_121 : decode b_Rd_readNumber 121 = .ok (.iload 5, 2) := by decide +kernel
theorem d_Rd_readNumber_123 : decode b_Rd_readNumber 123 = .ok (.iadd, 1) := by decide +kernel
theorem d_Rd_readNumber_124 : decode b_Rd_readNumber 124 = .ok (.bipush 60, 2) := by decide +kernel
theorem d_Rd_readNumber_126 : decode b_Rd_readNumber 126 = .ok (.if_icmp .gt 7, 3) := by decide +kernel
theorem d_Rd_readNumber_129 : decode b_Rd_readNumber 129 = .ok (.iconst 1, 1) := by decide +kernel
theorem d_Rd_readNumber_130 : decode b_Rd_readNumber 130 = .ok (.goto 4, 3) := by decide +kernel
theorem d_Rd_readNumber_133 : decode b_Rd_readNumber 133 = .ok (.iconst 0, 1) := by decide +kernel
theorem d_Rd_readNumber_134 : decode b_Rd_readNumber 134 = .ok (.istore 6, 2) := by decide +kernel
theorem d_Rd_readNumber_136 : decode b_Rd_readNumber 136 = .ok (.iconst 0, 1) := by decide +kernel
theorem d_Rd_readNumber_137 : decode b_Rd_readNumber 137 = .ok (.istore 7, 2) := by decide +kernel
theorem d_Rd_readNumber_139 : decode b_Rd_readNumber 139 = .ok (.aload_n 0, 1) := by decide +kernel
theorem d_Rd_readNumber_140 : decode b_Rd_readNumber 140 = .ok (.invokevirtual 48, 3) := by decide +kernel
theorem d_Rd_readNumber_143 : decode b_Rd_readNumber 143 = .ok (.bipush 101, 2) := by decide +kernel
theorem d_Rd_readNumber_145 : decode b_Rd_readNumber 145 = .ok (.if_icmp .eq 12, 3) := by decide +kernel
theorem d_Rd_readNumber_148 : decode b_Rd_readNumber 148 = .ok (.aload_n 0, 1) := by decide +kernel
theorem d_Rd_readNumber_149 : decode b_Rd_readNumber 149 = .ok (.invokevirtual 48, 3) := by decide +kernel
theorem d_Rd_readNumber_152 : decode b_Rd_readNumber 152 = .ok (.bipush 69, 2) := by decide +kernel
theorem d_Rd_readNumber_154 : decode b_Rd_readNumber 154 = .ok (.if_icmp .ne 121, 3) := by decide +kernel
theorem d_Rd_readNumber_157 : decode b_Rd_readNumber 157 = .ok (.aload_n 0, 1) := by decide +kernel
theorem d_Rd_readNumber_158 : decode b_Rd_readNumber 158 = .ok (.dup, 1) := by decide +kernel
theorem d_Rd_readNumber_159 : decode b_Rd_readNumber 159 = .ok (.getfield 28, 3) := by decide +kernel
theorem d_Rd_readNumber_162 : decode b_Rd_readNumber 162 = .ok (.iconst 1, 1) := by decide +kernel
theorem d_Rd_readNumber_163 : decode b_Rd_readNumber 163 = .ok (.iadd, 1) := by decide +kernel
theorem d_Rd_readNumber_164 : decode b_Rd_readNumber 164 = .ok (.putfield 28, 3) := by decide +kernel
theorem d_Rd_readNumber_167 : decode b_Rd_readNumber 167 = .ok (.aload_n 0, 1) := by decide +kernel
theorem d_Rd_readNumber_168 : decode b_Rd_readNumber 168 = .ok (.invokevirtual 48, 3) := by decide +kernel
theorem d_Rd_readNumber_171 : decode b_Rd_readNumber 171 = .ok (.bipush 45, 2) := by decide +kernel
theorem d_Rd_readNumber_173 : decode b_Rd_readNumber 173 = .ok (.if_icmp .ne 7, 3) := by decide +kernel
theorem d_Rd_readNumber_176 : decode b_Rd_readNumber 176 = .ok (.iconst 1, 1) := by decide +kernel
theorem d_Rd_readNumber_177 : decode b_Rd_readNumber 177 = .ok (.goto 4, 3) := by decide +kernel
theorem d_Rd_readNumber_180 : decode b_Rd_readNumber 180 = .ok (.iconst 0, 1) := by decide +kernel
theorem d_Rd_readNumber_181 : decode b_Rd_readNumber 181 = .ok (.istore 8, 2) := by decide +kernel
theorem d_Rd_readNumber_183 : decode b_Rd_readNumber 183 = .ok (.iload 8, 2) := by decide +kernel
theorem d_Rd_readNumber_185 : decode b_Rd_readNumber 185 = .ok (.ifCond .ne 12, 3) := by decide +kernel
theorem d_Rd_readNumber_188 : decode b_Rd_readNumber 188 = .ok (.aload_n 0, 1) := by decide +kernel
theorem d_Rd_readNumber_189 : decode b_Rd_readNumber 189 = .ok (.invokevirtual 48, 3) := by decide +kernel
theorem d_Rd_readNumber_192 : decode b_Rd_readNumber 192 = .ok (.bipush 43, 2) := by decide +kernel
theorem d_Rd_readNumber_194 : decode b_Rd_readNumber 194 = .ok (.if_icmp .ne 13, 3) := by decide +kernel
theorem d_Rd_readNumber_197 : decode b_Rd_readNumber 197 = .ok (.aload_n 0, 1) := by decide +kernel
theorem d_Rd_readNumber_198 : decode b_Rd_readNumber 198 = .ok (.dup, 1) := by decide +kernel
theorem d_Rd_readNumber_199 : decode b_Rd_readNumber 199 = .ok (.getfield 28, 3) := by decide +kernel
theorem d_Rd_readNumber_202 : decode b_Rd_readNumber 202 = .ok (.iconst 1, 1) := by decide +kernel
theorem d_Rd_readNumber_203 : decode b_Rd_readNumber 203 = .ok (.iadd, 1) := by decide +kernel
theorem d_Rd_readNumber_204 : decode b_Rd_readNumber 204 = .ok (.putfield 28, 3) := by decide +kernel
theorem d_Rd_readNumber_207 : decode b_Rd_readNumber 207 = .ok (.aload_n 0, 1) := by decide +kernel
theorem d_Rd_readNumber_208 : decode b_Rd_readNumber 208 = .ok (.getfield 28, 3) := by decide +kernel
theorem d_Rd_readNumber_211 : decode b_Rd_readNumber 211 = .ok (.istore 9, 2) := by decide +kernel
theorem d_Rd_readNumber_213 : decode b_Rd_readNumber 213 = .ok (.aload_n 0, 1) := by decide +kernel
theorem d_Rd_readNumber_214 : decode b_Rd_readNumber 214 = .ok (.invokevirtual 116, 3) := by decide +kernel
theorem d_Rd_readNumber_217 : decode b_Rd_readNumber 217 = .ok (.istore 7, 2) := by decide +kernel
theorem d_Rd_readNumber_219 : decode b_Rd_readNumber 219 = .ok (.aload_n 0, 1) := by decide +kernel
theorem d_Rd_readNumber_220 : decode b_Rd_readNumber 220 = .ok (.getfield 28, 3) := by decide +kernel
theorem d_Rd_readNumber_223 : decode b_Rd_readNumber 223 = .ok (.iload 9, 2) := by decide +kernel
theorem d_Rd_readNumber_225 : decode b_Rd_readNumber 225 = .ok (.if_icmp .ne 12, 3) := by decide +kernel
theorem d_Rd_readNumber_228 : decode b_Rd_readNumber 228 = .ok (.aload_n 0, 1) := by decide +kernel
theorem d_Rd_readNumber_229 : decode b_Rd_readNumber 229 = .ok (.aload_n 0, 1) := by decide +kernel
theorem d_Rd_readNumber_230 : decode b_Rd_readNumber 230 = .ok (.getfield 28, 3) := by decide +kernel
theorem d_Rd_readNumber_233 : decode b_Rd_readNumber 233 = .ok (.invokevirtual 44, 3) := by decide +kernel
theorem d_Rd_readNumber_236 : decode b_Rd_readNumber 236 = .ok (.ireturn, 1) := by decide +kernel
theorem d_Rd_readNumber_237 : decode b_Rd_readNumber 237 = .ok (.iload 6, 2) := by decide +kernel
theorem d_Rd_readNumber_239 : decode b_Rd_readNumber 239 = .ok (.ifCond .eq 18, 3) := by decide +kernel
theorem d_Rd_readNumber_242 : decode b_Rd_readNumber 242 = .ok (.aload_n 0, 1) := by decide +kernel
theorem d_Rd_readNumber_243 : decode b_Rd_readNumber 243 = .ok (.getfield 28, 3) := by decide +kernel
theorem d_Rd_readNumber_246 : decode b_Rd_readNumber 246 = .ok (.iload 9, 2) := by decide +kernel
theorem d_Rd_readNumber_248 : decode b_Rd_readNumber 248 = .ok (.isub, 1) := by decide +kernel
theorem d_Rd_readNumber_249 : decode b_Rd_readNumber 249 = .ok (.iconst 3, 1) := by decide +kernel
theorem d_Rd_readNumber_250 : decode b_Rd_readNumber 250 = .ok (.if_icmp .gt 7, 3) := by decide +kernel
theorem d_Rd_readNumber_253 : decode b_Rd_readNumber 253 = .ok (.iconst 1, 1) := by decide +kernel
theorem d_Rd_readNumber_254 : decode b_Rd_readNumber 254 = .ok (.goto 4, 3) := by decide +kernel
theorem d_Rd_readNumber_257 : decode b_Rd_readNumber 257 = .ok (.iconst 0, 1) := by decide +kernel
theorem d_Rd_readNumber_258 : decode b_Rd_readNumber 258 = .ok (.istore 6, 2) := by decide +kernel
theorem d_Rd_readNumber_260 : decode b_Rd_readNumber 260 = .ok (.iload 8, 2) := by decide +kernel
theorem d_Rd_readNumber_262 : decode b_Rd_readNumber 262 = .ok (.ifCond .eq 9, 3) := by decide +kernel
theorem d_Rd_readNumber_265 : decode b_Rd_readNumber 265 = .ok (.iload 7, 2) := by decide +kernel
theorem d_Rd_readNumber_267 : decode b_Rd_readNumber 267 = .ok (.ineg, 1) := by decide +kernel
theorem d_Rd_readNumber_268 : decode b_Rd_readNumber 268 = .ok (.goto 5, 3) := by decide +kernel
theorem d_Rd_readNumber_271 : decode b_Rd_readNumber 271 = .ok (.iload 7, 2) := by decide +kernel
theorem d_Rd_readNumber_273 : decode b_Rd_readNumber 273 = .ok (.istore 7, 2) := by decide +kernel
theorem d_Rd_readNumber_275 : decode b_Rd_readNumber 275 = .ok (.iload 6, 2) := by decide +kernel
theorem d_Rd_readNumber_277 : decode b_Rd_readNumber 277 = .ok (.ifCond .ne 9, 3) := by decide +kernel
theorem d_Rd_readNumber_280 : decode b_Rd_readNumber 280 = .ok (.aload_n 0, 1) := by decide +kernel
theorem d_Rd_readNumber_281 : decode b_Rd_readNumber 281 = .ok (.iload_n 2, 1) := by decide +kernel
theorem d_Rd_readNumber_282 : decode b_Rd_readNumber 282 = .ok (.invokevirtual 44, 3) := by decide +kernel
theorem d_Rd_readNumber_285 : decode b_Rd_readNumber 285 = .ok (.ireturn, 1) := by decide +kernel
theorem d_Rd_readNumber_286 : decode b_Rd_readNumber 286 = .ok (.aload_n 0, 1) := by decide +kernel
theorem d_Rd_readNumber_287 : decode b_Rd_readNumber 287 = .ok (.getfield 15, 3) := by decide +kernel
theorem d_Rd_readNumber_290 : decode b_Rd_readNumber 290 = .ok (.iload_n 1, 1) := by decide +kernel
theorem d_Rd_readNumber_291 : decode b_Rd_readNumber 291 = .ok (.iload_n 3, 1) := by decide +kernel
theorem d_Rd_readNumber_292 : decode b_Rd_readNumber 292 = .ok (.iload 7, 2) := by decide +kernel
theorem d_Rd_readNumber_294 : decode b_Rd_readNumber 294 = .ok (.iload 5, 2) := by decide +kernel
theorem d_Rd_readNumber_296 : decode b_Rd_readNumber 296 = .ok (.isub, 1) := by decide +kernel
theorem d_Rd_readNumber_297 : decode b_Rd_readNumber 297 = .ok (.invokevirtual 119, 3) := by decide +kernel
theorem d_Rd_readNumber_300 : decode b_Rd_readNumber 300 = .ok (.iconst 1, 1) := by decide +kernel
theorem d_Rd_readNumber_301 : decode b_Rd_readNumber 301 = .ok (.ireturn, 1) := by decide +kernel
theorem d_Tx_endString_0 : decode b_Tx_endString 0 = .ok (.iload_n 1, 1) := by decide +kernel
theorem d_Tx_endString_1 : decode b_Tx_endString 1 = .ok (.ifCond .lt 28, 3) := by decide +kernel
theorem d_Tx_endString_4 : decode b_Tx_endString 4 = .ok (.iload_n 1, 1) := by decide +kernel
theorem d_Tx_endString_5 : decode b_Tx_endString 5 = .ok (.aload_n 0, 1) := by decide +kernel
theorem d_Tx_endString_6 : decode b_Tx_endString 6 = .ok (.getfield 43, 3) := by decide +kernel
theorem d_Tx_endString_9 : decode b_Tx_endString 9 = .ok (.if_icmp .ge 20, 3) := by decide +kernel
theorem d_Tx_endString_12 : decode b_Tx_endString 12 = .ok (.aload_n 0, 1) := by decide +kernel
theorem d_Tx_endString_13 : decode b_Tx_endString 13 = .ok (.getfield 18, 3) := by decide +kernel
theorem d_Tx_endString_16 : decode b_Tx_endString 16 = .ok (.iload_n 1, 1) := by decide +kernel
theorem d_Tx_endString_17 : decode b_Tx_endString 17 = .ok (.aload_n 0, 1) := by decide +kernel
theorem d_Tx_endString_18 : decode b_Tx_endString 18 = .ok (.getfield 47, 3) := by decide +kernel
theorem d_Tx_endString_21 : decode b_Tx_endString 21 = .ok (.aload_n 0, 1) := by decide +kernel
theorem d_Tx_endString_22 : decode b_Tx_endString 22 = .ok (.getfield 27, 3) := by decide +kernel
theorem d_Tx_endString_25 : decode b_Tx_endString 25 = .ok (.iload_n 1, 1) := by decide +kernel
theorem d_Tx_endString_26 : decode b_Tx_endString 26 = .ok (.iaload, 1) := by decide +kernel
theorem d_Tx_endString_27 : decode b_Tx_endString 27 = .ok (.isub, 1) := by decide +kernel
theorem d_Tx_endString_28 : decode b_Tx_endString 28 = .ok (.iastore, 1) := by decide +kernel
theorem d_Tx_endString_29 : decode b_Tx_endString 29 = .ok (.return_, 1) := by decide +kernel
theorem d_Tx_addCharacter_0 : decode b_Tx_addCharacter 0 = .ok (.aload_n 0, 1) := by decide +kernel
theorem d_Tx_addCharacter_1 : decode b_Tx_addCharacter 1 = .ok (.getfield 50, 3) := by decide +kernel
theorem d_Tx_addCharacter_4 : decode b_Tx_addCharacter 4 = .ok (.sipush 4000, 3) := by decide +kernel
theorem d_Tx_addCharacter_7 : decode b_Tx_addCharacter 7 = .ok (.if_icmp .ge 15, 3) := by decide +kernel
theorem d_Tx_addCharacter_10 : decode b_Tx_addCharacter 10 = .ok (.aload_n 0, 1) := by decide +kernel
theorem d_Tx_addCharacter_11 : decode b_Tx_addCharacter 11 = .ok (.getfield 47, 3) := by decide +kernel
theorem d_Tx_addCharacter_14 : decode b_Tx_addCharacter 14 = .ok (.aload_n 0, 1) := by decide +kernel
theorem d_Tx_addCharacter_15 : decode b_Tx_addCharacter 15 = .ok (.getfield 40, 3) := by decide +kernel
theorem d_Tx_addCharacter_18 : decode b_Tx_addCharacter 18 = .ok (.arraylength, 1) := by decide +kernel
theorem d_Tx_addCharacter_19 : decode b_Tx_addCharacter 19 = .ok (.if_icmp .lt 5, 3) := by decide +kernel
theorem d_Tx_addCharacter_22 : decode b_Tx_addCharacter 22 = .ok (.iconst 0, 1) := by decide +kernel
theorem d_Tx_addCharacter_23 : decode b_Tx_addCharacter 23 = .ok (.ireturn, 1) := by decide +kernel
theorem d_Tx_addCharacter_24 : decode b_Tx_addCharacter 24 = .ok (.aload_n 0, 1) := by decide +kernel
theorem d_Tx_addCharacter_25 : decode b_Tx_addCharacter 25 = .ok (.dup, 1) := by decide +kernel
theorem d_Tx_addCharacter_26 : decode b_Tx_addCharacter 26 = .ok (.getfield 50, 3) := by decide +kernel
theorem d_Tx_addCharacter_29 : decode b_Tx_addCharacter 29 = .ok (.iconst 1, 1) := by decide +kernel
theorem d_Tx_addCharacter_30 : decode b_Tx_addCharacter 30 = .ok (.iadd, 1) := by decide +kernel
theorem d_Tx_addCharacter_31 : decode b_Tx_addCharacter 31 = .ok (.putfield 50, 3) := by decide +kernel
theorem d_Tx_addCharacter_34 : decode b_Tx_addCharacter 34 = .ok (.aload_n 0, 1) := by decide +kernel
theorem d_Tx_addCharacter_35 : decode b_Tx_addCharacter 35 = .ok (.getfield 40, 3) := by decide +kernel
theorem d_Tx_addCharacter_38 : decode b_Tx_addCharacter 38 = .ok (.aload_n 0, 1) := by decide +kernel
theorem d_Tx_addCharacter_39 : decode b_Tx_addCharacter 39 = .ok (.getfield 47, 3) := by decide +kernel
theorem d_Tx_addCharacter_42 : decode b_Tx_addCharacter 42 = .ok (.iload_n 1, 1) := by decide +kernel
theorem d_Tx_addCharacter_43 : decode b_Tx_addCharacter 43 = .ok (.iastore, 1) := by decide +kernel
theorem d_Tx_addCharacter_44 : decode b_Tx_addCharacter 44 = .ok (.aload_n 0, 1) := by decide +kernel
theorem d_Tx_addCharacter_45 : decode b_Tx_addCharacter 45 = .ok (.dup, 1) := by decide +kernel
theorem d_Tx_addCharacter_46 : decode b_Tx_addCharacter 46 = .ok (.getfield 47, 3) := by decide +kernel
theorem d_Tx_addCharacter_49 : decode b_Tx_addCharacter 49 = .ok (.iconst 1, 1) := by decide +kernel
theorem d_Tx_addCharacter_50 : decode b_Tx_addCharacter 50 = .ok (.iadd, 1) := by decide +kernel
theorem d_Tx_addCharacter_51 : decode b_Tx_addCharacter 51 = .ok (.putfield 47, 3) := by decide +kernel
theorem d_Tx_addCharacter_54 : decode b_Tx_addCharacter 54 = .ok (.iconst 1, 1) := by decide +kernel
theorem d_Tx_addCharacter_55 : decode b_Tx_addCharacter 55 = .ok (.ireturn, 1) := by decide +kernel
theorem d_Rd_readString_0 : decode b_Rd_readString 0 = .ok (.aload_n 0, 1) := by decide +kernel
theorem d_Rd_readString_1 : decode b_Rd_readString 1 = .ok (.dup, 1) := by decide +kernel
theorem d_Rd_readString_2 : decode b_Rd_readString 2 = .ok (.getfield 28, 3) := by decide +kernel
theorem d_Rd_readString_5 : decode b_Rd_readString 5 = .ok (.iconst 1, 1) := by decide +kernel
theorem d_Rd_readString_6 : decode b_Rd_readString 6 = .ok (.iadd, 1) := by decide +kernel
theorem d_Rd_readString_7 : decode b_Rd_readString 7 = .ok (.putfield 28, 3) := by decide +kernel
theorem d_Rd_readString_10 : decode b_Rd_readString 10 = .ok (.iconst 0, 1) := by decide +kernel
theorem d_Rd_readString_11 : decode b_Rd_readString 11 = .ok (.istore_n 2, 1) := by decide +kernel
theorem d_Rd_readString_12 : decode b_Rd_readString 12 = .ok (.iload_n 2, 1) := by decide +kernel
theorem d_Rd_readString_13 : decode b_Rd_readString 13 = .ok (.sipush 8192, 3) := by decide +kernel
theorem d_Rd_readString_16 : decode b_Rd_readString 16 = .ok (.if_icmp .gt 92, 3) := by decide +kernel
theorem d_Rd_readString_19 : decode b_Rd_readString 19 = .ok (.aload_n 0, 1) := by decide +kernel
theorem d_Rd_readString_20 : decode b_Rd_readString 20 = .ok (.invokevirtual 48, 3) := by decide +kernel
theorem d_Rd_readString_23 : decode b_Rd_readString 23 = .ok (.istore_n 3, 1) := by decide +kernel
theorem d_Rd_readString_24 : decode b_Rd_readString 24 = .ok (.iload_n 3, 1) := by decide +kernel
theorem d_Rd_readString_25 : decode b_Rd_readString 25 = .ok (.bipush 34, 2) := by decide +kernel
theorem d_Rd_readString_27 : decode b_Rd_readString 27 = .ok (.if_icmp .ne 23, 3) := by decide +kernel
theorem d_Rd_readString_30 : decode b_Rd_readString 30 = .ok (.aload_n 0, 1) := by decide +kernel
theorem d_Rd_readString_31 : decode b_Rd_readString 31 = .ok (.dup, 1) := by decide +kernel
theorem d_Rd_readString_32 : decode b_Rd_readString 32 = .ok (.getfield 28, 3) := by decide +kernel
theorem d_Rd_readString_35 : decode b_Rd_readString 35 = .ok (.iconst 1, 1) := by decide +kernel
theorem d_Rd_readString_36 : decode b_Rd_readString 36 = .ok (.iadd, 1) := by decide +kernel
theorem d_Rd_readString_37 : decode b_Rd_readString 37 = .ok (.putfield 28, 3) := by decide +kernel
theorem d_Rd_readString_40 : decode b_Rd_readString 40 = .ok (.aload_n 0, 1) := by decide +kernel
theorem d_Rd_readString_41 : decode b_Rd_readString 41 = .ok (.getfield 15, 3) := by decide +kernel
theorem d_Rd_readString_44 : decode b_Rd_readString 44 = .ok (.iload_n 1, 1) := by decide +kernel
theorem d_Rd_readString_45 : decode b_Rd_readString 45 = .ok (.invokevirtual 127, 3) := by decide +kernel
theorem d_Rd_readString_48 : decode b_Rd_readString 48 = .ok (.iconst 1, 1) := by decide +kernel
theorem d_Rd_readString_49 : decode b_Rd_readString 49 = .ok (.ireturn, 1) := by decide +kernel
theorem d_Rd_readString_50 : decode b_Rd_readString 50 = .ok (.aload_n 0, 1) := by decide +kernel
theorem d_Rd_readString_51 : decode b_Rd_readString 51 = .ok (.getfield 28, 3) := by decide +kernel
theorem d_Rd_readString_54 : decode b_Rd_readString 54 = .ok (.istore 4, 2) := by decide +kernel
theorem d_Rd_readString_56 : decode b_Rd_readString 56 = .ok (.iload_n 3, 1) := by decide +kernel
theorem d_Rd_readString_57 : decode b_Rd_readString 57 = .ok (.bipush 92, 2) := by decide +kernel
theorem d_Rd_readString_59 : decode b_Rd_readString 59 = .ok (.if_icmp .ne 10, 3) := by decide +kernel
theorem d_Rd_readString_62 : decode b_Rd_readString 62 = .ok (.aload_n 0, 1) := by decide +kernel
theorem d_Rd_readString_63 : decode b_Rd_readString 63 = .ok (.invokevirtual 130, 3) := by decide +kernel
theorem d_Rd_readString_66 : decode b_Rd_readString 66 = .ok (.goto 7, 3) := by decide +kernel
theorem d_Rd_readString_69 : decode b_Rd_readString 69 = .ok (.aload_n 0, 1) := by decide +kernel
theorem d_Rd_readString_70 : decode b_Rd_readString 70 = .ok (.invokevirtual 133, 3) := by decide +kernel
theorem d_Rd_readString_73 : decode b_Rd_readString 73 = .ok (.istore 5, 2) := by decide +kernel
theorem d_Rd_readString_75 : decode b_Rd_readString 75 = .ok (.iload 5, 2) := by decide +kernel
theorem d_Rd_readString_77 : decode b_Rd_readString 77 = .ok (.iconst (-1), 1) := by decide +kernel
theorem d_Rd_readString_78 : decode b_Rd_readString 78 = .ok (.if_icmp .ne 5, 3) := by decide +kernel
theorem d_Rd_readString_81 : decode b_Rd_readString 81 = .ok (.iconst 0, 1) := by decide +kernel
theorem d_Rd_readString_82 : decode b_Rd_readString 82 = .ok (.ireturn, 1) := by decide +kernel
theorem d_Rd_readString_83 : decode b_Rd_readString 83 = .ok (.aload_n 0, 1) := by decide +kernel
theorem d_Rd_readString_84 : decode b_Rd_readString 84 = .ok (.getfield 15, 3) := by decide +kernel
theorem d_Rd_readString_87 : decode b_Rd_readString 87 = .ok (.iload 5, 2) := by decide +kernel
theorem d_Rd_readString_89 : decode b_Rd_readString 89 = .ok (.invokevirtual 136, 3) := by decide +kernel
theorem d_Rd_readString_92 : decode b_Rd_readString 92 = .ok (.ifCond .ne 10, 3) := by decide +kernel
theorem d_Rd_readString_95 : decode b_Rd_readString 95 = .ok (.aload_n 0, 1) := by decide +kernel
theorem d_Rd_readString_96 : decode b_Rd_readString 96 = .ok (.iload 4, 2) := by decide +kernel
theorem d_Rd_readString_98 : decode b_Rd_readString 98 = .ok (.invokevirtual 44, 3) := by decide +kernel
theorem d_Rd_readString_101 : decode b_Rd_readString 101 = .ok (.ireturn, 1) := by decide +kernel
theorem d_Rd_readString_102 : decode b_Rd_readString 102 = .ok (.iinc 2 1, 3) := by decide +kernel
theorem d_Rd_readString_105 : decode b_Rd_readString 105 = .ok (.goto (-93), 3) := by decide +kernel
theorem d_Rd_readString_108 : decode b_Rd_readString 108 = .ok (.aload_n 0, 1) := by decide +kernel
theorem d_Rd_readString_109 : decode b_Rd_readString 109 = .ok (.aload_n 0, 1) := by decide +kernel
theorem d_Rd_readString_110 : decode b_Rd_readString 110 = .ok (.getfield 28, 3) := by decide +kernel
theorem d_Rd_readString_113 : decode b_Rd_readString 113 = .ok (.invokevirtual 44, 3) := by decide +kernel
theorem d_Rd_readString_116 : decode b_Rd_readString 116 = .ok (.ireturn, 1) := by decide +kernel
theorem d_Tx_endParent_0 : decode b_Tx_endParent 0 = .ok (.iload_n 1, 1) := by decide +kernel
theorem d_Tx_endParent_1 : decode b_Tx_endParent 1 = .ok (.ifCond .lt 28, 3) := by decide +kernel
theorem d_Tx_endParent_4 : decode b_Tx_endParent 4 = .ok (.iload_n 1, 1) := by decide +kernel
theorem d_Tx_endParent_5 : decode b_Tx_endParent 5 = .ok (.aload_n 0, 1) := by decide +kernel
theorem d_Tx_endParent_6 : decode b_Tx_endParent 6 = .ok (.getfield 43, 3) := by decide +kernel
theorem d_Tx_endParent_9 : decode b_Tx_endParent 9 = .ok (.if_icmp .ge 20, 3) := by decide +kernel
theorem d_Tx_endParent_12 : decode b_Tx_endParent 12 = .ok (.aload_n 0, 1) := by decide +kernel
theorem d_Tx_endParent_13 : decode b_Tx_endParent 13 = .ok (.getfield 18, 3) := by decide +kernel
theorem d_Tx_endParent_16 : decode b_Tx_endParent 16 = .ok (.iload_n 1, 1) := by decide +kernel
theorem d_Tx_endParent_17 : decode b_Tx_endParent 17 = .ok (.iload_n 2, 1) := by decide +kernel
theorem d_Tx_endParent_18 : decode b_Tx_endParent 18 = .ok (.iastore, 1) := by decide +kernel
theorem d_Tx_endParent_19 : decode b_Tx_endParent 19 = .ok (.aload_n 0, 1) := by decide +kernel
theorem d_Tx_endParent_20 : decode b_Tx_endParent 20 = .ok (.getfield 30, 3) := by decide +kernel
theorem d_Tx_endParent_23 : decode b_Tx_endParent 23 = .ok (.iload_n 1, 1) := by decide +kernel
theorem d_Tx_endParent_24 : decode b_Tx_endParent 24 = .ok (.aload_n 0, 1) := by decide +kernel
theorem d_Tx_endParent_25 : decode b_Tx_endParent 25 = .ok (.getfield 43, 3) := by decide +kernel
theorem d_Tx_endParent_28 : decode b_Tx_endParent 28 = .ok (.iastore, 1) := by decide +kernel
theorem d_Tx_endParent_29 : decode b_Tx_endParent 29 = .ok (.return_, 1) := by decide +kernel
theorem d_Rd_beginName_0 : decode b_Rd_beginName 0 = .ok (.aload_n 0, 1) := by decide +kernel
theorem d_Rd_beginName_1 : decode b_Rd_beginName 1 = .ok (.invokevirtual 41, 3) := by decide +kernel
theorem d_Rd_beginName_4 : decode b_Rd_beginName 4 = .ok (.aload_n 0, 1) := by decide +kernel
theorem d_Rd_beginName_5 : decode b_Rd_beginName 5 = .ok (.invokevirtual 48, 3) := by decide +kernel
theorem d_Rd_beginName_8 : decode b_Rd_beginName 8 = .ok (.bipush 34, 2) := by decide +kernel
theorem d_Rd_beginName_10 : decode b_Rd_beginName 10 = .ok (.if_icmp .ne 20, 3) := by decide +kernel
theorem d_Rd_beginName_13 : decode b_Rd_beginName 13 = .ok (.aload_n 0, 1) := by decide +kernel
theorem d_Rd_beginName_14 : decode b_Rd_beginName 14 = .ok (.getfield 15, 3) := by decide +kernel
theorem d_Rd_beginName_17 : decode b_Rd_beginName 17 = .ok (.iconst 4, 1) := by decide +kernel
theorem d_Rd_beginName_18 : decode b_Rd_beginName 18 = .ok (.aload_n 0, 1) := by decide +kernel
theorem d_Rd_beginName_19 : decode b_Rd_beginName 19 = .ok (.getfield 28, 3) := by decide +kernel
theorem d_Rd_beginName_22 : decode b_Rd_beginName 22 = .ok (.iload_n 1, 1) := by decide +kernel
theorem d_Rd_beginName_23 : decode b_Rd_beginName 23 = .ok (.iload_n 2, 1) := by decide +kernel
theorem d_Rd_beginName_24 : decode b_Rd_beginName 24 = .ok (.invokevirtual 59, 3) := by decide +kernel
theorem d_Rd_beginName_27 : decode b_Rd_beginName 27 = .ok (.goto 4, 3) := by decide +kernel
theorem d_Rd_beginName_30 : decode b_Rd_beginName 30 = .ok (.iconst (-1), 1) := by decide +kernel
theorem d_Rd_beginName_31 : decode b_Rd_beginName 31 = .ok (.istore_n 3, 1) := by decide +kernel
theorem d_Rd_beginName_32 : decode b_Rd_beginName 32 = .ok (.iload_n 3, 1) := by decide +kernel
theorem d_Rd_beginName_33 : decode b_Rd_beginName 33 = .ok (.iconst (-1), 1) := by decide +kernel
theorem d_Rd_beginName_34 : decode b_Rd_beginName 34 = .ok (.if_icmp .ne 12, 3) := by decide +kernel
theorem d_Rd_beginName_37 : decode b_Rd_beginName 37 = .ok (.aload_n 0, 1) := by decide +kernel
theorem d_Rd_beginName_38 : decode b_Rd_beginName 38 = .ok (.aload_n 0, 1) := by decide +kernel
theorem d_Rd_beginName_39 : decode b_Rd_beginName 39 = .ok (.getfield 28, 3) := by decide +kernel
theorem d_Rd_beginName_42 : decode b_Rd_beginName 42 = .ok (.invokevirtual 44, 3) := by decide +kernel
theorem d_Rd_beginName_45 : decode b_Rd_beginName 45 = .ok (.pop, 1) := by decide +kernel
theorem d_Rd_beginName_46 : decode b_Rd_beginName 46 = .ok (.iload_n 3, 1) := by decide +kernel
theorem d_Rd_beginName_47 : decode b_Rd_beginName 47 = .ok (.ireturn, 1) := by decide +kernel
theorem d_Tx_place_0 : decode b_Tx_place 0 = .ok (.iload_n 1, 1) := by decide +kernel
theorem d_Tx_place_1 : decode b_Tx_place 1 = .ok (.ifCond .lt 20, 3) := by decide +kernel
theorem d_Tx_place_4 : decode b_Tx_place 4 = .ok (.iload_n 1, 1) := by decide +kernel
theorem d_Tx_place_5 : decode b_Tx_place 5 = .ok (.aload_n 0, 1) := by decide +kernel
theorem d_Tx_place_6 : decode b_Tx_place 6 = .ok (.getfield 43, 3) := by decide +kernel
theorem d_Tx_place_9 : decode b_Tx_place 9 = .ok (.if_icmp .ge 12, 3) := by decide +kernel
theorem d_Tx_place_12 : decode b_Tx_place 12 = .ok (.aload_n 0, 1) := by decide +kernel
theorem d_Tx_place_13 : decode b_Tx_place 13 = .ok (.getfield 15, 3) := by decide +kernel
theorem d_Tx_place_16 : decode b_Tx_place 16 = .ok (.iload_n 1, 1) := by decide +kernel
theorem d_Tx_place_17 : decode b_Tx_place 17 = .ok (.iaload, 1) := by decide +kernel
theorem d_Tx_place_18 : decode b_Tx_place 18 = .ok (.goto 4, 3) := by decide +kernel
theorem d_Tx_place_21 : decode b_Tx_place 21 = .ok (.iconst (-1), 1) := by decide +kernel
theorem d_Tx_place_22 : decode b_Tx_place 22 = .ok (.ireturn, 1) := by decide +kernel
theorem d_Rd_endName_0 : decode b_Rd_endName 0 = .ok (.aload_n 0, 1) := by decide +kernel
theorem d_Rd_endName_1 : decode b_Rd_endName 1 = .ok (.getfield 15, 3) := by decide +kernel
theorem d_Rd_endName_4 : decode b_Rd_endName 4 = .ok (.iload_n 1, 1) := by decide +kernel
theorem d_Rd_endName_5 : decode b_Rd_endName 5 = .ok (.aload_n 0, 1) := by decide +kernel
theorem d_Rd_endName_6 : decode b_Rd_endName 6 = .ok (.getfield 15, 3) := by decide +kernel
theorem d_Rd_endName_9 : decode b_Rd_endName 9 = .ok (.iload_n 2, 1) := by decide +kernel
theorem d_Rd_endName_10 : decode b_Rd_endName 10 = .ok (.invokevirtual 106, 3) := by decide +kernel
theorem d_Rd_endName_13 : decode b_Rd_endName 13 = .ok (.iconst (-1), 1) := by decide +kernel
theorem d_Rd_endName_14 : decode b_Rd_endName 14 = .ok (.if_icmp .eq 16, 3) := by decide +kernel
theorem d_Rd_endName_17 : decode b_Rd_endName 17 = .ok (.aload_n 0, 1) := by decide +kernel
theorem d_Rd_endName_18 : decode b_Rd_endName 18 = .ok (.aload_n 0, 1) := by decide +kernel
theorem d_Rd_endName_19 : decode b_Rd_endName 19 = .ok (.getfield 15, 3) := by decide +kernel
theorem d_Rd_endName_22 : decode b_Rd_endName 22 = .ok (.iload_n 2, 1) := by decide +kernel
theorem d_Rd_endName_23 : decode b_Rd_endName 23 = .ok (.invokevirtual 110, 3) := by decide +kernel
theorem d_Rd_endName_26 : decode b_Rd_endName 26 = .ok (.invokevirtual 44, 3) := by decide +kernel
theorem d_Rd_endName_29 : decode b_Rd_endName 29 = .ok (.ireturn, 1) := by decide +kernel
theorem d_Rd_endName_30 : decode b_Rd_endName 30 = .ok (.aload_n 0, 1) := by decide +kernel
theorem d_Rd_endName_31 : decode b_Rd_endName 31 = .ok (.invokevirtual 41, 3) := by decide +kernel
theorem d_Rd_endName_34 : decode b_Rd_endName 34 = .ok (.aload_n 0, 1) := by decide +kernel
theorem d_Rd_endName_35 : decode b_Rd_endName 35 = .ok (.invokevirtual 48, 3) := by decide +kernel
theorem d_Rd_endName_38 : decode b_Rd_endName 38 = .ok (.bipush 58, 2) := by decide +kernel
theorem d_Rd_endName_40 : decode b_Rd_endName 40 = .ok (.if_icmp .eq 12, 3) := by decide +kernel
theorem d_Rd_endName_43 : decode b_Rd_endName 43 = .ok (.aload_n 0, 1) := by decide +kernel
theorem d_Rd_endName_44 : decode b_Rd_endName 44 = .ok (.aload_n 0, 1) := by decide +kernel
theorem d_Rd_endName_45 : decode b_Rd_endName 45 = .ok (.getfield 28, 3) := by decide +kernel
theorem d_Rd_endName_48 : decode b_Rd_endName 48 = .ok (.invokevirtual 44, 3) := by decide +kernel
theorem d_Rd_endName_51 : decode b_Rd_endName 51 = .ok (.ireturn, 1) := by decide +kernel
theorem d_Rd_endName_52 : decode b_Rd_endName 52 = .ok (.aload_n 0, 1) := by decide +kernel
theorem d_Rd_endName_53 : decode b_Rd_endName 53 = .ok (.dup, 1) := by decide +kernel
theorem d_Rd_endName_54 : decode b_Rd_endName 54 = .ok (.getfield 28, 3) := by decide +kernel
theorem d_Rd_endName_57 : decode b_Rd_endName 57 = .ok (.iconst 1, 1) := by decide +kernel
theorem d_Rd_endName_58 : decode b_Rd_endName 58 = .ok (.iadd, 1) := by decide +kernel
theorem d_Rd_endName_59 : decode b_Rd_endName 59 = .ok (.putfield 28, 3) := by decide +kernel
theorem d_Rd_endName_62 : decode b_Rd_endName 62 = .ok (.iconst 1, 1) := by decide +kernel
theorem d_Rd_endName_63 : decode b_Rd_endName 63 = .ok (.ireturn, 1) := by decide +kernel
theorem d_Tx_sign_0 : decode b_Tx_sign 0 = .ok (.iload_n 1, 1) := by decide +kernel
theorem d_Tx_sign_1 : decode b_Tx_sign 1 = .ok (.ifCond .lt 20, 3) := by decide +kernel
theorem d_Tx_sign_4 : decode b_Tx_sign 4 = .ok (.iload_n 1, 1) := by decide +kernel
theorem d_Tx_sign_5 : decode b_Tx_sign 5 = .ok (.aload_n 0, 1) := by decide +kernel
theorem d_Tx_sign_6 : decode b_Tx_sign 6 = .ok (.getfield 43, 3) := by decide +kernel
theorem d_Tx_sign_9 : decode b_Tx_sign 9 = .ok (.if_icmp .ge 12, 3) := by decide +kernel
theorem d_Tx_sign_12 : decode b_Tx_sign 12 = .ok (.aload_n 0, 1) := by decide +kernel
theorem d_Tx_sign_13 : decode b_Tx_sign 13 = .ok (.getfield 18, 3) := by decide +kernel
theorem d_Tx_sign_16 : decode b_Tx_sign 16 = .ok (.iload_n 1, 1) := by decide +kernel
theorem d_Tx_sign_17 : decode b_Tx_sign 17 = .ok (.iaload, 1) := by decide +kernel
theorem d_Tx_sign_18 : decode b_Tx_sign 18 = .ok (.ifCond .ne 5, 3) := by decide +kernel
theorem d_Tx_sign_21 : decode b_Tx_sign 21 = .ok (.iconst 0, 1) := by decide +kernel
theorem d_Tx_sign_22 : decode b_Tx_sign 22 = .ok (.ireturn, 1) := by decide +kernel
theorem d_Tx_sign_23 : decode b_Tx_sign 23 = .ok (.aload_n 0, 1) := by decide +kernel
theorem d_Tx_sign_24 : decode b_Tx_sign 24 = .ok (.getfield 36, 3) := by decide +kernel
theorem d_Tx_sign_27 : decode b_Tx_sign 27 = .ok (.iload_n 1, 1) := by decide +kernel
theorem d_Tx_sign_28 : decode b_Tx_sign 28 = .ok (.baload, 1) := by decide +kernel
theorem d_Tx_sign_29 : decode b_Tx_sign 29 = .ok (.ifCond .eq 7, 3) := by decide +kernel
theorem d_Tx_sign_32 : decode b_Tx_sign 32 = .ok (.iconst (-1), 1) := by decide +kernel
theorem d_Tx_sign_33 : decode b_Tx_sign 33 = .ok (.goto 4, 3) := by decide +kernel
theorem d_Tx_sign_36 : decode b_Tx_sign 36 = .ok (.iconst 1, 1) := by decide +kernel
theorem d_Tx_sign_37 : decode b_Tx_sign 37 = .ok (.ireturn, 1) := by decide +kernel
theorem d_Tx_exponent_0 : decode b_Tx_exponent 0 = .ok (.iload_n 1, 1) := by decide +kernel
theorem d_Tx_exponent_1 : decode b_Tx_exponent 1 = .ok (.ifCond .lt 20, 3) := by decide +kernel
theorem d_Tx_exponent_4 : decode b_Tx_exponent 4 = .ok (.iload_n 1, 1) := by decide +kernel
theorem d_Tx_exponent_5 : decode b_Tx_exponent 5 = .ok (.aload_n 0, 1) := by decide +kernel
theorem d_Tx_exponent_6 : decode b_Tx_exponent 6 = .ok (.getfield 43, 3) := by decide +kernel
theorem d_Tx_exponent_9 : decode b_Tx_exponent 9 = .ok (.if_icmp .ge 12, 3) := by decide +kernel
theorem d_Tx_exponent_12 : decode b_Tx_exponent 12 = .ok (.aload_n 0, 1) := by decide +kernel
theorem d_Tx_exponent_13 : decode b_Tx_exponent 13 = .ok (.getfield 24, 3) := by decide +kernel
theorem d_Tx_exponent_16 : decode b_Tx_exponent 16 = .ok (.iload_n 1, 1) := by decide +kernel
theorem d_Tx_exponent_17 : decode b_Tx_exponent 17 = .ok (.iaload, 1) := by decide +kernel
theorem d_Tx_exponent_18 : decode b_Tx_exponent 18 = .ok (.goto 4, 3) := by decide +kernel
theorem d_Tx_exponent_21 : decode b_Tx_exponent 21 = .ok (.iconst 0, 1) := by decide +kernel
theorem d_Tx_exponent_22 : decode b_Tx_exponent 22 = .ok (.ireturn, 1) := by decide +kernel
theorem d_Tx_wholeNumber_0 : decode b_Tx_wholeNumber 0 = .ok (.aload_n 0, 1) := by decide +kernel
theorem d_Tx_wholeNumber_1 : decode b_Tx_wholeNumber 1 = .ok (.iload_n 1, 1) := by decide +kernel
theorem d_Tx_wholeNumber_2 : decode b_Tx_wholeNumber 2 = .ok (.invokevirtual 77, 3) := by decide +kernel
theorem d_Tx_wholeNumber_5 : decode b_Tx_wholeNumber 5 = .ok (.iconst 3, 1) := by decide +kernel
theorem d_Tx_wholeNumber_6 : decode b_Tx_wholeNumber 6 = .ok (.if_icmp .ne 35, 3) := by decide +kernel
theorem d_Tx_wholeNumber_9 : decode b_Tx_wholeNumber 9 = .ok (.aload_n 0, 1) := by decide +kernel
theorem d_Tx_wholeNumber_10 : decode b_Tx_wholeNumber 10 = .ok (.iload_n 1, 1) := by decide +kernel
theorem d_Tx_wholeNumber_11 : decode b_Tx_wholeNumber 11 = .ok (.invokevirtual 80, 3) := by decide +kernel
theorem d_Tx_wholeNumber_14 : decode b_Tx_wholeNumber 14 = .ok (.ifCond .lt 27, 3) := by decide +kernel
theorem d_Tx_wholeNumber_17 : decode b_Tx_wholeNumber 17 = .ok (.aload_n 0, 1) := by decide +kernel
theorem d_Tx_wholeNumber_18 : decode b_Tx_wholeNumber 18 = .ok (.iload_n 1, 1) := by decide +kernel
theorem d_Tx_wholeNumber_19 : decode b_Tx_wholeNumber 19 = .ok (.invokevirtual 83, 3) := by decide +kernel
theorem d_Tx_wholeNumber_22 : decode b_Tx_wholeNumber 22 = .ok (.ifCond .lt 19, 3) := by decide +kernel
theorem d_Tx_wholeNumber_25 : decode b_Tx_wholeNumber 25 = .ok (.aload_n 0, 1) := by decide +kernel
theorem d_Tx_wholeNumber_26 : decode b_Tx_wholeNumber 26 = .ok (.iload_n 1, 1) := by decide +kernel
theorem d_Tx_wholeNumber_27 : decode b_Tx_wholeNumber 27 = .ok (.invokevirtual 60, 3) := by decide +kernel
theorem d_Tx_wholeNumber_30 : decode b_Tx_wholeNumber 30 = .ok (.aload_n 0, 1) := by decide +kernel
theorem d_Tx_wholeNumber_31 : decode b_Tx_wholeNumber 31 = .ok (.iload_n 1, 1) := by decide +kernel
theorem d_Tx_wholeNumber_32 : decode b_Tx_wholeNumber 32 = .ok (.invokevirtual 83, 3) := by decide +kernel
theorem d_Tx_wholeNumber_35 : decode b_Tx_wholeNumber 35 = .ok (.iadd, 1) := by decide +kernel
theorem d_Tx_wholeNumber_36 : decode b_Tx_wholeNumber 36 = .ok (.bipush 7, 2) := by decide +kernel
theorem d_Tx_wholeNumber_38 : decode b_Tx_wholeNumber 38 = .ok (.if_icmp .le 5, 3) := by decide +kernel
theorem d_Tx_wholeNumber_41 : decode b_Tx_wholeNumber 41 = .ok (.iconst (-1), 1) := by decide +kernel
theorem d_Tx_wholeNumber_42 : decode b_Tx_wholeNumber 42 = .ok (.ireturn, 1) := by decide +kernel
theorem d_Tx_wholeNumber_43 : decode b_Tx_wholeNumber 43 = .ok (.iconst 0, 1) := by decide +kernel
theorem d_Tx_wholeNumber_44 : decode b_Tx_wholeNumber 44 = .ok (.istore_n 2, 1) := by decide +kernel
theorem d_Tx_wholeNumber_45 : decode b_Tx_wholeNumber 45 = .ok (.iconst 0, 1) := by decide +kernel
theorem d_Tx_wholeNumber_46 : decode b_Tx_wholeNumber 46 = .ok (.istore_n 3, 1) := by decide +kernel
theorem d_Tx_wholeNumber_47 : decode b_Tx_wholeNumber 47 = .ok (.iload_n 3, 1) := by decide +kernel
theorem d_Tx_wholeNumber_48 : decode b_Tx_wholeNumber 48 = .ok (.aload_n 0, 1) := by decide +kernel
theorem d_Tx_wholeNumber_49 : decode b_Tx_wholeNumber 49 = .ok (.iload_n 1, 1) := by decide +kernel
theorem d_Tx_wholeNumber_50 : decode b_Tx_wholeNumber 50 = .ok (.invokevirtual 60, 3) := by decide +kernel
theorem d_Tx_wholeNumber_53 : decode b_Tx_wholeNumber 53 = .ok (.aload_n 0, 1) := by decide +kernel
theorem d_Tx_wholeNumber_54 : decode b_Tx_wholeNumber 54 = .ok (.iload_n 1, 1) := by decide +kernel
theorem d_Tx_wholeNumber_55 : decode b_Tx_wholeNumber 55 = .ok (.invokevirtual 83, 3) := by decide +kernel
theorem d_Tx_wholeNumber_58 : decode b_Tx_wholeNumber 58 = .ok (.iadd, 1) := by decide +kernel
theorem d_Tx_wholeNumber_59 : decode b_Tx_wholeNumber 59 = .ok (.if_icmp .ge 21, 3) := by decide +kernel
theorem d_Tx_wholeNumber_62 : decode b_Tx_wholeNumber 62 = .ok (.iload_n 2, 1) := by decide +kernel
theorem d_Tx_wholeNumber_63 : decode b_Tx_wholeNumber 63 = .ok (.bipush 10, 2) := by decide +kernel
theorem d_Tx_wholeNumber_65 : decode b_Tx_wholeNumber 65 = .ok (.imul, 1) := by decide +kernel
theorem d_Tx_wholeNumber_66 : decode b_Tx_wholeNumber 66 = .ok (.aload_n 0, 1) := by decide +kernel
theorem d_Tx_wholeNumber_67 : decode b_Tx_wholeNumber 67 = .ok (.iload_n 1, 1) := by decide +kernel
theorem d_Tx_wholeNumber_68 : decode b_Tx_wholeNumber 68 = .ok (.iload_n 3, 1) := by decide +kernel
theorem d_Tx_wholeNumber_69 : decode b_Tx_wholeNumber 69 = .ok (.invokevirtual 86, 3) := by decide +kernel
theorem d_Tx_wholeNumber_72 : decode b_Tx_wholeNumber 72 = .ok (.iadd, 1) := by decide +kernel
theorem d_Tx_wholeNumber_73 : decode b_Tx_wholeNumber 73 = .ok (.istore_n 2, 1) := by decide +kernel
theorem d_Tx_wholeNumber_74 : decode b_Tx_wholeNumber 74 = .ok (.iinc 3 1, 3) := by decide +kernel
theorem d_Tx_wholeNumber_77 : decode b_Tx_wholeNumber 77 = .ok (.goto (-30), 3) := by decide +kernel
theorem d_Tx_wholeNumber_80 : decode b_Tx_wholeNumber 80 = .ok (.iload_n 2, 1) := by decide +kernel
theorem d_Tx_wholeNumber_81 : decode b_Tx_wholeNumber 81 = .ok (.ldc 90, 2) := by decide +kernel
theorem d_Tx_wholeNumber_83 : decode b_Tx_wholeNumber 83 = .ok (.if_icmp .le 7, 3) := by decide +kernel
theorem d_Tx_wholeNumber_86 : decode b_Tx_wholeNumber 86 = .ok (.iconst (-1), 1) := by decide +kernel
theorem d_Tx_wholeNumber_87 : decode b_Tx_wholeNumber 87 = .ok (.goto 4, 3) := by decide +kernel
theorem d_Tx_wholeNumber_90 : decode b_Tx_wholeNumber 90 = .ok (.iload_n 2, 1) := by decide +kernel
theorem d_Tx_wholeNumber_91 : decode b_Tx_wholeNumber 91 = .ok (.ireturn, 1) := by decide +kernel
theorem d_Tx_parent_0 : decode b_Tx_parent 0 = .ok (.iload_n 1, 1) := by decide +kernel
theorem d_Tx_parent_1 : decode b_Tx_parent 1 = .ok (.ifCond .lt 20, 3) := by decide +kernel
theorem d_Tx_parent_4 : decode b_Tx_parent 4 = .ok (.iload_n 1, 1) := by decide +kernel
theorem d_Tx_parent_5 : decode b_Tx_parent 5 = .ok (.aload_n 0, 1) := by decide +kernel
theorem d_Tx_parent_6 : decode b_Tx_parent 6 = .ok (.getfield 43, 3) := by decide +kernel
theorem d_Tx_parent_9 : decode b_Tx_parent 9 = .ok (.if_icmp .ge 12, 3) := by decide +kernel
theorem d_Tx_parent_12 : decode b_Tx_parent 12 = .ok (.aload_n 0, 1) := by decide +kernel
theorem d_Tx_parent_13 : decode b_Tx_parent 13 = .ok (.getfield 21, 3) := by decide +kernel
theorem d_Tx_parent_16 : decode b_Tx_parent 16 = .ok (.iload_n 1, 1) := by decide +kernel
theorem d_Tx_parent_17 : decode b_Tx_parent 17 = .ok (.iaload, 1) := by decide +kernel
theorem d_Tx_parent_18 : decode b_Tx_parent 18 = .ok (.goto 4, 3) := by decide +kernel
theorem d_Tx_parent_21 : decode b_Tx_parent 21 = .ok (.iconst (-1), 1) := by decide +kernel
theorem d_Tx_parent_22 : decode b_Tx_parent 22 = .ok (.ireturn, 1) := by decide +kernel
theorem d_Tx_has_0 : decode b_Tx_has 0 = .ok (.iload_n 1, 1) := by decide +kernel
theorem d_Tx_has_1 : decode b_Tx_has 1 = .ok (.ifCond .lt 15, 3) := by decide +kernel
theorem d_Tx_has_4 : decode b_Tx_has 4 = .ok (.iload_n 1, 1) := by decide +kernel
theorem d_Tx_has_5 : decode b_Tx_has 5 = .ok (.aload_n 0, 1) := by decide +kernel
theorem d_Tx_has_6 : decode b_Tx_has 6 = .ok (.getfield 43, 3) := by decide +kernel
theorem d_Tx_has_9 : decode b_Tx_has 9 = .ok (.if_icmp .ge 7, 3) := by decide +kernel
theorem d_Tx_has_12 : decode b_Tx_has 12 = .ok (.iconst 1, 1) := by decide +kernel
theorem d_Tx_has_13 : decode b_Tx_has 13 = .ok (.goto 4, 3) := by decide +kernel
theorem d_Tx_has_16 : decode b_Tx_has 16 = .ok (.iconst 0, 1) := by decide +kernel
theorem d_Tx_has_17 : decode b_Tx_has 17 = .ok (.ireturn, 1) := by decide +kernel
