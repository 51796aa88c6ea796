theorem d_MM_thrown_0 : decode b_MM_thrown 0 = .ok (.aload_n 0, 1) := by decide +kernel
theorem d_MM_thrown_1 : decode b_MM_thrown 1 = .ok (.getfield 230, 3) := by decide +kernel
theorem d_MM_thrown_4 : decode b_MM_thrown 4 = .ok (.ireturn, 1) := by decide +kernel
theorem d_MM_fails_0 : decode b_MM_fails 0 = .ok (.iload_n 1, 1) := by decide +kernel
theorem d_MM_fails_1 : decode b_MM_fails 1 = .ok (.ifCond .eq 15, 3) := by decide +kernel
theorem d_MM_fails_4 : decode b_MM_fails 4 = .ok (.aload_n 0, 1) := by decide +kernel
theorem d_MM_fails_5 : decode b_MM_fails 5 = .ok (.getfield 230, 3) := by decide +kernel
theorem d_MM_fails_8 : decode b_MM_fails 8 = .ok (.ifCond .ne 8, 3) := by decide +kernel
theorem d_MM_fails_11 : decode b_MM_fails 11 = .ok (.aload_n 0, 1) := by decide +kernel
theorem d_MM_fails_12 : decode b_MM_fails 12 = .ok (.iload_n 2, 1) := by decide +kernel
theorem d_MM_fails_13 : decode b_MM_fails 13 = .ok (.putfield 230, 3) := by decide +kernel
theorem d_MM_fails_16 : decode b_MM_fails 16 = .ok (.aload_n 0, 1) := by decide +kernel
theorem d_MM_fails_17 : decode b_MM_fails 17 = .ok (.getfield 230, 3) := by decide +kernel
theorem d_MM_fails_20 : decode b_MM_fails 20 = .ok (.ifCond .eq 7, 3) := by decide +kernel
theorem d_MM_fails_23 : decode b_MM_fails 23 = .ok (.iconst 1, 1) := by decide +kernel
theorem d_MM_fails_24 : decode b_MM_fails 24 = .ok (.goto 4, 3) := by decide +kernel
theorem d_MM_fails_27 : decode b_MM_fails 27 = .ok (.iconst 0, 1) := by decide +kernel
theorem d_MM_fails_28 : decode b_MM_fails 28 = .ok (.ireturn, 1) := by decide +kernel
theorem d_MM_in_0 : decode b_MM_in 0 = .ok (.iload_n 0, 1) := by decide +kernel
theorem d_MM_in_1 : decode b_MM_in 1 = .ok (.iload_n 1, 1) := by decide +kernel
theorem d_MM_in_2 : decode b_MM_in 2 = .ok (.if_icmp .lt 12, 3) := by decide +kernel
theorem d_MM_in_5 : decode b_MM_in 5 = .ok (.iload_n 0, 1) := by decide +kernel
theorem d_MM_in_6 : decode b_MM_in 6 = .ok (.iload_n 2, 1) := by decide +kernel
theorem d_MM_in_7 : decode b_MM_in 7 = .ok (.if_icmp .gt 7, 3) := by decide +kernel
theorem d_MM_in_10 : decode b_MM_in 10 = .ok (.iconst 1, 1) := by decide +kernel
theorem d_MM_in_11 : decode b_MM_in 11 = .ok (.goto 4, 3) := by decide +kernel
theorem d_MM_in_14 : decode b_MM_in 14 = .ok (.iconst 0, 1) := by decide +kernel
theorem d_MM_in_15 : decode b_MM_in 15 = .ok (.ireturn, 1) := by decide +kernel
theorem d_MM_feed_0 : decode b_MM_feed 0 = .ok (.aload_n 0, 1) := by decide +kernel
theorem d_MM_feed_1 : decode b_MM_feed 1 = .ok (.iconst 0, 1) := by decide +kernel
theorem d_MM_feed_2 : decode b_MM_feed 2 = .ok (.putfield 230, 3) := by decide +kernel
theorem d_MM_feed_5 : decode b_MM_feed 5 = .ok (.aload_n 0, 1) := by decide +kernel
theorem d_MM_feed_6 : decode b_MM_feed 6 = .ok (.aload_n 0, 1) := by decide +kernel
theorem d_MM_feed_7 : decode b_MM_feed 7 = .ok (.getfield 233, 3) := by decide +kernel
theorem d_MM_feed_10 : decode b_MM_feed 10 = .ok (.bipush 20, 2) := by decide +kernel
theorem d_MM_feed_12 : decode b_MM_feed 12 = .ok (.iadd, 1) := by decide +kernel
theorem d_MM_feed_13 : decode b_MM_feed 13 = .ok (.sipush 8200, 3) := by decide +kernel
theorem d_MM_feed_16 : decode b_MM_feed 16 = .ok (.if_icmp .le 7, 3) := by decide +kernel
theorem d_MM_feed_19 : decode b_MM_feed 19 = .ok (.iconst 1, 1) := by decide +kernel
theorem d_MM_feed_20 : decode b_MM_feed 20 = .ok (.goto 4, 3) := by decide +kernel
theorem d_MM_feed_23 : decode b_MM_feed 23 = .ok (.iconst 0, 1) := by decide +kernel
theorem d_MM_feed_24 : decode b_MM_feed 24 = .ok (.iconst 1, 1) := by decide +kernel
theorem d_MM_feed_25 : decode b_MM_feed 25 = .ok (.invokevirtual 236, 3) := by decide +kernel
theorem d_MM_feed_28 : decode b_MM_feed 28 = .ok (.ifCond .eq 5, 3) := by decide +kernel
theorem d_MM_feed_31 : decode b_MM_feed 31 = .ok (.iconst 0, 1) := by decide +kernel
theorem d_MM_feed_32 : decode b_MM_feed 32 = .ok (.ireturn, 1) := by decide +kernel
theorem d_MM_feed_33 : decode b_MM_feed 33 = .ok (.iconst 0, 1) := by decide +kernel
theorem d_MM_feed_34 : decode b_MM_feed 34 = .ok (.istore 6, 2) := by decide +kernel
theorem d_MM_feed_36 : decode b_MM_feed 36 = .ok (.iload 6, 2) := by decide +kernel
theorem d_MM_feed_38 : decode b_MM_feed 38 = .ok (.bipush 20, 2) := by decide +kernel
theorem d_MM_feed_40 : decode b_MM_feed 40 = .ok (.if_icmp .ge 90, 3) := by decide +kernel
theorem d_MM_feed_43 : decode b_MM_feed 43 = .ok (.iload 6, 2) := by decide +kernel
theorem d_MM_feed_45 : decode b_MM_feed 45 = .ok (.iconst 4, 1) := by decide +kernel
theorem d_MM_feed_46 : decode b_MM_feed 46 = .ok (.if_icmp .ge 7, 3) := by decide +kernel
theorem d_MM_feed_49 : decode b_MM_feed 49 = .ok (.iload_n 1, 1) := by decide +kernel
theorem d_MM_feed_50 : decode b_MM_feed 50 = .ok (.goto 39, 3) := by decide +kernel
theorem d_MM_feed_53 : decode b_MM_feed 53 = .ok (.iload 6, 2) := by decide +kernel
theorem d_MM_feed_55 : decode b_MM_feed 55 = .ok (.bipush 8, 2) := by decide +kernel
theorem d_MM_feed_57 : decode b_MM_feed 57 = .ok (.if_icmp .ge 7, 3) := by decide +kernel
theorem d_MM_feed_60 : decode b_MM_feed 60 = .ok (.iload_n 2, 1) := by decide +kernel
theorem d_MM_feed_61 : decode b_MM_feed 61 = .ok (.goto 28, 3) := by decide +kernel
theorem d_MM_feed_64 : decode b_MM_feed 64 = .ok (.iload 6, 2) := by decide +kernel
theorem d_MM_feed_66 : decode b_MM_feed 66 = .ok (.bipush 12, 2) := by decide +kernel
theorem d_MM_feed_68 : decode b_MM_feed 68 = .ok (.if_icmp .ge 7, 3) := by decide +kernel
theorem d_MM_feed_71 : decode b_MM_feed 71 = .ok (.iload_n 3, 1) := by decide +kernel
theorem d_MM_feed_72 : decode b_MM_feed 72 = .ok (.goto 17, 3) := by decide +kernel
theorem d_MM_feed_75 : decode b_MM_feed 75 = .ok (.iload 6, 2) := by decide +kernel
theorem d_MM_feed_77 : decode b_MM_feed 77 = .ok (.bipush 16, 2) := by decide +kernel
theorem d_MM_feed_79 : decode b_MM_feed 79 = .ok (.if_icmp .ge 8, 3) := by decide +kernel
theorem d_MM_feed_82 : decode b_MM_feed 82 = .ok (.iload 4, 2) := by decide +kernel
theorem d_MM_feed_84 : decode b_MM_feed 84 = .ok (.goto 5, 3) := by decide +kernel
theorem d_MM_feed_87 : decode b_MM_feed 87 = .ok (.iload 5, 2) := by decide +kernel
theorem d_MM_feed_89 : decode b_MM_feed 89 = .ok (.istore 7, 2) := by decide +kernel
theorem d_MM_feed_91 : decode b_MM_feed 91 = .ok (.aload_n 0, 1) := by decide +kernel
theorem d_MM_feed_92 : decode b_MM_feed 92 = .ok (.getfield 13, 3) := by decide +kernel
theorem d_MM_feed_95 : decode b_MM_feed 95 = .ok (.aload_n 0, 1) := by decide +kernel
theorem d_MM_feed_96 : decode b_MM_feed 96 = .ok (.dup, 1) := by decide +kernel
theorem d_MM_feed_97 : decode b_MM_feed 97 = .ok (.getfield 233, 3) := by decide +kernel
theorem d_MM_feed_100 : decode b_MM_feed 100 = .ok (.dup_x1, 1) := by decide +kernel
theorem d_MM_feed_101 : decode b_MM_feed 101 = .ok (.iconst 1, 1) := by decide +kernel
theorem d_MM_feed_102 : decode b_MM_feed 102 = .ok (.iadd, 1) := by decide +kernel
theorem d_MM_feed_103 : decode b_MM_feed 103 = .ok (.putfield 233, 3) := by decide +kernel
theorem d_MM_feed_106 : decode b_MM_feed 106 = .ok (.iload 7, 2) := by decide +kernel
theorem d_MM_feed_108 : decode b_MM_feed 108 = .ok (.bipush 24, 2) := by decide +kernel
theorem d_MM_feed_110 : decode b_MM_feed 110 = .ok (.bipush 8, 2) := by decide +kernel
theorem d_MM_feed_112 : decode b_MM_feed 112 = .ok (.iload 6, 2) := by decide +kernel
theorem d_MM_feed_114 : decode b_MM_feed 114 = .ok (.iconst 3, 1) := by decide +kernel
theorem d_MM_feed_115 : decode b_MM_feed 115 = .ok (.iand, 1) := by decide +kernel
theorem d_MM_feed_116 : decode b_MM_feed 116 = .ok (.imul, 1) := by decide +kernel
theorem d_MM_feed_117 : decode b_MM_feed 117 = .ok (.isub, 1) := by decide +kernel
theorem d_MM_feed_118 : decode b_MM_feed 118 = .ok (.iushr, 1) := by decide +kernel
theorem d_MM_feed_119 : decode b_MM_feed 119 = .ok (.sipush 255, 3) := by decide +kernel
theorem d_MM_feed_122 : decode b_MM_feed 122 = .ok (.iand, 1) := by decide +kernel
theorem d_MM_feed_123 : decode b_MM_feed 123 = .ok (.iastore, 1) := by decide +kernel
theorem d_MM_feed_124 : decode b_MM_feed 124 = .ok (.iinc 6 1, 3) := by decide +kernel
theorem d_MM_feed_127 : decode b_MM_feed 127 = .ok (.goto (-91), 3) := by decide +kernel
theorem d_MM_feed_130 : decode b_MM_feed 130 = .ok (.aload_n 0, 1) := by decide +kernel
theorem d_MM_feed_131 : decode b_MM_feed 131 = .ok (.getfield 233, 3) := by decide +kernel
theorem d_MM_feed_134 : decode b_MM_feed 134 = .ok (.ireturn, 1) := by decide +kernel
theorem d_MT_c_0 : decode b_MT_c 0 = .ok (.iload_n 1, 1) := by decide +kernel
theorem d_MT_c_1 : decode b_MT_c 1 = .ok (.aload_n 0, 1) := by decide +kernel
theorem d_MT_c_2 : decode b_MT_c 2 = .ok (.getfield 59, 3) := by decide +kernel
theorem d_MT_c_5 : decode b_MT_c 5 = .ok (.if_icmp .ge 12, 3) := by decide +kernel
theorem d_MT_c_8 : decode b_MT_c 8 = .ok (.aload_n 0, 1) := by decide +kernel
theorem d_MT_c_9 : decode b_MT_c 9 = .ok (.getfield 9, 3) := by decide +kernel
theorem d_MT_c_12 : decode b_MT_c 12 = .ok (.iload_n 1, 1) := by decide +kernel
theorem d_MT_c_13 : decode b_MT_c 13 = .ok (.iaload, 1) := by decide +kernel
theorem d_MT_c_14 : decode b_MT_c 14 = .ok (.goto 4, 3) := by decide +kernel
theorem d_MT_c_17 : decode b_MT_c 17 = .ok (.iconst (-1), 1) := by decide +kernel
theorem d_MT_c_18 : decode b_MT_c 18 = .ok (.ireturn, 1) := by decide +kernel
theorem d_MT_blanks_0 : decode b_MT_blanks 0 = .ok (.aload_n 0, 1) := by decide +kernel
theorem d_MT_blanks_1 : decode b_MT_blanks 1 = .ok (.aload_n 0, 1) := by decide +kernel
theorem d_MT_blanks_2 : decode b_MT_blanks 2 = .ok (.getfield 62, 3) := by decide +kernel
theorem d_MT_blanks_5 : decode b_MT_blanks 5 = .ok (.invokevirtual 85, 3) := by decide +kernel
theorem d_MT_blanks_8 : decode b_MT_blanks 8 = .ok (.bipush 32, 2) := by decide +kernel
theorem d_MT_blanks_10 : decode b_MT_blanks 10 = .ok (.if_icmp .eq 42, 3) := by decide +kernel
theorem d_MT_blanks_13 : decode b_MT_blanks 13 = .ok (.aload_n 0, 1) := by decide +kernel
theorem d_MT_blanks_14 : decode b_MT_blanks 14 = .ok (.aload_n 0, 1) := by decide +kernel
theorem d_MT_blanks_15 : decode b_MT_blanks 15 = .ok (.getfield 62, 3) := by decide +kernel
theorem d_MT_blanks_18 : decode b_MT_blanks 18 = .ok (.invokevirtual 85, 3) := by decide +kernel
theorem d_MT_blanks_21 : decode b_MT_blanks 21 = .ok (.bipush 9, 2) := by decide +kernel
theorem d_MT_blanks_23 : decode b_MT_blanks 23 = .ok (.if_icmp .eq 29, 3) := by decide +kernel
theorem d_MT_blanks_26 : decode b_MT_blanks 26 = .ok (.aload_n 0, 1) := by decide +kernel
theorem d_MT_blanks_27 : decode b_MT_blanks 27 = .ok (.aload_n 0, 1) := by decide +kernel
theorem d_MT_blanks_28 : decode b_MT_blanks 28 = .ok (.getfield 62, 3) := by decide +kernel
theorem d_MT_blanks_31 : decode b_MT_blanks 31 = .ok (.invokevirtual 85, 3) := by decide +kernel
theorem d_MT_blanks_34 : decode b_MT_blanks 34 = .ok (.bipush 10, 2) := by decide +kernel
theorem d_MT_blanks_36 : decode b_MT_blanks 36 = .ok (.if_icmp .eq 16, 3) := by decide +kernel
theorem d_MT_blanks_39 : decode b_MT_blanks 39 = .ok (.aload_n 0, 1) := by decide +kernel
theorem d_MT_blanks_40 : decode b_MT_blanks 40 = .ok (.aload_n 0, 1) := by decide +kernel
theorem d_MT_blanks_41 : decode b_MT_blanks 41 = .ok (.getfield 62, 3) := by decide +kernel
theorem d_MT_blanks_44 : decode b_MT_blanks 44 = .ok (.invokevirtual 85, 3) := by decide +kernel
theorem d_MT_blanks_47 : decode b_MT_blanks 47 = .ok (.bipush 13, 2) := by decide +kernel
theorem d_MT_blanks_49 : decode b_MT_blanks 49 = .ok (.if_icmp .ne 16, 3) := by decide +kernel
theorem d_MT_blanks_52 : decode b_MT_blanks 52 = .ok (.aload_n 0, 1) := by decide +kernel
theorem d_MT_blanks_53 : decode b_MT_blanks 53 = .ok (.dup, 1) := by decide +kernel
theorem d_MT_blanks_54 : decode b_MT_blanks 54 = .ok (.getfield 62, 3) := by decide +kernel
theorem d_MT_blanks_57 : decode b_MT_blanks 57 = .ok (.iconst 1, 1) := by decide +kernel
theorem d_MT_blanks_58 : decode b_MT_blanks 58 = .ok (.iadd, 1) := by decide +kernel
theorem d_MT_blanks_59 : decode b_MT_blanks 59 = .ok (.putfield 62, 3) := by decide +kernel
theorem d_MT_blanks_62 : decode b_MT_blanks 62 = .ok (.goto (-62), 3) := by decide +kernel
theorem d_MT_blanks_65 : decode b_MT_blanks 65 = .ok (.return_, 1) := by decide +kernel
theorem d_MT_bad_0 : decode b_MT_bad 0 = .ok (.aload_n 0, 1) := by decide +kernel
theorem d_MT_bad_1 : decode b_MT_bad 1 = .ok (.getfield 55, 3) := by decide +kernel
theorem d_MT_bad_4 : decode b_MT_bad 4 = .ok (.ifCond .ge 8, 3) := by decide +kernel
theorem d_MT_bad_7 : decode b_MT_bad 7 = .ok (.aload_n 0, 1) := by decide +kernel
theorem d_MT_bad_8 : decode b_MT_bad 8 = .ok (.iload_n 1, 1) := by decide +kernel
theorem d_MT_bad_9 : decode b_MT_bad 9 = .ok (.putfield 55, 3) := by decide +kernel
theorem d_MT_bad_12 : decode b_MT_bad 12 = .ok (.iconst 0, 1) := by decide +kernel
theorem d_MT_bad_13 : decode b_MT_bad 13 = .ok (.ireturn, 1) := by decide +kernel
theorem d_MT_fresh_0 : decode b_MT_fresh 0 = .ok (.aload_n 0, 1) := by decide +kernel
theorem d_MT_fresh_1 : decode b_MT_fresh 1 = .ok (.dup, 1) := by decide +kernel
theorem d_MT_fresh_2 : decode b_MT_fresh 2 = .ok (.getfield 65, 3) := by decide +kernel
theorem d_MT_fresh_5 : decode b_MT_fresh 5 = .ok (.dup_x1, 1) := by decide +kernel
theorem d_MT_fresh_6 : decode b_MT_fresh 6 = .ok (.iconst 1, 1) := by decide +kernel
theorem d_MT_fresh_7 : decode b_MT_fresh 7 = .ok (.iadd, 1) := by decide +kernel
theorem d_MT_fresh_8 : decode b_MT_fresh 8 = .ok (.putfield 65, 3) := by decide +kernel
theorem d_MT_fresh_11 : decode b_MT_fresh 11 = .ok (.istore_n 3, 1) := by decide +kernel
theorem d_MT_fresh_12 : decode b_MT_fresh 12 = .ok (.aload_n 0, 1) := by decide +kernel
theorem d_MT_fresh_13 : decode b_MT_fresh 13 = .ok (.getfield 15, 3) := by decide +kernel
theorem d_MT_fresh_16 : decode b_MT_fresh 16 = .ok (.iload_n 3, 1) := by decide +kernel
theorem d_MT_fresh_17 : decode b_MT_fresh 17 = .ok (.iload_n 2, 1) := by decide +kernel
theorem d_MT_fresh_18 : decode b_MT_fresh 18 = .ok (.iastore, 1) := by decide +kernel
theorem d_MT_fresh_19 : decode b_MT_fresh 19 = .ok (.aload_n 0, 1) := by decide +kernel
theorem d_MT_fresh_20 : decode b_MT_fresh 20 = .ok (.getfield 18, 3) := by decide +kernel
theorem d_MT_fresh_23 : decode b_MT_fresh 23 = .ok (.iload_n 3, 1) := by decide +kernel
theorem d_MT_fresh_24 : decode b_MT_fresh 24 = .ok (.aload_n 0, 1) := by decide +kernel
theorem d_MT_fresh_25 : decode b_MT_fresh 25 = .ok (.getfield 62, 3) := by decide +kernel
theorem d_MT_fresh_28 : decode b_MT_fresh 28 = .ok (.iastore, 1) := by decide +kernel
theorem d_MT_fresh_29 : decode b_MT_fresh 29 = .ok (.aload_n 0, 1) := by decide +kernel
theorem d_MT_fresh_30 : decode b_MT_fresh 30 = .ok (.getfield 24, 3) := by decide +kernel
theorem d_MT_fresh_33 : decode b_MT_fresh 33 = .ok (.iload_n 3, 1) := by decide +kernel
theorem d_MT_fresh_34 : decode b_MT_fresh 34 = .ok (.iload_n 1, 1) := by decide +kernel
theorem d_MT_fresh_35 : decode b_MT_fresh 35 = .ok (.iastore, 1) := by decide +kernel
theorem d_MT_fresh_36 : decode b_MT_fresh 36 = .ok (.aload_n 0, 1) := by decide +kernel
theorem d_MT_fresh_37 : decode b_MT_fresh 37 = .ok (.getfield 21, 3) := by decide +kernel
theorem d_MT_fresh_40 : decode b_MT_fresh 40 = .ok (.iload_n 3, 1) := by decide +kernel
theorem d_MT_fresh_41 : decode b_MT_fresh 41 = .ok (.iconst 0, 1) := by decide +kernel
theorem d_MT_fresh_42 : decode b_MT_fresh 42 = .ok (.iastore, 1) := by decide +kernel
theorem d_MT_fresh_43 : decode b_MT_fresh 43 = .ok (.aload_n 0, 1) := by decide +kernel
theorem d_MT_fresh_44 : decode b_MT_fresh 44 = .ok (.getfield 27, 3) := by decide +kernel
theorem d_MT_fresh_47 : decode b_MT_fresh 47 = .ok (.iload_n 3, 1) := by decide +kernel
theorem d_MT_fresh_48 : decode b_MT_fresh 48 = .ok (.iconst 0, 1) := by decide +kernel
theorem d_MT_fresh_49 : decode b_MT_fresh 49 = .ok (.iastore, 1) := by decide +kernel
theorem d_MT_fresh_50 : decode b_MT_fresh 50 = .ok (.aload_n 0, 1) := by decide +kernel
theorem d_MT_fresh_51 : decode b_MT_fresh 51 = .ok (.getfield 30, 3) := by decide +kernel
theorem d_MT_fresh_54 : decode b_MT_fresh 54 = .ok (.iload_n 3, 1) := by decide +kernel
theorem d_MT_fresh_55 : decode b_MT_fresh 55 = .ok (.iconst (-1), 1) := by decide +kernel
theorem d_MT_fresh_56 : decode b_MT_fresh 56 = .ok (.iastore, 1) := by decide +kernel
theorem d_MT_fresh_57 : decode b_MT_fresh 57 = .ok (.aload_n 0, 1) := by decide +kernel
theorem d_MT_fresh_58 : decode b_MT_fresh 58 = .ok (.getfield 33, 3) := by decide +kernel
theorem d_MT_fresh_61 : decode b_MT_fresh 61 = .ok (.iload_n 3, 1) := by decide +kernel
theorem d_MT_fresh_62 : decode b_MT_fresh 62 = .ok (.iconst (-1), 1) := by decide +kernel
theorem d_MT_fresh_63 : decode b_MT_fresh 63 = .ok (.iastore, 1) := by decide +kernel
theorem d_MT_fresh_64 : decode b_MT_fresh 64 = .ok (.aload_n 0, 1) := by decide +kernel
theorem d_MT_fresh_65 : decode b_MT_fresh 65 = .ok (.getfield 36, 3) := by decide +kernel
theorem d_MT_fresh_68 : decode b_MT_fresh 68 = .ok (.iload_n 3, 1) := by decide +kernel
theorem d_MT_fresh_69 : decode b_MT_fresh 69 = .ok (.iconst (-1), 1) := by decide +kernel
theorem d_MT_fresh_70 : decode b_MT_fresh 70 = .ok (.iastore, 1) := by decide +kernel
theorem d_MT_fresh_71 : decode b_MT_fresh 71 = .ok (.iload_n 3, 1) := by decide +kernel
theorem d_MT_fresh_72 : decode b_MT_fresh 72 = .ok (.ireturn, 1) := by decide +kernel
theorem d_MT_word_0 : decode b_MT_word 0 = .ok (.aload_n 0, 1) := by decide +kernel
theorem d_MT_word_1 : decode b_MT_word 1 = .ok (.iload_n 2, 1) := by decide +kernel
theorem d_MT_word_2 : decode b_MT_word 2 = .ok (.iload_n 3, 1) := by decide +kernel
theorem d_MT_word_3 : decode b_MT_word 3 = .ok (.invokevirtual 89, 3) := by decide +kernel
theorem d_MT_word_6 : decode b_MT_word 6 = .ok (.pop, 1) := by decide +kernel
theorem d_MT_word_7 : decode b_MT_word 7 = .ok (.iconst 0, 1) := by decide +kernel
theorem d_MT_word_8 : decode b_MT_word 8 = .ok (.istore 4, 2) := by decide +kernel
theorem d_MT_word_10 : decode b_MT_word 10 = .ok (.iload 4, 2) := by decide +kernel
theorem d_MT_word_12 : decode b_MT_word 12 = .ok (.aload_n 1, 1) := by decide +kernel
theorem d_MT_word_13 : decode b_MT_word 13 = .ok (.invokevirtual 93, 3) := by decide +kernel
theorem d_MT_word_16 : decode b_MT_word 16 = .ok (.if_icmp .ge 45, 3) := by decide +kernel
theorem d_MT_word_19 : decode b_MT_word 19 = .ok (.aload_n 0, 1) := by decide +kernel
theorem d_MT_word_20 : decode b_MT_word 20 = .ok (.aload_n 0, 1) := by decide +kernel
theorem d_MT_word_21 : decode b_MT_word 21 = .ok (.getfield 62, 3) := by decide +kernel
theorem d_MT_word_24 : decode b_MT_word 24 = .ok (.invokevirtual 85, 3) := by decide +kernel
theorem d_MT_word_27 : decode b_MT_word 27 = .ok (.aload_n 1, 1) := by decide +kernel
theorem d_MT_word_28 : decode b_MT_word 28 = .ok (.iload 4, 2) := by decide +kernel
theorem d_MT_word_30 : decode b_MT_word 30 = .ok (.invokevirtual 99, 3) := by decide +kernel
theorem d_MT_word_33 : decode b_MT_word 33 = .ok (.if_icmp .eq 12, 3) := by decide +kernel
theorem d_MT_word_36 : decode b_MT_word 36 = .ok (.aload_n 0, 1) := by decide +kernel
theorem d_MT_word_37 : decode b_MT_word 37 = .ok (.aload_n 0, 1) := by decide +kernel
theorem d_MT_word_38 : decode b_MT_word 38 = .ok (.getfield 62, 3) := by decide +kernel
theorem d_MT_word_41 : decode b_MT_word 41 = .ok (.invokevirtual 81, 3) := by decide +kernel
theorem d_MT_word_44 : decode b_MT_word 44 = .ok (.ireturn, 1) := by decide +kernel
theorem d_MT_word_45 : decode b_MT_word 45 = .ok (.aload_n 0, 1) := by decide +kernel
theorem d_MT_word_46 : decode b_MT_word 46 = .ok (.dup, 1) := by decide +kernel
theorem d_MT_word_47 : decode b_MT_word 47 = .ok (.getfield 62, 3) := by decide +kernel
theorem d_MT_word_50 : decode b_MT_word 50 = .ok (.iconst 1, 1) := by decide +kernel
theorem d_MT_word_51 : decode b_MT_word 51 = .ok (.iadd, 1) := by decide +kernel
theorem d_MT_word_52 : decode b_MT_word 52 = .ok (.putfield 62, 3) := by decide +kernel
theorem d_MT_word_55 : decode b_MT_word 55 = .ok (.iinc 4 1, 3) := by decide +kernel
theorem d_MT_word_58 : decode b_MT_word 58 = .ok (.goto (-48), 3) := by decide +kernel
theorem d_MT_word_61 : decode b_MT_word 61 = .ok (.iconst 1, 1) := by decide +kernel
theorem d_MT_word_62 : decode b_MT_word 62 = .ok (.ireturn, 1) := by decide +kernel
theorem d_MT_put_0 : decode b_MT_put 0 = .ok (.aload_n 0, 1) := by decide +kernel
theorem d_MT_put_1 : decode b_MT_put 1 = .ok (.getfield 68, 3) := by decide +kernel
theorem d_MT_put_4 : decode b_MT_put 4 = .ok (.sipush 4000, 3) := by decide +kernel
theorem d_MT_put_7 : decode b_MT_put 7 = .ok (.if_icmp .ne 9, 3) := by decide +kernel
theorem d_MT_put_10 : decode b_MT_put 10 = .ok (.aload_n 0, 1) := by decide +kernel
theorem d_MT_put_11 : decode b_MT_put 11 = .ok (.iload_n 2, 1) := by decide +kernel
theorem d_MT_put_12 : decode b_MT_put 12 = .ok (.invokevirtual 81, 3) := by decide +kernel
theorem d_MT_put_15 : decode b_MT_put 15 = .ok (.ireturn, 1) := by decide +kernel
theorem d_MT_put_16 : decode b_MT_put 16 = .ok (.aload_n 0, 1) := by decide +kernel
theorem d_MT_put_17 : decode b_MT_put 17 = .ok (.getfield 42, 3) := by decide +kernel
theorem d_MT_put_20 : decode b_MT_put 20 = .ok (.aload_n 0, 1) := by decide +kernel
theorem d_MT_put_21 : decode b_MT_put 21 = .ok (.dup, 1) := by decide +kernel
theorem d_MT_put_22 : decode b_MT_put 22 = .ok (.getfield 68, 3) := by decide +kernel
theorem d_MT_put_25 : decode b_MT_put 25 = .ok (.dup_x1, 1) := by decide +kernel
theorem d_MT_put_26 : decode b_MT_put 26 = .ok (.iconst 1, 1) := by decide +kernel
theorem d_MT_put_27 : decode b_MT_put 27 = .ok (.iadd, 1) := by decide +kernel
theorem d_MT_put_28 : decode b_MT_put 28 = .ok (.putfield 68, 3) := by decide +kernel
theorem d_MT_put_31 : decode b_MT_put 31 = .ok (.iload_n 1, 1) := by decide +kernel
theorem d_MT_put_32 : decode b_MT_put 32 = .ok (.iastore, 1) := by decide +kernel
theorem d_MT_put_33 : decode b_MT_put 33 = .ok (.iconst 1, 1) := by decide +kernel
theorem d_MT_put_34 : decode b_MT_put 34 = .ok (.ireturn, 1) := by decide +kernel
theorem d_MT_hex_0 : decode b_MT_hex 0 = .ok (.iload_n 0, 1) := by decide +kernel
theorem d_MT_hex_1 : decode b_MT_hex 1 = .ok (.bipush 48, 2) := by decide +kernel
theorem d_MT_hex_3 : decode b_MT_hex 3 = .ok (.bipush 57, 2) := by decide +kernel
theorem d_MT_hex_5 : decode b_MT_hex 5 = .ok (.invokestatic 103, 3) := by decide +kernel
theorem d_MT_hex_8 : decode b_MT_hex 8 = .ok (.ifCond .eq 10, 3) := by decide +kernel
theorem d_MT_hex_11 : decode b_MT_hex 11 = .ok (.iload_n 0, 1) := by decide +kernel
theorem d_MT_hex_12 : decode b_MT_hex 12 = .ok (.bipush 48, 2) := by decide +kernel
theorem d_MT_hex_14 : decode b_MT_hex 14 = .ok (.isub, 1) := by decide +kernel
theorem d_MT_hex_15 : decode b_MT_hex 15 = .ok (.goto 31, 3) := by decide +kernel
theorem d_MT_hex_18 : decode b_MT_hex 18 = .ok (.iload_n 0, 1) := by decide +kernel
theorem d_MT_hex_19 : decode b_MT_hex 19 = .ok (.bipush 32, 2) := by decide +kernel
theorem d_MT_hex_21 : decode b_MT_hex 21 = .ok (.ior, 1) := by decide +kernel
theorem d_MT_hex_22 : decode b_MT_hex 22 = .ok (.bipush 97, 2) := by decide +kernel
theorem d_MT_hex_24 : decode b_MT_hex 24 = .ok (.bipush 102, 2) := by decide +kernel
theorem d_MT_hex_26 : decode b_MT_hex 26 = .ok (.invokestatic 103, 3) := by decide +kernel
theorem d_MT_hex_29 : decode b_MT_hex 29 = .ok (.ifCond .eq 16, 3) := by decide +kernel
theorem d_MT_hex_32 : decode b_MT_hex 32 = .ok (.iload_n 0, 1) := by decide +kernel
theorem d_MT_hex_33 : decode b_MT_hex 33 = .ok (.bipush 32, 2) := by decide +kernel
theorem d_MT_hex_35 : decode b_MT_hex 35 = .ok (.ior, 1) := by decide +kernel
theorem d_MT_hex_36 : decode b_MT_hex 36 = .ok (.bipush 97, 2) := by decide +kernel
theorem d_MT_hex_38 : decode b_MT_hex 38 = .ok (.isub, 1) := by decide +kernel
theorem d_MT_hex_39 : decode b_MT_hex 39 = .ok (.bipush 10, 2) := by decide +kernel
theorem d_MT_hex_41 : decode b_MT_hex 41 = .ok (.iadd, 1) := by decide +kernel
theorem d_MT_hex_42 : decode b_MT_hex 42 = .ok (.goto 4, 3) := by decide +kernel
theorem d_MT_hex_45 : decode b_MT_hex 45 = .ok (.iconst (-1), 1) := by decide +kernel
theorem d_MT_hex_46 : decode b_MT_hex 46 = .ok (.ireturn, 1) := by decide +kernel
theorem d_MT_four_0 : decode b_MT_four 0 = .ok (.iconst 0, 1) := by decide +kernel
theorem d_MT_four_1 : decode b_MT_four 1 = .ok (.istore_n 2, 1) := by decide +kernel
theorem d_MT_four_2 : decode b_MT_four 2 = .ok (.iconst 0, 1) := by decide +kernel
theorem d_MT_four_3 : decode b_MT_four 3 = .ok (.istore_n 3, 1) := by decide +kernel
theorem d_MT_four_4 : decode b_MT_four 4 = .ok (.iload_n 3, 1) := by decide +kernel
theorem d_MT_four_5 : decode b_MT_four 5 = .ok (.iconst 4, 1) := by decide +kernel
theorem d_MT_four_6 : decode b_MT_four 6 = .ok (.if_icmp .ge 50, 3) := by decide +kernel
theorem d_MT_four_9 : decode b_MT_four 9 = .ok (.aload_n 0, 1) := by decide +kernel
theorem d_MT_four_10 : decode b_MT_four 10 = .ok (.iload_n 1, 1) := by decide +kernel
theorem d_MT_four_11 : decode b_MT_four 11 = .ok (.iload_n 3, 1) := by decide +kernel
theorem d_MT_four_12 : decode b_MT_four 12 = .ok (.iadd, 1) := by decide +kernel
theorem d_MT_four_13 : decode b_MT_four 13 = .ok (.invokevirtual 85, 3) := by decide +kernel
theorem d_MT_four_16 : decode b_MT_four 16 = .ok (.ifCond .ge 7, 3) := by decide +kernel
theorem d_MT_four_19 : decode b_MT_four 19 = .ok (.iconst (-1), 1) := by decide +kernel
theorem d_MT_four_20 : decode b_MT_four 20 = .ok (.goto 13, 3) := by decide +kernel
theorem d_MT_four_23 : decode b_MT_four 23 = .ok (.aload_n 0, 1) := by decide +kernel
theorem d_MT_four_24 : decode b_MT_four 24 = .ok (.iload_n 1, 1) := by decide +kernel
theorem d_MT_four_25 : decode b_MT_four 25 = .ok (.iload_n 3, 1) := by decide +kernel
theorem d_MT_four_26 : decode b_MT_four 26 = .ok (.iadd, 1) := by decide +kernel
theorem d_MT_four_27 : decode b_MT_four 27 = .ok (.invokevirtual 85, 3) := by decide +kernel
theorem d_MT_four_30 : decode b_MT_four 30 = .ok (.invokestatic 150, 3) := by decide +kernel
theorem d_MT_four_33 : decode b_MT_four 33 = .ok (.istore 4, 2) := by decide +kernel
theorem d_MT_four_35 : decode b_MT_four 35 = .ok (.iload 4, 2) := by decide +kernel
theorem d_MT_four_37 : decode b_MT_four 37 = .ok (.ifCond .ge 5, 3) := by decide +kernel
theorem d_MT_four_40 : decode b_MT_four 40 = .ok (.iconst (-1), 1) := by decide +kernel
theorem d_MT_four_41 : decode b_MT_four 41 = .ok (.ireturn, 1) := by decide +kernel
theorem d_MT_four_42 : decode b_MT_four 42 = .ok (.bipush 16, 2) := by decide +kernel
theorem d_MT_four_44 : decode b_MT_four 44 = .ok (.iload_n 2, 1) := by decide +kernel
theorem d_MT_four_45 : decode b_MT_four 45 = .ok (.imul, 1) := by decide +kernel
theorem d_MT_four_46 : decode b_MT_four 46 = .ok (.iload 4, 2) := by decide +kernel
theorem d_MT_four_48 : decode b_MT_four 48 = .ok (.iadd, 1) := by decide +kernel
theorem d_MT_four_49 : decode b_MT_four 49 = .ok (.istore_n 2, 1) := by decide +kernel
theorem d_MT_four_50 : decode b_MT_four 50 = .ok (.iinc 3 1, 3) := by decide +kernel
theorem d_MT_four_53 : decode b_MT_four 53 = .ok (.goto (-49), 3) := by decide +kernel
theorem d_MT_four_56 : decode b_MT_four 56 = .ok (.iload_n 2, 1) := by decide +kernel
theorem d_MT_four_57 : decode b_MT_four 57 = .ok (.ireturn, 1) := by decide +kernel
theorem d_MT_escape_0 : decode b_MT_escape 0 = .ok (.aload_n 0, 1) := by decide +kernel
theorem d_MT_escape_1 : decode b_MT_escape 1 = .ok (.iload_n 1, 1) := by decide +kernel
theorem d_MT_escape_2 : decode b_MT_escape 2 = .ok (.iconst 1, 1) := by decide +kernel
theorem d_MT_escape_3 : decode b_MT_escape 3 = .ok (.iadd, 1) := by decide +kernel
theorem d_MT_escape_4 : decode b_MT_escape 4 = .ok (.invokevirtual 85, 3) := by decide +kernel
theorem d_MT_escape_7 : decode b_MT_escape 7 = .ok (.istore_n 2, 1) := by decide +kernel
theorem d_MT_escape_8 : decode b_MT_escape 8 = .ok (.iload_n 2, 1) := by decide +kernel
theorem d_MT_escape_9 : decode b_MT_escape 9 = .ok (.bipush 34, 2) := by decide +kernel
theorem d_MT_escape_11 : decode b_MT_escape 11 = .ok (.if_icmp .eq 15, 3) := by decide +kernel
theorem d_MT_escape_14 : decode b_MT_escape 14 = .ok (.iload_n 2, 1) := by decide +kernel
theorem d_MT_escape_15 : decode b_MT_escape 15 = .ok (.bipush 92, 2) := by decide +kernel
theorem d_MT_escape_17 : decode b_MT_escape 17 = .ok (.if_icmp .eq 9, 3) := by decide +kernel
theorem d_MT_escape_20 : decode b_MT_escape 20 = .ok (.iload_n 2, 1) := by decide +kernel
theorem d_MT_escape_21 : decode b_MT_escape 21 = .ok (.bipush 47, 2) := by decide +kernel
theorem d_MT_escape_23 : decode b_MT_escape 23 = .ok (.if_icmp .ne 7, 3) := by decide +kernel
theorem d_MT_escape_26 : decode b_MT_escape 26 = .ok (.iload_n 2, 1) := by decide +kernel
theorem d_MT_escape_27 : decode b_MT_escape 27 = .ok (.goto 59, 3) := by decide +kernel
theorem d_MT_escape_30 : decode b_MT_escape 30 = .ok (.iload_n 2, 1) := by decide +kernel
theorem d_MT_escape_31 : decode b_MT_escape 31 = .ok (.bipush 98, 2) := by decide +kernel
theorem d_MT_escape_33 : decode b_MT_escape 33 = .ok (.if_icmp .ne 8, 3) := by decide +kernel
theorem d_MT_escape_36 : decode b_MT_escape 36 = .ok (.bipush 8, 2) := by decide +kernel
theorem d_MT_escape_38 : decode b_MT_escape 38 = .ok (.goto 48, 3) := by decide +kernel
theorem d_MT_escape_41 : decode b_MT_escape 41 = .ok (.iload_n 2, 1) := by decide +kernel
theorem d_MT_escape_42 : decode b_MT_escape 42 = .ok (.bipush 102, 2) := by decide +kernel
theorem d_MT_escape_44 : decode b_MT_escape 44 = .ok (.if_icmp .ne 8, 3) := by decide +kernel
theorem d_MT_escape_47 : decode b_MT_escape 47 = .ok (.bipush 12, 2) := by decide +kernel
theorem d_MT_escape_49 : decode b_MT_escape 49 = .ok (.goto 37, 3) := by decide +kernel
theorem d_MT_escape_52 : decode b_MT_escape 52 = .ok (.iload_n 2, 1) := by decide +kernel
theorem d_MT_escape_53 : decode b_MT_escape 53 = .ok (.bipush 110, 2) := by decide +kernel
theorem d_MT_escape_55 : decode b_MT_escape 55 = .ok (.if_icmp .ne 8, 3) := by decide +kernel
theorem d_MT_escape_58 : decode b_MT_escape 58 = .ok (.bipush 10, 2) := by decide +kernel
theorem d_MT_escape_60 : decode b_MT_escape 60 = .ok (.goto 26, 3) := by decide +kernel
theorem d_MT_escape_63 : decode b_MT_escape 63 = .ok (.iload_n 2, 1) := by decide +kernel
theorem d_MT_escape_64 : decode b_MT_escape 64 = .ok (.bipush 114, 2) := by decide +kernel
theorem d_MT_escape_66 : decode b_MT_escape 66 = .ok (.if_icmp .ne 8, 3) := by decide +kernel
theorem d_MT_escape_69 : decode b_MT_escape 69 = .ok (.bipush 13, 2) := by decide +kernel
theorem d_MT_escape_71 : decode b_MT_escape 71 = .ok (.goto 15, 3) := by decide +kernel
theorem d_MT_escape_74 : decode b_MT_escape 74 = .ok (.iload_n 2, 1) := by decide +kernel
theorem d_MT_escape_75 : decode b_MT_escape 75 = .ok (.bipush 116, 2) := by decide +kernel
theorem d_MT_escape_77 : decode b_MT_escape 77 = .ok (.if_icmp .ne 8, 3) := by decide +kernel
theorem d_MT_escape_80 : decode b_MT_escape 80 = .ok (.bipush 9, 2) := by decide +kernel
theorem d_MT_escape_82 : decode b_MT_escape 82 = .ok (.goto 4, 3) := by decide +kernel
theorem d_MT_escape_85 : decode b_MT_escape 85 = .ok (.iconst (-1), 1) := by decide +kernel
theorem d_MT_escape_86 : decode b_MT_escape 86 = .ok (.istore_n 3, 1) := by decide +kernel
theorem d_MT_escape_87 : decode b_MT_escape 87 = .ok (.aload_n 0, 1) := by decide +kernel
theorem d_MT_escape_88 : decode b_MT_escape 88 = .ok (.iload_n 1, 1) := by decide +kernel
theorem d_MT_escape_89 : decode b_MT_escape 89 = .ok (.iconst 2, 1) := by decide +kernel
theorem d_MT_escape_90 : decode b_MT_escape 90 = .ok (.iadd, 1) := by decide +kernel
theorem d_MT_escape_91 : decode b_MT_escape 91 = .ok (.putfield 62, 3) := by decide +kernel
theorem d_MT_escape_94 : decode b_MT_escape 94 = .ok (.iload_n 3, 1) := by decide +kernel
theorem d_MT_escape_95 : decode b_MT_escape 95 = .ok (.ifCond .lt 10, 3) := by decide +kernel
theorem d_MT_escape_98 : decode b_MT_escape 98 = .ok (.aload_n 0, 1) := by decide +kernel
theorem d_MT_escape_99 : decode b_MT_escape 99 = .ok (.iload_n 3, 1) := by decide +kernel
theorem d_MT_escape_100 : decode b_MT_escape 100 = .ok (.iload_n 1, 1) := by decide +kernel
theorem d_MT_escape_101 : decode b_MT_escape 101 = .ok (.invokevirtual 140, 3) := by decide +kernel
theorem d_MT_escape_104 : decode b_MT_escape 104 = .ok (.ireturn, 1) := by decide +kernel
theorem d_MT_escape_105 : decode b_MT_escape 105 = .ok (.iload_n 2, 1) := by decide +kernel
theorem d_MT_escape_106 : decode b_MT_escape 106 = .ok (.bipush 117, 2) := by decide +kernel
theorem d_MT_escape_108 : decode b_MT_escape 108 = .ok (.if_icmp .eq 11, 3) := by decide +kernel
theorem d_MT_escape_111 : decode b_MT_escape 111 = .ok (.aload_n 0, 1) := by decide +kernel
theorem d_MT_escape_112 : decode b_MT_escape 112 = .ok (.iload_n 1, 1) := by decide +kernel
theorem d_MT_escape_113 : decode b_MT_escape 113 = .ok (.iconst 1, 1) := by decide +kernel
theorem d_MT_escape_114 : decode b_MT_escape 114 = .ok (.iadd, 1) := by decide +kernel
theorem d_MT_escape_115 : decode b_MT_escape 115 = .ok (.invokevirtual 81, 3) := by decide +kernel
theorem d_MT_escape_118 : decode b_MT_escape 118 = .ok (.ireturn, 1) := by decide +kernel
theorem d_MT_escape_119 : decode b_MT_escape 119 = .ok (.iconst 0, 1) := by decide +kernel
theorem d_MT_escape_120 : decode b_MT_escape 120 = .ok (.istore 4, 2) := by decide +kernel
theorem d_MT_escape_122 : decode b_MT_escape 122 = .ok (.iload 4, 2) := by decide +kernel
theorem d_MT_escape_124 : decode b_MT_escape 124 = .ok (.iconst 4, 1) := by decide +kernel
theorem d_MT_escape_125 : decode b_MT_escape 125 = .ok (.if_icmp .ge 52, 3) := by decide +kernel
theorem d_MT_escape_128 : decode b_MT_escape 128 = .ok (.aload_n 0, 1) := by decide +kernel
theorem d_MT_escape_129 : decode b_MT_escape 129 = .ok (.aload_n 0, 1) := by decide +kernel
theorem d_MT_escape_130 : decode b_MT_escape 130 = .ok (.getfield 62, 3) := by decide +kernel
theorem d_MT_escape_133 : decode b_MT_escape 133 = .ok (.iload 4, 2) := by decide +kernel
theorem d_MT_escape_135 : decode b_MT_escape 135 = .ok (.iadd, 1) := by decide +kernel
theorem d_MT_escape_136 : decode b_MT_escape 136 = .ok (.invokevirtual 85, 3) := by decide +kernel
theorem d_MT_escape_139 : decode b_MT_escape 139 = .ok (.ifCond .lt 20, 3) := by decide +kernel
theorem d_MT_escape_142 : decode b_MT_escape 142 = .ok (.aload_n 0, 1) := by decide +kernel
theorem d_MT_escape_143 : decode b_MT_escape 143 = .ok (.aload_n 0, 1) := by decide +kernel
theorem d_MT_escape_144 : decode b_MT_escape 144 = .ok (.getfield 62, 3) := by decide +kernel
theorem d_MT_escape_147 : decode b_MT_escape 147 = .ok (.iload 4, 2) := by decide +kernel
theorem d_MT_escape_149 : decode b_MT_escape 149 = .ok (.iadd, 1) := by decide +kernel
theorem d_MT_escape_150 : decode b_MT_escape 150 = .ok (.invokevirtual 85, 3) := by decide +kernel
theorem d_MT_escape_153 : decode b_MT_escape 153 = .ok (.invokestatic 150, 3) := by decide +kernel
theorem d_MT_escape_156 : decode b_MT_escape 156 = .ok (.ifCond .ge 15, 3) := by decide +kernel
theorem d_MT_escape_159 : decode b_MT_escape 159 = .ok (.aload_n 0, 1) := by decide +kernel
theorem d_MT_escape_160 : decode b_MT_escape 160 = .ok (.aload_n 0, 1) := by decide +kernel
theorem d_MT_escape_161 : decode b_MT_escape 161 = .ok (.getfield 62, 3) := by decide +kernel
theorem d_MT_escape_164 : decode b_MT_escape 164 = .ok (.iload 4, 2) := by decide +kernel
theorem d_MT_escape_166 : decode b_MT_escape 166 = .ok (.iadd, 1) := by decide +kernel
theorem d_MT_escape_167 : decode b_MT_escape 167 = .ok (.invokevirtual 81, 3) := by decide +kernel
theorem d_MT_escape_170 : decode b_MT_escape 170 = .ok (.ireturn, 1) := by decide +kernel
theorem d_MT_escape_171 : decode b_MT_escape 171 = .ok (.iinc 4 1, 3) := by decide +kernel
theorem d_MT_escape_174 : decode b_MT_escape 174 = .ok (.goto (-52), 3) := by decide +kernel
theorem d_MT_escape_177 : decode b_MT_escape 177 = .ok (.aload_n 0, 1) := by decide +kernel
theorem d_MT_escape_178 : decode b_MT_escape 178 = .ok (.aload_n 0, 1) := by decide +kernel
theorem d_MT_escape_179 : decode b_MT_escape 179 = .ok (.getfield 62, 3) := by decide +kernel
theorem d_MT_escape_182 : decode b_MT_escape 182 = .ok (.invokevirtual 153, 3) := by decide +kernel
theorem d_MT_escape_185 : decode b_MT_escape 185 = .ok (.istore_n 3, 1) := by decide +kernel
theorem d_MT_escape_186 : decode b_MT_escape 186 = .ok (.aload_n 0, 1) := by decide +kernel
theorem d_MT_escape_187 : decode b_MT_escape 187 = .ok (.dup, 1) := by decide +kernel
theorem d_MT_escape_188 : decode b_MT_escape 188 = .ok (.getfield 62, 3) := by decide +kernel
theorem d_MT_escape_191 : decode b_MT_escape 191 = .ok (.iconst 4, 1) := by decide +kernel
theorem d_MT_escape_192 : decode b_MT_escape 192 = .ok (.iadd, 1) := by decide +kernel
theorem d_MT_escape_193 : decode b_MT_escape 193 = .ok (.putfield 62, 3) := by decide +kernel
theorem d_MT_escape_196 : decode b_MT_escape 196 = .ok (.iload_n 3, 1) := by decide +kernel
theorem d_MT_escape_197 : decode b_MT_escape 197 = .ok (.ldc 156, 2) := by decide +kernel
theorem d_MT_escape_199 : decode b_MT_escape 199 = .ok (.ldc 147, 2) := by decide +kernel
theorem d_MT_escape_201 : decode b_MT_escape 201 = .ok (.invokestatic 103, 3) := by decide +kernel
theorem d_MT_escape_204 : decode b_MT_escape 204 = .ok (.ifCond .eq 9, 3) := by decide +kernel
theorem d_MT_escape_207 : decode b_MT_escape 207 = .ok (.aload_n 0, 1) := by decide +kernel
theorem d_MT_escape_208 : decode b_MT_escape 208 = .ok (.iload_n 1, 1) := by decide +kernel
theorem d_MT_escape_209 : decode b_MT_escape 209 = .ok (.invokevirtual 81, 3) := by decide +kernel
theorem d_MT_escape_212 : decode b_MT_escape 212 = .ok (.ireturn, 1) := by decide +kernel
theorem d_MT_escape_213 : decode b_MT_escape 213 = .ok (.iload_n 3, 1) := by decide +kernel
theorem d_MT_escape_214 : decode b_MT_escape 214 = .ok (.ldc 146, 2) := by decide +kernel
theorem d_MT_escape_216 : decode b_MT_escape 216 = .ok (.ldc 157, 2) := by decide +kernel
theorem d_MT_escape_218 : decode b_MT_escape 218 = .ok (.invokestatic 103, 3) := by decide +kernel
theorem d_MT_escape_221 : decode b_MT_escape 221 = .ok (.ifCond .ne 10, 3) := by decide +kernel
theorem d_MT_escape_224 : decode b_MT_escape 224 = .ok (.aload_n 0, 1) := by decide +kernel
theorem d_MT_escape_225 : decode b_MT_escape 225 = .ok (.iload_n 3, 1) := by decide +kernel
theorem d_MT_escape_226 : decode b_MT_escape 226 = .ok (.iload_n 1, 1) := by decide +kernel
theorem d_MT_escape_227 : decode b_MT_escape 227 = .ok (.invokevirtual 140, 3) := by decide +kernel
theorem d_MT_escape_230 : decode b_MT_escape 230 = .ok (.ireturn, 1) := by decide +kernel
theorem d_MT_escape_231 : decode b_MT_escape 231 = .ok (.aload_n 0, 1) := by decide +kernel
theorem d_MT_escape_232 : decode b_MT_escape 232 = .ok (.aload_n 0, 1) := by decide +kernel
theorem d_MT_escape_233 : decode b_MT_escape 233 = .ok (.getfield 62, 3) := by decide +kernel
theorem d_MT_escape_236 : decode b_MT_escape 236 = .ok (.invokevirtual 85, 3) := by decide +kernel
theorem d_MT_escape_239 : decode b_MT_escape 239 = .ok (.bipush 92, 2) := by decide +kernel
theorem d_MT_escape_241 : decode b_MT_escape 241 = .ok (.if_icmp .ne 31, 3) := by decide +kernel
theorem d_MT_escape_244 : decode b_MT_escape 244 = .ok (.aload_n 0, 1) := by decide +kernel
theorem d_MT_escape_245 : decode b_MT_escape 245 = .ok (.aload_n 0, 1) := by decide +kernel
theorem d_MT_escape_246 : decode b_MT_escape 246 = .ok (.getfield 62, 3) := by decide +kernel
theorem d_MT_escape_249 : decode b_MT_escape 249 = .ok (.iconst 1, 1) := by decide +kernel
theorem d_MT_escape_250 : decode b_MT_escape 250 = .ok (.iadd, 1) := by decide +kernel
theorem d_MT_escape_251 : decode b_MT_escape 251 = .ok (.invokevirtual 85, 3) := by decide +kernel
theorem d_MT_escape_254 : decode b_MT_escape 254 = .ok (.bipush 117, 2) := by decide +kernel
theorem d_MT_escape_256 : decode b_MT_escape 256 = .ok (.if_icmp .ne 16, 3) := by decide +kernel
theorem d_MT_escape_259 : decode b_MT_escape 259 = .ok (.aload_n 0, 1) := by decide +kernel
theorem d_MT_escape_260 : decode b_MT_escape 260 = .ok (.aload_n 0, 1) := by decide +kernel
theorem d_MT_escape_261 : decode b_MT_escape 261 = .ok (.getfield 62, 3) := by decide +kernel
theorem d_MT_escape_264 : decode b_MT_escape 264 = .ok (.iconst 2, 1) := by decide +kernel
theorem d_MT_escape_265 : decode b_MT_escape 265 = .ok (.iadd, 1) := by decide +kernel
theorem d_MT_escape_266 : decode b_MT_escape 266 = .ok (.invokevirtual 153, 3) := by decide +kernel
theorem d_MT_escape_269 : decode b_MT_escape 269 = .ok (.goto 4, 3) := by decide +kernel
theorem d_MT_escape_272 : decode b_MT_escape 272 = .ok (.iconst (-1), 1) := by decide +kernel
theorem d_MT_escape_273 : decode b_MT_escape 273 = .ok (.istore 4, 2) := by decide +kernel
theorem d_MT_escape_275 : decode b_MT_escape 275 = .ok (.iload 4, 2) := by decide +kernel
theorem d_MT_escape_277 : decode b_MT_escape 277 = .ok (.ldc 156, 2) := by decide +kernel
theorem d_MT_escape_279 : decode b_MT_escape 279 = .ok (.ldc 147, 2) := by decide +kernel
theorem d_MT_escape_281 : decode b_MT_escape 281 = .ok (.invokestatic 103, 3) := by decide +kernel
theorem d_MT_escape_284 : decode b_MT_escape 284 = .ok (.ifCond .ne 9, 3) := by decide +kernel
theorem d_MT_escape_287 : decode b_MT_escape 287 = .ok (.aload_n 0, 1) := by decide +kernel
theorem d_MT_escape_288 : decode b_MT_escape 288 = .ok (.iload_n 1, 1) := by decide +kernel
theorem d_MT_escape_289 : decode b_MT_escape 289 = .ok (.invokevirtual 81, 3) := by decide +kernel
theorem d_MT_escape_292 : decode b_MT_escape 292 = .ok (.ireturn, 1) := by decide +kernel
theorem d_MT_escape_293 : decode b_MT_escape 293 = .ok (.aload_n 0, 1) := by decide +kernel
theorem d_MT_escape_294 : decode b_MT_escape 294 = .ok (.dup, 1) := by decide +kernel
theorem d_MT_escape_295 : decode b_MT_escape 295 = .ok (.getfield 62, 3) := by decide +kernel
theorem d_MT_escape_298 : decode b_MT_escape 298 = .ok (.bipush 6, 2) := by decide +kernel
theorem d_MT_escape_300 : decode b_MT_escape 300 = .ok (.iadd, 1) := by decide +kernel
theorem d_MT_escape_301 : decode b_MT_escape 301 = .ok (.putfield 62, 3) := by decide +kernel
theorem d_MT_escape_304 : decode b_MT_escape 304 = .ok (.aload_n 0, 1) := by decide +kernel
theorem d_MT_escape_305 : decode b_MT_escape 305 = .ok (.ldc 148, 2) := by decide +kernel
theorem d_MT_escape_307 : decode b_MT_escape 307 = .ok (.iload_n 3, 1) := by decide +kernel
theorem d_MT_escape_308 : decode b_MT_escape 308 = .ok (.ldc 146, 2) := by decide +kernel
theorem d_MT_escape_310 : decode b_MT_escape 310 = .ok (.isub, 1) := by decide +kernel
theorem d_MT_escape_311 : decode b_MT_escape 311 = .ok (.bipush 10, 2) := by decide +kernel
theorem d_MT_escape_313 : decode b_MT_escape 313 = .ok (.ishl, 1) := by decide +kernel
theorem d_MT_escape_314 : decode b_MT_escape 314 = .ok (.iadd, 1) := by decide +kernel
theorem d_MT_escape_315 : decode b_MT_escape 315 = .ok (.iload 4, 2) := by decide +kernel
theorem d_MT_escape_317 : decode b_MT_escape 317 = .ok (.iadd, 1) := by decide +kernel
theorem d_MT_escape_318 : decode b_MT_escape 318 = .ok (.ldc 156, 2) := by decide +kernel
theorem d_MT_escape_320 : decode b_MT_escape 320 = .ok (.isub, 1) := by decide +kernel
theorem d_MT_escape_321 : decode b_MT_escape 321 = .ok (.iload_n 1, 1) := by decide +kernel
theorem d_MT_escape_322 : decode b_MT_escape 322 = .ok (.invokevirtual 140, 3) := by decide +kernel
theorem d_MT_escape_325 : decode b_MT_escape 325 = .ok (.ireturn, 1) := by decide +kernel
theorem d_MT_wide_0 : decode b_MT_wide 0 = .ok (.aload_n 0, 1) := by decide +kernel
theorem d_MT_wide_1 : decode b_MT_wide 1 = .ok (.iload_n 1, 1) := by decide +kernel
theorem d_MT_wide_2 : decode b_MT_wide 2 = .ok (.invokevirtual 85, 3) := by decide +kernel
theorem d_MT_wide_5 : decode b_MT_wide 5 = .ok (.istore_n 2, 1) := by decide +kernel
theorem d_MT_wide_6 : decode b_MT_wide 6 = .ok (.iload_n 2, 1) := by decide +kernel
theorem d_MT_wide_7 : decode b_MT_wide 7 = .ok (.sipush 194, 3) := by decide +kernel
theorem d_MT_wide_10 : decode b_MT_wide 10 = .ok (.if_icmp .lt 14, 3) := by decide +kernel
theorem d_MT_wide_13 : decode b_MT_wide 13 = .ok (.iload_n 2, 1) := by decide +kernel
theorem d_MT_wide_14 : decode b_MT_wide 14 = .ok (.sipush 224, 3) := by decide +kernel
theorem d_MT_wide_17 : decode b_MT_wide 17 = .ok (.if_icmp .ge 7, 3) := by decide +kernel
theorem d_MT_wide_20 : decode b_MT_wide 20 = .ok (.iconst 1, 1) := by decide +kernel
theorem d_MT_wide_21 : decode b_MT_wide 21 = .ok (.goto 40, 3) := by decide +kernel
theorem d_MT_wide_24 : decode b_MT_wide 24 = .ok (.iload_n 2, 1) := by decide +kernel
theorem d_MT_wide_25 : decode b_MT_wide 25 = .ok (.sipush 224, 3) := by decide +kernel
theorem d_MT_wide_28 : decode b_MT_wide 28 = .ok (.if_icmp .lt 14, 3) := by decide +kernel
theorem d_MT_wide_31 : decode b_MT_wide 31 = .ok (.iload_n 2, 1) := by decide +kernel
theorem d_MT_wide_32 : decode b_MT_wide 32 = .ok (.sipush 240, 3) := by decide +kernel
theorem d_MT_wide_35 : decode b_MT_wide 35 = .ok (.if_icmp .ge 7, 3) := by decide +kernel
theorem d_MT_wide_38 : decode b_MT_wide 38 = .ok (.iconst 2, 1) := by decide +kernel
theorem d_MT_wide_39 : decode b_MT_wide 39 = .ok (.goto 22, 3) := by decide +kernel
theorem d_MT_wide_42 : decode b_MT_wide 42 = .ok (.iload_n 2, 1) := by decide +kernel
theorem d_MT_wide_43 : decode b_MT_wide 43 = .ok (.sipush 240, 3) := by decide +kernel
theorem d_MT_wide_46 : decode b_MT_wide 46 = .ok (.if_icmp .lt 14, 3) := by decide +kernel
theorem d_MT_wide_49 : decode b_MT_wide 49 = .ok (.iload_n 2, 1) := by decide +kernel
theorem d_MT_wide_50 : decode b_MT_wide 50 = .ok (.sipush 245, 3) := by decide +kernel
theorem d_MT_wide_53 : decode b_MT_wide 53 = .ok (.if_icmp .ge 7, 3) := by decide +kernel
theorem d_MT_wide_56 : decode b_MT_wide 56 = .ok (.iconst 3, 1) := by decide +kernel
theorem d_MT_wide_57 : decode b_MT_wide 57 = .ok (.goto 4, 3) := by decide +kernel
theorem d_MT_wide_60 : decode b_MT_wide 60 = .ok (.iconst 0, 1) := by decide +kernel
theorem d_MT_wide_61 : decode b_MT_wide 61 = .ok (.istore_n 3, 1) := by decide +kernel
theorem d_MT_wide_62 : decode b_MT_wide 62 = .ok (.iload_n 3, 1) := by decide +kernel
theorem d_MT_wide_63 : decode b_MT_wide 63 = .ok (.iconst 1, 1) := by decide +kernel
theorem d_MT_wide_64 : decode b_MT_wide 64 = .ok (.if_icmp .ne 10, 3) := by decide +kernel
theorem d_MT_wide_67 : decode b_MT_wide 67 = .ok (.iload_n 2, 1) := by decide +kernel
theorem d_MT_wide_68 : decode b_MT_wide 68 = .ok (.bipush 31, 2) := by decide +kernel
theorem d_MT_wide_70 : decode b_MT_wide 70 = .ok (.iand, 1) := by decide +kernel
theorem d_MT_wide_71 : decode b_MT_wide 71 = .ok (.goto 19, 3) := by decide +kernel
theorem d_MT_wide_74 : decode b_MT_wide 74 = .ok (.iload_n 3, 1) := by decide +kernel
theorem d_MT_wide_75 : decode b_MT_wide 75 = .ok (.iconst 2, 1) := by decide +kernel
theorem d_MT_wide_76 : decode b_MT_wide 76 = .ok (.if_icmp .ne 10, 3) := by decide +kernel
theorem d_MT_wide_79 : decode b_MT_wide 79 = .ok (.iload_n 2, 1) := by decide +kernel
theorem d_MT_wide_80 : decode b_MT_wide 80 = .ok (.bipush 15, 2) := by decide +kernel
theorem d_MT_wide_82 : decode b_MT_wide 82 = .ok (.iand, 1) := by decide +kernel
theorem d_MT_wide_83 : decode b_MT_wide 83 = .ok (.goto 7, 3) := by decide +kernel
theorem d_MT_wide_86 : decode b_MT_wide 86 = .ok (.iload_n 2, 1) := by decide +kernel
theorem d_MT_wide_87 : decode b_MT_wide 87 = .ok (.bipush 7, 2) := by decide +kernel
theorem d_MT_wide_89 : decode b_MT_wide 89 = .ok (.iand, 1) := by decide +kernel
theorem d_MT_wide_90 : decode b_MT_wide 90 = .ok (.istore 4, 2) := by decide +kernel
theorem d_MT_wide_92 : decode b_MT_wide 92 = .ok (.iload_n 3, 1) := by decide +kernel
theorem d_MT_wide_93 : decode b_MT_wide 93 = .ok (.ifCond .ne 9, 3) := by decide +kernel
theorem d_MT_wide_96 : decode b_MT_wide 96 = .ok (.aload_n 0, 1) := by decide +kernel
theorem d_MT_wide_97 : decode b_MT_wide 97 = .ok (.iload_n 1, 1) := by decide +kernel
theorem d_MT_wide_98 : decode b_MT_wide 98 = .ok (.invokevirtual 81, 3) := by decide +kernel
theorem d_MT_wide_101 : decode b_MT_wide 101 = .ok (.ireturn, 1) := by decide +kernel
theorem d_MT_wide_102 : decode b_MT_wide 102 = .ok (.iconst 1, 1) := by decide +kernel
theorem d_MT_wide_103 : decode b_MT_wide 103 = .ok (.istore 5, 2) := by decide +kernel
theorem d_MT_wide_105 : decode b_MT_wide 105 = .ok (.iload 5, 2) := by decide +kernel
theorem d_MT_wide_107 : decode b_MT_wide 107 = .ok (.iload_n 3, 1) := by decide +kernel
theorem d_MT_wide_108 : decode b_MT_wide 108 = .ok (.if_icmp .gt 54, 3) := by decide +kernel
theorem d_MT_wide_111 : decode b_MT_wide 111 = .ok (.aload_n 0, 1) := by decide +kernel
theorem d_MT_wide_112 : decode b_MT_wide 112 = .ok (.iload_n 1, 1) := by decide +kernel
theorem d_MT_wide_113 : decode b_MT_wide 113 = .ok (.iload 5, 2) := by decide +kernel
theorem d_MT_wide_115 : decode b_MT_wide 115 = .ok (.iadd, 1) := by decide +kernel
theorem d_MT_wide_116 : decode b_MT_wide 116 = .ok (.invokevirtual 85, 3) := by decide +kernel
theorem d_MT_wide_119 : decode b_MT_wide 119 = .ok (.sipush 128, 3) := by decide +kernel
theorem d_MT_wide_122 : decode b_MT_wide 122 = .ok (.sipush 191, 3) := by decide +kernel
theorem d_MT_wide_125 : decode b_MT_wide 125 = .ok (.invokestatic 103, 3) := by decide +kernel
theorem d_MT_wide_128 : decode b_MT_wide 128 = .ok (.ifCond .ne 9, 3) := by decide +kernel
theorem d_MT_wide_131 : decode b_MT_wide 131 = .ok (.aload_n 0, 1) := by decide +kernel
theorem d_MT_wide_132 : decode b_MT_wide 132 = .ok (.iload_n 1, 1) := by decide +kernel
theorem d_MT_wide_133 : decode b_MT_wide 133 = .ok (.invokevirtual 81, 3) := by decide +kernel
theorem d_MT_wide_136 : decode b_MT_wide 136 = .ok (.ireturn, 1) := by decide +kernel
theorem d_MT_wide_137 : decode b_MT_wide 137 = .ok (.iload 4, 2) := by decide +kernel
theorem d_MT_wide_139 : decode b_MT_wide 139 = .ok (.bipush 6, 2) := by decide +kernel
theorem d_MT_wide_141 : decode b_MT_wide 141 = .ok (.ishl, 1) := by decide +kernel
theorem d_MT_wide_142 : decode b_MT_wide 142 = .ok (.aload_n 0, 1) := by decide +kernel
theorem d_MT_wide_143 : decode b_MT_wide 143 = .ok (.iload_n 1, 1) := by decide +kernel
theorem d_MT_wide_144 : decode b_MT_wide 144 = .ok (.iload 5, 2) := by decide +kernel
theorem d_MT_wide_146 : decode b_MT_wide 146 = .ok (.iadd, 1) := by decide +kernel
theorem d_MT_wide_147 : decode b_MT_wide 147 = .ok (.invokevirtual 85, 3) := by decide +kernel
theorem d_MT_wide_150 : decode b_MT_wide 150 = .ok (.bipush 63, 2) := by decide +kernel
theorem d_MT_wide_152 : decode b_MT_wide 152 = .ok (.iand, 1) := by decide +kernel
theorem d_MT_wide_153 : decode b_MT_wide 153 = .ok (.ior, 1) := by decide +kernel
theorem d_MT_wide_154 : decode b_MT_wide 154 = .ok (.istore 4, 2) := by decide +kernel
theorem d_MT_wide_156 : decode b_MT_wide 156 = .ok (.iinc 5 1, 3) := by decide +kernel
theorem d_MT_wide_159 : decode b_MT_wide 159 = .ok (.goto (-54), 3) := by decide +kernel
theorem d_MT_wide_162 : decode b_MT_wide 162 = .ok (.iload_n 3, 1) := by decide +kernel
theorem d_MT_wide_163 : decode b_MT_wide 163 = .ok (.iconst 2, 1) := by decide +kernel
theorem d_MT_wide_164 : decode b_MT_wide 164 = .ok (.if_icmp .ne 23, 3) := by decide +kernel
theorem d_MT_wide_167 : decode b_MT_wide 167 = .ok (.iload 4, 2) := by decide +kernel
theorem d_MT_wide_169 : decode b_MT_wide 169 = .ok (.sipush 2048, 3) := by decide +kernel
theorem d_MT_wide_172 : decode b_MT_wide 172 = .ok (.if_icmp .lt 32, 3) := by decide +kernel
theorem d_MT_wide_175 : decode b_MT_wide 175 = .ok (.iload 4, 2) := by decide +kernel
theorem d_MT_wide_177 : decode b_MT_wide 177 = .ok (.ldc 146, 2) := by decide +kernel
theorem d_MT_wide_179 : decode b_MT_wide 179 = .ok (.ldc 147, 2) := by decide +kernel
theorem d_MT_wide_181 : decode b_MT_wide 181 = .ok (.invokestatic 103, 3) := by decide +kernel
theorem d_MT_wide_184 : decode b_MT_wide 184 = .ok (.ifCond .ne 20, 3) := by decide +kernel
theorem d_MT_wide_187 : decode b_MT_wide 187 = .ok (.iload_n 3, 1) := by decide +kernel
theorem d_MT_wide_188 : decode b_MT_wide 188 = .ok (.iconst 3, 1) := by decide +kernel
theorem d_MT_wide_189 : decode b_MT_wide 189 = .ok (.if_icmp .ne 21, 3) := by decide +kernel
theorem d_MT_wide_192 : decode b_MT_wide 192 = .ok (.iload 4, 2) := by decide +kernel
theorem d_MT_wide_194 : decode b_MT_wide 194 = .ok (.ldc 148, 2) := by decide +kernel
theorem d_MT_wide_196 : decode b_MT_wide 196 = .ok (.ldc 149, 2) := by decide +kernel
theorem d_MT_wide_198 : decode b_MT_wide 198 = .ok (.invokestatic 103, 3) := by decide +kernel
theorem d_MT_wide_201 : decode b_MT_wide 201 = .ok (.ifCond .ne 9, 3) := by decide +kernel
theorem d_MT_wide_204 : decode b_MT_wide 204 = .ok (.aload_n 0, 1) := by decide +kernel
theorem d_MT_wide_205 : decode b_MT_wide 205 = .ok (.iload_n 1, 1) := by decide +kernel
theorem d_MT_wide_206 : decode b_MT_wide 206 = .ok (.invokevirtual 81, 3) := by decide +kernel
theorem d_MT_wide_209 : decode b_MT_wide 209 = .ok (.ireturn, 1) := by decide +kernel
theorem d_MT_wide_210 : decode b_MT_wide 210 = .ok (.aload_n 0, 1) := by decide +kernel
theorem d_MT_wide_211 : decode b_MT_wide 211 = .ok (.dup, 1) := by decide +kernel
theorem d_MT_wide_212 : decode b_MT_wide 212 = .ok (.getfield 62, 3) := by decide +kernel
theorem d_MT_wide_215 : decode b_MT_wide 215 = .ok (.iload_n 3, 1) := by decide +kernel
theorem d_MT_wide_216 : decode b_MT_wide 216 = .ok (.iconst 1, 1) := by decide +kernel
theorem d_MT_wide_217 : decode b_MT_wide 217 = .ok (.iadd, 1) := by decide +kernel
theorem d_MT_wide_218 : decode b_MT_wide 218 = .ok (.iadd, 1) := by decide +kernel
theorem d_MT_wide_219 : decode b_MT_wide 219 = .ok (.putfield 62, 3) := by decide +kernel
theorem d_MT_wide_222 : decode b_MT_wide 222 = .ok (.aload_n 0, 1) := by decide +kernel
theorem d_MT_wide_223 : decode b_MT_wide 223 = .ok (.iload 4, 2) := by decide +kernel
theorem d_MT_wide_225 : decode b_MT_wide 225 = .ok (.iload_n 1, 1) := by decide +kernel
theorem d_MT_wide_226 : decode b_MT_wide 226 = .ok (.invokevirtual 140, 3) := by decide +kernel
theorem d_MT_wide_229 : decode b_MT_wide 229 = .ok (.ireturn, 1) := by decide +kernel
theorem d_MT_string_0 : decode b_MT_string 0 = .ok (.aload_n 0, 1) := by decide +kernel
theorem d_MT_string_1 : decode b_MT_string 1 = .ok (.iload_n 1, 1) := by decide +kernel
theorem d_MT_string_2 : decode b_MT_string 2 = .ok (.iconst 4, 1) := by decide +kernel
theorem d_MT_string_3 : decode b_MT_string 3 = .ok (.invokevirtual 89, 3) := by decide +kernel
theorem d_MT_string_6 : decode b_MT_string 6 = .ok (.istore_n 2, 1) := by decide +kernel
theorem d_MT_string_7 : decode b_MT_string 7 = .ok (.aload_n 0, 1) := by decide +kernel
theorem d_MT_string_8 : decode b_MT_string 8 = .ok (.getfield 39, 3) := by decide +kernel
theorem d_MT_string_11 : decode b_MT_string 11 = .ok (.iload_n 2, 1) := by decide +kernel
theorem d_MT_string_12 : decode b_MT_string 12 = .ok (.aload_n 0, 1) := by decide +kernel
theorem d_MT_string_13 : decode b_MT_string 13 = .ok (.getfield 68, 3) := by decide +kernel
theorem d_MT_string_16 : decode b_MT_string 16 = .ok (.iastore, 1) := by decide +kernel
theorem d_MT_string_17 : decode b_MT_string 17 = .ok (.aload_n 0, 1) := by decide +kernel
theorem d_MT_string_18 : decode b_MT_string 18 = .ok (.dup, 1) := by decide +kernel
theorem d_MT_string_19 : decode b_MT_string 19 = .ok (.getfield 62, 3) := by decide +kernel
theorem d_MT_string_22 : decode b_MT_string 22 = .ok (.iconst 1, 1) := by decide +kernel
theorem d_MT_string_23 : decode b_MT_string 23 = .ok (.iadd, 1) := by decide +kernel
theorem d_MT_string_24 : decode b_MT_string 24 = .ok (.putfield 62, 3) := by decide +kernel
theorem d_MT_string_27 : decode b_MT_string 27 = .ok (.aload_n 0, 1) := by decide +kernel
theorem d_MT_string_28 : decode b_MT_string 28 = .ok (.aload_n 0, 1) := by decide +kernel
theorem d_MT_string_29 : decode b_MT_string 29 = .ok (.getfield 62, 3) := by decide +kernel
theorem d_MT_string_32 : decode b_MT_string 32 = .ok (.invokevirtual 85, 3) := by decide +kernel
theorem d_MT_string_35 : decode b_MT_string 35 = .ok (.istore_n 3, 1) := by decide +kernel
theorem d_MT_string_36 : decode b_MT_string 36 = .ok (.aload_n 0, 1) := by decide +kernel
theorem d_MT_string_37 : decode b_MT_string 37 = .ok (.getfield 62, 3) := by decide +kernel
theorem d_MT_string_40 : decode b_MT_string 40 = .ok (.istore 4, 2) := by decide +kernel
theorem d_MT_string_42 : decode b_MT_string 42 = .ok (.iload_n 3, 1) := by decide +kernel
theorem d_MT_string_43 : decode b_MT_string 43 = .ok (.bipush 32, 2) := by decide +kernel
theorem d_MT_string_45 : decode b_MT_string 45 = .ok (.if_icmp .ge 12, 3) := by decide +kernel
theorem d_MT_string_48 : decode b_MT_string 48 = .ok (.aload_n 0, 1) := by decide +kernel
theorem d_MT_string_49 : decode b_MT_string 49 = .ok (.aload_n 0, 1) := by decide +kernel
theorem d_MT_string_50 : decode b_MT_string 50 = .ok (.getfield 62, 3) := by decide +kernel
theorem d_MT_string_53 : decode b_MT_string 53 = .ok (.invokevirtual 81, 3) := by decide +kernel
theorem d_MT_string_56 : decode b_MT_string 56 = .ok (.ireturn, 1) := by decide +kernel
theorem d_MT_string_57 : decode b_MT_string 57 = .ok (.iload_n 3, 1) := by decide +kernel
theorem d_MT_string_58 : decode b_MT_string 58 = .ok (.bipush 34, 2) := by decide +kernel
theorem d_MT_string_60 : decode b_MT_string 60 = .ok (.if_icmp .ne 32, 3) := by decide +kernel
theorem d_MT_string_63 : decode b_MT_string 63 = .ok (.aload_n 0, 1) := by decide +kernel
theorem d_MT_string_64 : decode b_MT_string 64 = .ok (.dup, 1) := by decide +kernel
theorem d_MT_string_65 : decode b_MT_string 65 = .ok (.getfield 62, 3) := by decide +kernel
theorem d_MT_string_68 : decode b_MT_string 68 = .ok (.iconst 1, 1) := by decide +kernel
theorem d_MT_string_69 : decode b_MT_string 69 = .ok (.iadd, 1) := by decide +kernel
theorem d_MT_string_70 : decode b_MT_string 70 = .ok (.putfield 62, 3) := by decide +kernel
theorem d_MT_string_73 : decode b_MT_string 73 = .ok (.aload_n 0, 1) := by decide +kernel
theorem d_MT_string_74 : decode b_MT_string 74 = .ok (.getfield 21, 3) := by decide +kernel
theorem d_MT_string_77 : decode b_MT_string 77 = .ok (.iload_n 2, 1) := by decide +kernel
theorem d_MT_string_78 : decode b_MT_string 78 = .ok (.aload_n 0, 1) := by decide +kernel
theorem d_MT_string_79 : decode b_MT_string 79 = .ok (.getfield 68, 3) := by decide +kernel
theorem d_MT_string_82 : decode b_MT_string 82 = .ok (.aload_n 0, 1) := by decide +kernel
theorem d_MT_string_83 : decode b_MT_string 83 = .ok (.getfield 39, 3) := by decide +kernel
theorem d_MT_string_86 : decode b_MT_string 86 = .ok (.iload_n 2, 1) := by decide +kernel
theorem d_MT_string_87 : decode b_MT_string 87 = .ok (.iaload, 1) := by decide +kernel
theorem d_MT_string_88 : decode b_MT_string 88 = .ok (.isub, 1) := by decide +kernel
theorem d_MT_string_89 : decode b_MT_string 89 = .ok (.iastore, 1) := by decide +kernel
theorem d_MT_string_90 : decode b_MT_string 90 = .ok (.iconst 1, 1) := by decide +kernel
theorem d_MT_string_91 : decode b_MT_string 91 = .ok (.ireturn, 1) := by decide +kernel
theorem d_MT_string_92 : decode b_MT_string 92 = .ok (.iload_n 3, 1) := by decide +kernel
theorem d_MT_string_93 : decode b_MT_string 93 = .ok (.bipush 92, 2) := by decide +kernel
theorem d_MT_string_95 : decode b_MT_string 95 = .ok (.if_icmp .ne 14, 3) := by decide +kernel
theorem d_MT_string_98 : decode b_MT_string 98 = .ok (.aload_n 0, 1) := by decide +kernel
theorem d_MT_string_99 : decode b_MT_string 99 = .ok (.iload 4, 2) := by decide +kernel
theorem d_MT_string_101 : decode b_MT_string 101 = .ok (.invokevirtual 137, 3) := by decide +kernel
theorem d_MT_string_104 : decode b_MT_string 104 = .ok (.ifCond .ne 48, 3) := by decide +kernel
theorem d_MT_string_107 : decode b_MT_string 107 = .ok (.iconst 0, 1) := by decide +kernel
theorem d_MT_string_108 : decode b_MT_string 108 = .ok (.ireturn, 1) := by decide +kernel
theorem d_MT_string_109 : decode b_MT_string 109 = .ok (.iload_n 3, 1) := by decide +kernel
theorem d_MT_string_110 : decode b_MT_string 110 = .ok (.sipush 128, 3) := by decide +kernel
theorem d_MT_string_113 : decode b_MT_string 113 = .ok (.if_icmp .ge 28, 3) := by decide +kernel
theorem d_MT_string_116 : decode b_MT_string 116 = .ok (.aload_n 0, 1) := by decide +kernel
theorem d_MT_string_117 : decode b_MT_string 117 = .ok (.iload_n 3, 1) := by decide +kernel
theorem d_MT_string_118 : decode b_MT_string 118 = .ok (.iload 4, 2) := by decide +kernel
theorem d_MT_string_120 : decode b_MT_string 120 = .ok (.invokevirtual 140, 3) := by decide +kernel
theorem d_MT_string_123 : decode b_MT_string 123 = .ok (.ifCond .ne 5, 3) := by decide +kernel
theorem d_MT_string_126 : decode b_MT_string 126 = .ok (.iconst 0, 1) := by decide +kernel
theorem d_MT_string_127 : decode b_MT_string 127 = .ok (.ireturn, 1) := by decide +kernel
theorem d_MT_string_128 : decode b_MT_string 128 = .ok (.aload_n 0, 1) := by decide +kernel
theorem d_MT_string_129 : decode b_MT_string 129 = .ok (.dup, 1) := by decide +kernel
theorem d_MT_string_130 : decode b_MT_string 130 = .ok (.getfield 62, 3) := by decide +kernel
theorem d_MT_string_133 : decode b_MT_string 133 = .ok (.iconst 1, 1) := by decide +kernel
theorem d_MT_string_134 : decode b_MT_string 134 = .ok (.iadd, 1) := by decide +kernel
theorem d_MT_string_135 : decode b_MT_string 135 = .ok (.putfield 62, 3) := by decide +kernel
theorem d_MT_string_138 : decode b_MT_string 138 = .ok (.goto 14, 3) := by decide +kernel
theorem d_MT_string_141 : decode b_MT_string 141 = .ok (.aload_n 0, 1) := by decide +kernel
theorem d_MT_string_142 : decode b_MT_string 142 = .ok (.iload 4, 2) := by decide +kernel
theorem d_MT_string_144 : decode b_MT_string 144 = .ok (.invokevirtual 143, 3) := by decide +kernel
theorem d_MT_string_147 : decode b_MT_string 147 = .ok (.ifCond .ne 5, 3) := by decide +kernel
theorem d_MT_string_150 : decode b_MT_string 150 = .ok (.iconst 0, 1) := by decide +kernel
theorem d_MT_string_151 : decode b_MT_string 151 = .ok (.ireturn, 1) := by decide +kernel
theorem d_MT_string_152 : decode b_MT_string 152 = .ok (.goto (-125), 3) := by decide +kernel
theorem d_MT_number_0 : decode b_MT_number 0 = .ok (.aload_n 0, 1) := by decide +kernel
theorem d_MT_number_1 : decode b_MT_number 1 = .ok (.iload_n 1, 1) := by decide +kernel
theorem d_MT_number_2 : decode b_MT_number 2 = .ok (.iconst 3, 1) := by decide +kernel
theorem d_MT_number_3 : decode b_MT_number 3 = .ok (.invokevirtual 89, 3) := by decide +kernel
theorem d_MT_number_6 : decode b_MT_number 6 = .ok (.istore_n 2, 1) := by decide +kernel
theorem d_MT_number_7 : decode b_MT_number 7 = .ok (.aload_n 0, 1) := by decide +kernel
theorem d_MT_number_8 : decode b_MT_number 8 = .ok (.getfield 62, 3) := by decide +kernel
theorem d_MT_number_11 : decode b_MT_number 11 = .ok (.istore_n 3, 1) := by decide +kernel
theorem d_MT_number_12 : decode b_MT_number 12 = .ok (.iconst 0, 1) := by decide +kernel
theorem d_MT_number_13 : decode b_MT_number 13 = .ok (.istore 4, 2) := by decide +kernel
theorem d_MT_number_15 : decode b_MT_number 15 = .ok (.iconst 0, 1) := by decide +kernel
theorem d_MT_number_16 : decode b_MT_number 16 = .ok (.istore 5, 2) := by decide +kernel
theorem d_MT_number_18 : decode b_MT_number 18 = .ok (.aload_n 0, 1) := by decide +kernel
theorem d_MT_number_19 : decode b_MT_number 19 = .ok (.getfield 39, 3) := by decide +kernel
theorem d_MT_number_22 : decode b_MT_number 22 = .ok (.iload_n 2, 1) := by decide +kernel
theorem d_MT_number_23 : decode b_MT_number 23 = .ok (.aload_n 0, 1) := by decide +kernel
theorem d_MT_number_24 : decode b_MT_number 24 = .ok (.getfield 71, 3) := by decide +kernel
theorem d_MT_number_27 : decode b_MT_number 27 = .ok (.iastore, 1) := by decide +kernel
theorem d_MT_number_28 : decode b_MT_number 28 = .ok (.aload_n 0, 1) := by decide +kernel
theorem d_MT_number_29 : decode b_MT_number 29 = .ok (.getfield 48, 3) := by decide +kernel
theorem d_MT_number_32 : decode b_MT_number 32 = .ok (.iload_n 2, 1) := by decide +kernel
theorem d_MT_number_33 : decode b_MT_number 33 = .ok (.aload_n 0, 1) := by decide +kernel
theorem d_MT_number_34 : decode b_MT_number 34 = .ok (.aload_n 0, 1) := by decide +kernel
theorem d_MT_number_35 : decode b_MT_number 35 = .ok (.getfield 62, 3) := by decide +kernel
theorem d_MT_number_38 : decode b_MT_number 38 = .ok (.invokevirtual 85, 3) := by decide +kernel
theorem d_MT_number_41 : decode b_MT_number 41 = .ok (.bipush 45, 2) := by decide +kernel
theorem d_MT_number_43 : decode b_MT_number 43 = .ok (.if_icmp .ne 7, 3) := by decide +kernel
theorem d_MT_number_46 : decode b_MT_number 46 = .ok (.iconst 1, 1) := by decide +kernel
theorem d_MT_number_47 : decode b_MT_number 47 = .ok (.goto 4, 3) := by decide +kernel
theorem d_MT_number_50 : decode b_MT_number 50 = .ok (.iconst 0, 1) := by decide +kernel
