theorem d_MM_thrown_0 : decode b_MM_thrown 0 = .ok (.aload_n 0, 1) := by decide +kernel
theorem d_MM_thrown_1 : decode b_MM_thrown 1 = .ok (.getfield 230, 3) := by decide +kernel
theorem d_MM_thrown_4 : decode b_MM_thrown 4 = .ok (.ireturn, 1) := by decide +kernel
theorem d_MM_fails_0 : decode b_MM_fails 0 = .ok (.iload_n 1, 1) := by decide +kernel
theorem d_MM_fails_1 : decode b_MM_fails 1 = .ok (.ifCond .eq 15, 3) := by decide +kernel
theorem d_MM_fails_4 : decode b_MM_fails 4 = .ok (.aload_n 0, 1) := by decide +kernel
theorem d_MM_fails_5 : decode b_MM_fails 5 = .ok (.getfield 230, 3) := by decide +kernel
theorem d_MM_fails_8 : decode b_MM_fails 8 = .ok (.ifCond .ne 8, 3) := by decide +kernel
theorem d_MM_fails_11 : decode b_MM_fails 11 = .ok (.aload_n 0, 1) := by decide +kernel
theorem d_MM_fails_12 : decode b_MM_fails 12 = .ok (.iload_n 2, 1) := by decide +kernel
theorem d_MM_fails_13 : decode b_MM_fails 13 = .ok (.putfield 230, 3) := by decide +kernel
theorem d_MM_fails_16 : decode b_MM_fails 16 = .ok (.aload_n 0, 1) := by decide +kernel
theorem d_MM_fails_17 : decode b_MM_fails 17 = .ok (.getfield 230, 3) := by decide +kernel
theorem d_MM_fails_20 : decode b_MM_fails 20 = .ok (.ifCond .eq 7, 3) := by decide +kernel
theorem d_MM_fails_23 : decode b_MM_fails 23 = .ok (.iconst 1, 1) := by decide +kernel
theorem d_MM_fails_24 : decode b_MM_fails 24 = .ok (.goto 4, 3) := by decide +kernel
theorem d_MM_fails_27 : decode b_MM_fails 27 = .ok (.iconst 0, 1) := by decide +kernel
theorem d_MM_fails_28 : decode b_MM_fails 28 = .ok (.ireturn, 1) := by decide +kernel
theorem d_MM_in_0 : decode b_MM_in 0 = .ok (.iload_n 0, 1) := by decide +kernel
theorem d_MM_in_1 : decode b_MM_in 1 = .ok (.iload_n 1, 1) := by decide +kernel
theorem d_MM_in_2 : decode b_MM_in 2 = .ok (.if_icmp .lt 12, 3) := by decide +kernel
theorem d_MM_in_5 : decode b_MM_in 5 = .ok (.iload_n 0, 1) := by decide +kernel
theorem d_MM_in_6 : decode b_MM_in 6 = .ok (.iload_n 2, 1) := by decide +kernel
theorem d_MM_in_7 : decode b_MM_in 7 = .ok (.if_icmp .gt 7, 3) := by decide +kernel
theorem d_MM_in_10 : decode b_MM_in 10 = .ok (.iconst 1, 1) := by decide +kernel
theorem d_MM_in_11 : decode b_MM_in 11 = .ok (.goto 4, 3) := by decide +kernel
theorem d_MM_in_14 : decode b_MM_in 14 = .ok (.iconst 0, 1) := by decide +kernel
theorem d_MM_in_15 : decode b_MM_in 15 = .ok (.ireturn, 1) := by decide +kernel
theorem d_MM_feed_0 : decode b_MM_feed 0 = .ok (.aload_n 0, 1) := by decide +kernel
theorem d_MM_feed_1 : decode b_MM_feed 1 = .ok (.iconst 0, 1) := by decide +kernel
theorem d_MM_feed_2 : decode b_MM_feed 2 = .ok (.putfield 230, 3) := by decide +kernel
theorem d_MM_feed_5 : decode b_MM_feed 5 = .ok (.aload_n 0, 1) := by decide +kernel
theorem d_MM_feed_6 : decode b_MM_feed 6 = .ok (.aload_n 0, 1) := by decide +kernel
theorem d_MM_feed_7 : decode b_MM_feed 7 = .ok (.getfield 233, 3) := by decide +kernel
theorem d_MM_feed_10 : decode b_MM_feed 10 = .ok (.bipush 20, 2) := by decide +kernel
theorem d_MM_feed_12 : decode b_MM_feed 12 = .ok (.iadd, 1) := by decide +kernel
theorem d_MM_feed_13 : decode b_MM_feed 13 = .ok (.sipush 8200, 3) := by decide +kernel
theorem d_MM_feed_16 : decode b_MM_feed 16 = .ok (.if_icmp .le 7, 3) := by decide +kernel
theorem d_MM_feed_19 : decode b_MM_feed 19 = .ok (.iconst 1, 1) := by decide +kernel
theorem d_MM_feed_20 : decode b_MM_feed 20 = .ok (.goto 4, 3) := by decide +kernel
theorem d_MM_feed_23 : decode b_MM_feed 23 = .ok (.iconst 0, 1) := by decide +kernel
theorem d_MM_feed_24 : decode b_MM_feed 24 = .ok (.iconst 1, 1) := by decide +kernel
theorem d_MM_feed_25 : decode b_MM_feed 25 = .ok (.invokevirtual 236, 3) := by decide +kernel
theorem d_MM_feed_28 : decode b_MM_feed 28 = .ok (.ifCond .eq 5, 3) := by decide +kernel
theorem d_MM_feed_31 : decode b_MM_feed 31 = .ok (.iconst 0, 1) := by decide +kernel
theorem d_MM_feed_32 : decode b_MM_feed 32 = .ok (.ireturn, 1) := by decide +kernel
theorem d_MM_feed_33 : decode b_MM_feed 33 = .ok (.iconst 0, 1) := by decide +kernel
theorem d_MM_feed_34 : decode b_MM_feed 34 = .ok (.istore 6, 2) := by decide +kernel
theorem d_MM_feed_36 : decode b_MM_feed 36 = .ok (.iload 6, 2) := by decide +kernel
theorem d_MM_feed_38 : decode b_MM_feed 38 = .ok (.bipush 20, 2) := by decide +kernel
theorem d_MM_feed_40 : decode b_MM_feed 40 = .ok (.if_icmp .ge 90, 3) := by decide +kernel
theorem d_MM_feed_43 : decode b_MM_feed 43 = .ok (.iload 6, 2) := by decide +kernel
theorem d_MM_feed_45 : decode b_MM_feed 45 = .ok (.iconst 4, 1) := by decide +kernel
theorem d_MM_feed_46 : decode b_MM_feed 46 = .ok (.if_icmp .ge 7, 3) := by decide +kernel
theorem d_MM_feed_49 : decode b_MM_feed 49 = .ok (.iload_n 1, 1) := by decide +kernel
theorem d_MM_feed_50 : decode b_MM_feed 50 = .ok (.goto 39, 3) := by decide +kernel
theorem d_MM_feed_53 : decode b_MM_feed 53 = .ok (.iload 6, 2) := by decide +kernel
theorem d_MM_feed_55 : decode b_MM_feed 55 = .ok (.bipush 8, 2) := by decide +kernel
theorem d_MM_feed_57 : decode b_MM_feed 57 = .ok (.if_icmp .ge 7, 3) := by decide +kernel
theorem d_MM_feed_60 : decode b_MM_feed 60 = .ok (.iload_n 2, 1) := by decide +kernel
theorem d_MM_feed_61 : decode b_MM_feed 61 = .ok (.goto 28, 3) := by decide +kernel
theorem d_MM_feed_64 : decode b_MM_feed 64 = .ok (.iload 6, 2) := by decide +kernel
theorem d_MM_feed_66 : decode b_MM_feed 66 = .ok (.bipush 12, 2) := by decide +kernel
theorem d_MM_feed_68 : decode b_MM_feed 68 = .ok (.if_icmp .ge 7, 3) := by decide +kernel
theorem d_MM_feed_71 : decode b_MM_feed 71 = .ok (.iload_n 3, 1) := by decide +kernel
theorem d_MM_feed_72 : decode b_MM_feed 72 = .ok (.goto 17, 3) := by decide +kernel
theorem d_MM_feed_75 : decode b_MM_feed 75 = .ok (.iload 6, 2) := by decide +kernel
theorem d_MM_feed_77 : decode b_MM_feed 77 = .ok (.bipush 16, 2) := by decide +kernel
theorem d_MM_feed_79 : decode b_MM_feed 79 = .ok (.if_icmp .ge 8, 3) := by decide +kernel
theorem d_MM_feed_82 : decode b_MM_feed 82 = .ok (.iload 4, 2) := by decide +kernel
theorem d_MM_feed_84 : decode b_MM_feed 84 = .ok (.goto 5, 3) := by decide +kernel
theorem d_MM_feed_87 : decode b_MM_feed 87 = .ok (.iload 5, 2) := by decide +kernel
theorem d_MM_feed_89 : decode b_MM_feed 89 = .ok (.istore 7, 2) := by decide +kernel
theorem d_MM_feed_91 : decode b_MM_feed 91 = .ok (.aload_n 0, 1) := by decide +kernel
theorem d_MM_feed_92 : decode b_MM_feed 92 = .ok (.getfield 13, 3) := by decide +kernel
theorem d_MM_feed_95 : decode b_MM_feed 95 = .ok (.aload_n 0, 1) := by decide +kernel
theorem d_MM_feed_96 : decode b_MM_feed 96 = .ok (.dup, 1) := by decide +kernel
theorem d_MM_feed_97 : decode b_MM_feed 97 = .ok (.getfield 233, 3) := by decide +kernel
theorem d_MM_feed_100 : decode b_MM_feed 100 = .ok (.dup_x1, 1) := by decide +kernel
theorem d_MM_feed_101 : decode b_MM_feed 101 = .ok (.iconst 1, 1) := by decide +kernel
theorem d_MM_feed_102 : decode b_MM_feed 102 = .ok (.iadd, 1) := by decide +kernel
theorem d_MM_feed_103 : decode b_MM_feed 103 = .ok (.putfield 233, 3) := by decide +kernel
theorem d_MM_feed_106 : decode b_MM_feed 106 = .ok (.iload 7, 2) := by decide +kernel
theorem d_MM_feed_108 : decode b_MM_feed 108 = .ok (.bipush 24, 2) := by decide +kernel
theorem d_MM_feed_110 : decode b_MM_feed 110 = .ok (.bipush 8, 2) := by decide +kernel
theorem d_MM_feed_112 : decode b_MM_feed 112 = .ok (.iload 6, 2) := by decide +kernel
theorem d_MM_feed_114 : decode b_MM_feed 114 = .ok (.iconst 3, 1) := by decide +kernel
theorem d_MM_feed_115 : decode b_MM_feed 115 = .ok (.iand, 1) := by decide +kernel
theorem d_MM_feed_116 : decode b_MM_feed 116 = .ok (.imul, 1) := by decide +kernel
theorem d_MM_feed_117 : decode b_MM_feed 117 = .ok (.isub, 1) := by decide +kernel
theorem d_MM_feed_118 : decode b_MM_feed 118 = .ok (.iushr, 1) := by decide +kernel
theorem d_MM_feed_119 : decode b_MM_feed 119 = .ok (.sipush 255, 3) := by decide +kernel
theorem d_MM_feed_122 : decode b_MM_feed 122 = .ok (.iand, 1) := by decide +kernel
theorem d_MM_feed_123 : decode b_MM_feed 123 = .ok (.iastore, 1) := by decide +kernel
theorem d_MM_feed_124 : decode b_MM_feed 124 = .ok (.iinc 6 1, 3) := by decide +kernel
theorem d_MM_feed_127 : decode b_MM_feed 127 = .ok (.goto (-91), 3) := by decide +kernel
theorem d_MM_feed_130 : decode b_MM_feed 130 = .ok (.aload_n 0, 1) := by decide +kernel
theorem d_MM_feed_131 : decode b_MM_feed 131 = .ok (.getfield 233, 3) := by decide +kernel
theorem d_MM_feed_134 : decode b_MM_feed 134 = .ok (.ireturn, 1) := by decide +kernel
theorem d_MT_c_0 : decode b_MT_c 0 = .ok (.iload_n 1, 1) := by decide +kernel
theorem d_MT_c_1 : decode b_MT_c 1 = .ok (.aload_n 0, 1) := by decide +kernel
theorem d_MT_c_2 : decode b_MT_c 2 = .ok (.getfield 59, 3) := by decide +kernel
theorem d_MT_c_5 : decode b_MT_c 5 = .ok (.if_icmp .ge 12, 3) := by decide +kernel
theorem d_MT_c_8 : decode b_MT_c 8 = .ok (.aload_n 0, 1) := by decide +kernel
theorem d_MT_c_9 : decode b_MT_c 9 = .ok (.getfield 9, 3) := by decide +kernel
theorem d_MT_c_12 : decode b_MT_c 12 = .ok (.iload_n 1, 1) := by decide +kernel
theorem d_MT_c_13 : decode b_MT_c 13 = .ok (.iaload, 1) := by decide +kernel
theorem d_MT_c_14 : decode b_MT_c 14 = .ok (.goto 4, 3) := by decide +kernel
theorem d_MT_c_17 : decode b_MT_c 17 = .ok (.iconst (-1), 1) := by decide +kernel
theorem d_MT_c_18 : decode b_MT_c 18 = .ok (.ireturn, 1) := by decide +kernel
theorem d_MT_blanks_0 : decode b_MT_blanks 0 = .ok (.aload_n 0, 1) := by decide +kernel
theorem d_MT_blanks_1 : decode b_MT_blanks 1 = .ok (.aload_n 0, 1) := by decide +kernel
theorem d_MT_blanks_2 : decode b_MT_blanks 2 = .ok (.getfield 62, 3) := by decide +kernel
theorem d_MT_blanks_5 : decode b_MT_blanks 5 = .ok (.invokevirtual 85, 3) := by decide +kernel
theorem d_MT_blanks_8 : decode b_MT_blanks 8 = .ok (.bipush 32, 2) := by decide +kernel
theorem d_MT_blanks_10 : decode b_MT_blanks 10 = .ok (.if_icmp .eq 42, 3) := by decide +kernel
theorem d_MT_blanks_13 : decode b_MT_blanks 13 = .ok (.aload_n 0, 1) := by decide +kernel
theorem d_MT_blanks_14 : decode b_MT_blanks 14 = .ok (.aload_n 0, 1) := by decide +kernel
theorem d_MT_blanks_15 : decode b_MT_blanks 15 = .ok (.getfield 62, 3) := by decide +kernel
theorem d_MT_blanks_18 : decode b_MT_blanks 18 = .ok (.invokevirtual 85, 3) := by decide +kernel
theorem d_MT_blanks_21 : decode b_MT_blanks 21 = .ok (.bipush 9, 2) := by decide +kernel
theorem d_MT_blanks_23 : decode b_MT_blanks 23 = .ok (.if_icmp .eq 29, 3) := by decide +kernel
theorem d_MT_blanks_26 : decode b_MT_blanks 26 = .ok (.aload_n 0, 1) := by decide +kernel
theorem d_MT_blanks_27 : decode b_MT_blanks 27 = .ok (.aload_n 0, 1) := by decide +kernel
theorem d_MT_blanks_28 : decode b_MT_blanks 28 = .ok (.getfield 62, 3) := by decide +kernel
theorem d_MT_blanks_31 : decode b_MT_blanks 31 = .ok (.invokevirtual 85, 3) := by decide +kernel
theorem d_MT_blanks_34 : decode b_MT_blanks 34 = .ok (.bipush 10, 2) := by decide +kernel
theorem d_MT_blanks_36 : decode b_MT_blanks 36 = .ok (.if_icmp .eq 16, 3) := by decide +kernel
theorem d_MT_blanks_39 : decode b_MT_blanks 39 = .ok (.aload_n 0, 1) := by decide +kernel
theorem d_MT_blanks_40 : decode b_MT_blanks 40 = .ok (.aload_n 0, 1) := by decide +kernel
theorem d_MT_blanks_41 : decode b_MT_blanks 41 = .ok (.getfield 62, 3) := by decide +kernel
theorem d_MT_blanks_44 : decode b_MT_blanks 44 = .ok (.invokevirtual 85, 3) := by decide +kernel
theorem d_MT_blanks_47 : decode b_MT_blanks 47 = .ok (.bipush 13, 2) := by decide +kernel
theorem d_MT_blanks_49 : decode b_MT_blanks 49 = .ok (.if_icmp .ne 16, 3) := by decide +kernel
theorem d_MT_blanks_52 : decode b_MT_blanks 52 = .ok (.aload_n 0, 1) := by decide +kernel
theorem d_MT_blanks_53 : decode b_MT_blanks 53 = .ok (.dup, 1) := by decide +kernel
theorem d_MT_blanks_54 : decode b_MT_blanks 54 = .ok (.getfield 62, 3) := by decide +kernel
theorem d_MT_blanks_57 : decode b_MT_blanks 57 = .ok (.iconst 1, 1) := by decide +kernel
theorem d_MT_blanks_58 : decode b_MT_blanks 58 = .ok (.iadd, 1) := by decide +kernel
theorem d_MT_blanks_59 : decode b_MT_blanks 59 = .ok (.putfield 62, 3) := by decide +kernel
theorem d_MT_blanks_62 : decode b_MT_blanks 62 = .ok (.goto (-62), 3) := by decide +kernel
theorem d_MT_blanks_65 : decode b_MT_blanks 65 = .ok (.return_, 1) := by decide +kernel
theorem d_MT_bad_0 : decode b_MT_bad 0 = .ok (.aload_n 0, 1) := by decide +kernel
theorem d_MT_bad_1 : decode b_MT_bad 1 = .ok (.getfield 55, 3) := by decide +kernel
theorem d_MT_bad_4 : decode b_MT_bad 4 = .ok (.ifCond .ge 8, 3) := by decide +kernel
theorem d_MT_bad_7 : decode b_MT_bad 7 = .ok (.aload_n 0, 1) := by decide +kernel
theorem d_MT_bad_8 : decode b_MT_bad 8 = .ok (.iload_n 1, 1) := by decide +kernel
theorem d_MT_bad_9 : decode b_MT_bad 9 = .ok (.putfield 55, 3) := by decide +kernel
theorem d_MT_bad_12 : decode b_MT_bad 12 = .ok (.iconst 0, 1) := by decide +kernel
theorem d_MT_bad_13 : decode b_MT_bad 13 = .ok (.ireturn, 1) := by decide +kernel
theorem d_MT_value_0 : decode b_MT_value 0 = .ok (.aload_n 0, 1) := by decide +kernel
theorem d_MT_value_1 : decode b_MT_value 1 = .ok (.aload_n 0, 1) := by decide +kernel
theorem d_MT_value_2 : decode b_MT_value 2 = .ok (.getfield 62, 3) := by decide +kernel
theorem d_MT_value_5 : decode b_MT_value 5 = .ok (.invokevirtual 85, 3) := by decide +kernel
theorem d_MT_value_8 : decode b_MT_value 8 = .ok (.istore_n 3, 1) := by decide +kernel
theorem d_MT_value_9 : decode b_MT_value 9 = .ok (.iload_n 3, 1) := by decide +kernel
theorem d_MT_value_10 : decode b_MT_value 10 = .ok (.bipush 48, 2) := by decide +kernel
theorem d_MT_value_12 : decode b_MT_value 12 = .ok (.bipush 57, 2) := by decide +kernel
theorem d_MT_value_14 : decode b_MT_value 14 = .ok (.invokestatic 103, 3) := by decide +kernel
theorem d_MT_value_17 : decode b_MT_value 17 = .ok (.ifCond .ne 9, 3) := by decide +kernel
theorem d_MT_value_20 : decode b_MT_value 20 = .ok (.iload_n 3, 1) := by decide +kernel
theorem d_MT_value_21 : decode b_MT_value 21 = .ok (.bipush 45, 2) := by decide +kernel
theorem d_MT_value_23 : decode b_MT_value 23 = .ok (.if_icmp .ne 7, 3) := by decide +kernel
theorem d_MT_value_26 : decode b_MT_value 26 = .ok (.iconst 1, 1) := by decide +kernel
theorem d_MT_value_27 : decode b_MT_value 27 = .ok (.goto 4, 3) := by decide +kernel
theorem d_MT_value_30 : decode b_MT_value 30 = .ok (.iconst 0, 1) := by decide +kernel
theorem d_MT_value_31 : decode b_MT_value 31 = .ok (.istore 4, 2) := by decide +kernel
theorem d_MT_value_33 : decode b_MT_value 33 = .ok (.iload_n 3, 1) := by decide +kernel
theorem d_MT_value_34 : decode b_MT_value 34 = .ok (.bipush 110, 2) := by decide +kernel
theorem d_MT_value_36 : decode b_MT_value 36 = .ok (.if_icmp .eq 47, 3) := by decide +kernel
theorem d_MT_value_39 : decode b_MT_value 39 = .ok (.iload_n 3, 1) := by decide +kernel
theorem d_MT_value_40 : decode b_MT_value 40 = .ok (.bipush 116, 2) := by decide +kernel
theorem d_MT_value_42 : decode b_MT_value 42 = .ok (.if_icmp .eq 41, 3) := by decide +kernel
theorem d_MT_value_45 : decode b_MT_value 45 = .ok (.iload_n 3, 1) := by decide +kernel
theorem d_MT_value_46 : decode b_MT_value 46 = .ok (.bipush 102, 2) := by decide +kernel
theorem d_MT_value_48 : decode b_MT_value 48 = .ok (.if_icmp .eq 35, 3) := by decide +kernel
theorem d_MT_value_51 : decode b_MT_value 51 = .ok (.iload_n 3, 1) := by decide +kernel
theorem d_MT_value_52 : decode b_MT_value 52 = .ok (.bipush 34, 2) := by decide +kernel
theorem d_MT_value_54 : decode b_MT_value 54 = .ok (.if_icmp .eq 29, 3) := by decide +kernel
theorem d_MT_value_57 : decode b_MT_value 57 = .ok (.iload_n 3, 1) := by decide +kernel
theorem d_MT_value_58 : decode b_MT_value 58 = .ok (.bipush 91, 2) := by decide +kernel
theorem d_MT_value_60 : decode b_MT_value 60 = .ok (.if_icmp .eq 23, 3) := by decide +kernel
theorem d_MT_value_63 : decode b_MT_value 63 = .ok (.iload_n 3, 1) := by decide +kernel
theorem d_MT_value_64 : decode b_MT_value 64 = .ok (.bipush 123, 2) := by decide +kernel
theorem d_MT_value_66 : decode b_MT_value 66 = .ok (.if_icmp .eq 17, 3) := by decide +kernel
theorem d_MT_value_69 : decode b_MT_value 69 = .ok (.iload 4, 2) := by decide +kernel
theorem d_MT_value_71 : decode b_MT_value 71 = .ok (.ifCond .ne 12, 3) := by decide +kernel
theorem d_MT_value_74 : decode b_MT_value 74 = .ok (.aload_n 0, 1) := by decide +kernel
theorem d_MT_value_75 : decode b_MT_value 75 = .ok (.aload_n 0, 1) := by decide +kernel
theorem d_MT_value_76 : decode b_MT_value 76 = .ok (.getfield 62, 3) := by decide +kernel
theorem d_MT_value_79 : decode b_MT_value 79 = .ok (.invokevirtual 81, 3) := by decide +kernel
theorem d_MT_value_82 : decode b_MT_value 82 = .ok (.ireturn, 1) := by decide +kernel
theorem d_MT_value_83 : decode b_MT_value 83 = .ok (.aload_n 0, 1) := by decide +kernel
theorem d_MT_value_84 : decode b_MT_value 84 = .ok (.getfield 65, 3) := by decide +kernel
theorem d_MT_value_87 : decode b_MT_value 87 = .ok (.sipush 1000, 3) := by decide +kernel
theorem d_MT_value_90 : decode b_MT_value 90 = .ok (.if_icmp .ne 12, 3) := by decide +kernel
theorem d_MT_value_93 : decode b_MT_value 93 = .ok (.aload_n 0, 1) := by decide +kernel
theorem d_MT_value_94 : decode b_MT_value 94 = .ok (.aload_n 0, 1) := by decide +kernel
theorem d_MT_value_95 : decode b_MT_value 95 = .ok (.getfield 62, 3) := by decide +kernel
theorem d_MT_value_98 : decode b_MT_value 98 = .ok (.invokevirtual 81, 3) := by decide +kernel
theorem d_MT_value_101 : decode b_MT_value 101 = .ok (.ireturn, 1) := by decide +kernel
theorem d_MT_value_102 : decode b_MT_value 102 = .ok (.iload_n 3, 1) := by decide +kernel
theorem d_MT_value_103 : decode b_MT_value 103 = .ok (.bipush 110, 2) := by decide +kernel
theorem d_MT_value_105 : decode b_MT_value 105 = .ok (.if_icmp .ne 12, 3) := by decide +kernel
theorem d_MT_value_108 : decode b_MT_value 108 = .ok (.aload_n 0, 1) := by decide +kernel
theorem d_MT_value_109 : decode b_MT_value 109 = .ok (.ldc 107, 2) := by decide +kernel
theorem d_MT_value_111 : decode b_MT_value 111 = .ok (.iload_n 1, 1) := by decide +kernel
theorem d_MT_value_112 : decode b_MT_value 112 = .ok (.iconst 0, 1) := by decide +kernel
theorem d_MT_value_113 : decode b_MT_value 113 = .ok (.invokevirtual 109, 3) := by decide +kernel
theorem d_MT_value_116 : decode b_MT_value 116 = .ok (.ireturn, 1) := by decide +kernel
theorem d_MT_value_117 : decode b_MT_value 117 = .ok (.iload_n 3, 1) := by decide +kernel
theorem d_MT_value_118 : decode b_MT_value 118 = .ok (.bipush 116, 2) := by decide +kernel
theorem d_MT_value_120 : decode b_MT_value 120 = .ok (.if_icmp .ne 12, 3) := by decide +kernel
theorem d_MT_value_123 : decode b_MT_value 123 = .ok (.aload_n 0, 1) := by decide +kernel
theorem d_MT_value_124 : decode b_MT_value 124 = .ok (.ldc 113, 2) := by decide +kernel
theorem d_MT_value_126 : decode b_MT_value 126 = .ok (.iload_n 1, 1) := by decide +kernel
theorem d_MT_value_127 : decode b_MT_value 127 = .ok (.iconst 2, 1) := by decide +kernel
theorem d_MT_value_128 : decode b_MT_value 128 = .ok (.invokevirtual 109, 3) := by decide +kernel
theorem d_MT_value_131 : decode b_MT_value 131 = .ok (.ireturn, 1) := by decide +kernel
theorem d_MT_value_132 : decode b_MT_value 132 = .ok (.iload_n 3, 1) := by decide +kernel
theorem d_MT_value_133 : decode b_MT_value 133 = .ok (.bipush 102, 2) := by decide +kernel
theorem d_MT_value_135 : decode b_MT_value 135 = .ok (.if_icmp .ne 12, 3) := by decide +kernel
theorem d_MT_value_138 : decode b_MT_value 138 = .ok (.aload_n 0, 1) := by decide +kernel
theorem d_MT_value_139 : decode b_MT_value 139 = .ok (.ldc 115, 2) := by decide +kernel
theorem d_MT_value_141 : decode b_MT_value 141 = .ok (.iload_n 1, 1) := by decide +kernel
theorem d_MT_value_142 : decode b_MT_value 142 = .ok (.iconst 1, 1) := by decide +kernel
theorem d_MT_value_143 : decode b_MT_value 143 = .ok (.invokevirtual 109, 3) := by decide +kernel
theorem d_MT_value_146 : decode b_MT_value 146 = .ok (.ireturn, 1) := by decide +kernel
theorem d_MT_value_147 : decode b_MT_value 147 = .ok (.iload_n 3, 1) := by decide +kernel
theorem d_MT_value_148 : decode b_MT_value 148 = .ok (.bipush 34, 2) := by decide +kernel
theorem d_MT_value_150 : decode b_MT_value 150 = .ok (.if_icmp .ne 9, 3) := by decide +kernel
theorem d_MT_value_153 : decode b_MT_value 153 = .ok (.aload_n 0, 1) := by decide +kernel
theorem d_MT_value_154 : decode b_MT_value 154 = .ok (.iload_n 1, 1) := by decide +kernel
theorem d_MT_value_155 : decode b_MT_value 155 = .ok (.invokevirtual 117, 3) := by decide +kernel
theorem d_MT_value_158 : decode b_MT_value 158 = .ok (.ireturn, 1) := by decide +kernel
theorem d_MT_value_159 : decode b_MT_value 159 = .ok (.iload 4, 2) := by decide +kernel
theorem d_MT_value_161 : decode b_MT_value 161 = .ok (.ifCond .eq 9, 3) := by decide +kernel
theorem d_MT_value_164 : decode b_MT_value 164 = .ok (.aload_n 0, 1) := by decide +kernel
theorem d_MT_value_165 : decode b_MT_value 165 = .ok (.iload_n 1, 1) := by decide +kernel
theorem d_MT_value_166 : decode b_MT_value 166 = .ok (.invokevirtual 120, 3) := by decide +kernel
theorem d_MT_value_169 : decode b_MT_value 169 = .ok (.ireturn, 1) := by decide +kernel
theorem d_MT_value_170 : decode b_MT_value 170 = .ok (.iload_n 2, 1) := by decide +kernel
theorem d_MT_value_171 : decode b_MT_value 171 = .ok (.bipush 40, 2) := by decide +kernel
theorem d_MT_value_173 : decode b_MT_value 173 = .ok (.if_icmp .ne 12, 3) := by decide +kernel
theorem d_MT_value_176 : decode b_MT_value 176 = .ok (.aload_n 0, 1) := by decide +kernel
theorem d_MT_value_177 : decode b_MT_value 177 = .ok (.aload_n 0, 1) := by decide +kernel
theorem d_MT_value_178 : decode b_MT_value 178 = .ok (.getfield 62, 3) := by decide +kernel
theorem d_MT_value_181 : decode b_MT_value 181 = .ok (.invokevirtual 81, 3) := by decide +kernel
theorem d_MT_value_184 : decode b_MT_value 184 = .ok (.ireturn, 1) := by decide +kernel
theorem d_MT_value_185 : decode b_MT_value 185 = .ok (.iload_n 3, 1) := by decide +kernel
theorem d_MT_value_186 : decode b_MT_value 186 = .ok (.bipush 91, 2) := by decide +kernel
theorem d_MT_value_188 : decode b_MT_value 188 = .ok (.if_icmp .ne 12, 3) := by decide +kernel
theorem d_MT_value_191 : decode b_MT_value 191 = .ok (.aload_n 0, 1) := by decide +kernel
theorem d_MT_value_192 : decode b_MT_value 192 = .ok (.iload_n 1, 1) := by decide +kernel
theorem d_MT_value_193 : decode b_MT_value 193 = .ok (.iload_n 2, 1) := by decide +kernel
theorem d_MT_value_194 : decode b_MT_value 194 = .ok (.invokevirtual 123, 3) := by decide +kernel
theorem d_MT_value_197 : decode b_MT_value 197 = .ok (.goto 9, 3) := by decide +kernel
theorem d_MT_value_200 : decode b_MT_value 200 = .ok (.aload_n 0, 1) := by decide +kernel
theorem d_MT_value_201 : decode b_MT_value 201 = .ok (.iload_n 1, 1) := by decide +kernel
theorem d_MT_value_202 : decode b_MT_value 202 = .ok (.iload_n 2, 1) := by decide +kernel
theorem d_MT_value_203 : decode b_MT_value 203 = .ok (.invokevirtual 126, 3) := by decide +kernel
theorem d_MT_value_206 : decode b_MT_value 206 = .ok (.ireturn, 1) := by decide +kernel
theorem d_MT_read_0 : decode b_MT_read 0 = .ok (.aload_n 0, 1) := by decide +kernel
theorem d_MT_read_1 : decode b_MT_read 1 = .ok (.iload_n 1, 1) := by decide +kernel
theorem d_MT_read_2 : decode b_MT_read 2 = .ok (.putfield 59, 3) := by decide +kernel
theorem d_MT_read_5 : decode b_MT_read 5 = .ok (.aload_n 0, 1) := by decide +kernel
theorem d_MT_read_6 : decode b_MT_read 6 = .ok (.iconst 0, 1) := by decide +kernel
theorem d_MT_read_7 : decode b_MT_read 7 = .ok (.putfield 62, 3) := by decide +kernel
theorem d_MT_read_10 : decode b_MT_read 10 = .ok (.aload_n 0, 1) := by decide +kernel
theorem d_MT_read_11 : decode b_MT_read 11 = .ok (.iconst (-1), 1) := by decide +kernel
theorem d_MT_read_12 : decode b_MT_read 12 = .ok (.putfield 55, 3) := by decide +kernel
theorem d_MT_read_15 : decode b_MT_read 15 = .ok (.aload_n 0, 1) := by decide +kernel
theorem d_MT_read_16 : decode b_MT_read 16 = .ok (.iconst 0, 1) := by decide +kernel
theorem d_MT_read_17 : decode b_MT_read 17 = .ok (.putfield 65, 3) := by decide +kernel
theorem d_MT_read_20 : decode b_MT_read 20 = .ok (.aload_n 0, 1) := by decide +kernel
theorem d_MT_read_21 : decode b_MT_read 21 = .ok (.iconst 0, 1) := by decide +kernel
theorem d_MT_read_22 : decode b_MT_read 22 = .ok (.putfield 68, 3) := by decide +kernel
theorem d_MT_read_25 : decode b_MT_read 25 = .ok (.aload_n 0, 1) := by decide +kernel
theorem d_MT_read_26 : decode b_MT_read 26 = .ok (.iconst 0, 1) := by decide +kernel
theorem d_MT_read_27 : decode b_MT_read 27 = .ok (.putfield 71, 3) := by decide +kernel
theorem d_MT_read_30 : decode b_MT_read 30 = .ok (.aload_n 0, 1) := by decide +kernel
theorem d_MT_read_31 : decode b_MT_read 31 = .ok (.invokevirtual 74, 3) := by decide +kernel
theorem d_MT_read_34 : decode b_MT_read 34 = .ok (.aload_n 0, 1) := by decide +kernel
theorem d_MT_read_35 : decode b_MT_read 35 = .ok (.iconst (-1), 1) := by decide +kernel
theorem d_MT_read_36 : decode b_MT_read 36 = .ok (.iconst 0, 1) := by decide +kernel
theorem d_MT_read_37 : decode b_MT_read 37 = .ok (.invokevirtual 77, 3) := by decide +kernel
theorem d_MT_read_40 : decode b_MT_read 40 = .ok (.ifCond .eq 27, 3) := by decide +kernel
theorem d_MT_read_43 : decode b_MT_read 43 = .ok (.aload_n 0, 1) := by decide +kernel
theorem d_MT_read_44 : decode b_MT_read 44 = .ok (.invokevirtual 74, 3) := by decide +kernel
theorem d_MT_read_47 : decode b_MT_read 47 = .ok (.aload_n 0, 1) := by decide +kernel
theorem d_MT_read_48 : decode b_MT_read 48 = .ok (.getfield 62, 3) := by decide +kernel
theorem d_MT_read_51 : decode b_MT_read 51 = .ok (.aload_n 0, 1) := by decide +kernel
theorem d_MT_read_52 : decode b_MT_read 52 = .ok (.getfield 59, 3) := by decide +kernel
theorem d_MT_read_55 : decode b_MT_read 55 = .ok (.if_icmp .ge 12, 3) := by decide +kernel
theorem d_MT_read_58 : decode b_MT_read 58 = .ok (.aload_n 0, 1) := by decide +kernel
theorem d_MT_read_59 : decode b_MT_read 59 = .ok (.aload_n 0, 1) := by decide +kernel
theorem d_MT_read_60 : decode b_MT_read 60 = .ok (.getfield 62, 3) := by decide +kernel
theorem d_MT_read_63 : decode b_MT_read 63 = .ok (.invokevirtual 81, 3) := by decide +kernel
theorem d_MT_read_66 : decode b_MT_read 66 = .ok (.pop, 1) := by decide +kernel
theorem d_MT_read_67 : decode b_MT_read 67 = .ok (.aload_n 0, 1) := by decide +kernel
theorem d_MT_read_68 : decode b_MT_read 68 = .ok (.getfield 55, 3) := by decide +kernel
theorem d_MT_read_71 : decode b_MT_read 71 = .ok (.ifCond .lt 8, 3) := by decide +kernel
theorem d_MT_read_74 : decode b_MT_read 74 = .ok (.aload_n 0, 1) := by decide +kernel
theorem d_MT_read_75 : decode b_MT_read 75 = .ok (.iconst 0, 1) := by decide +kernel
theorem d_MT_read_76 : decode b_MT_read 76 = .ok (.putfield 65, 3) := by decide +kernel
theorem d_MT_read_79 : decode b_MT_read 79 = .ok (.aload_n 0, 1) := by decide +kernel
theorem d_MT_read_80 : decode b_MT_read 80 = .ok (.getfield 55, 3) := by decide +kernel
theorem d_MT_read_83 : decode b_MT_read 83 = .ok (.ireturn, 1) := by decide +kernel
theorem d_MM_end_0 : decode b_MM_end 0 = .ok (.aload_n 0, 1) := by decide +kernel
theorem d_MM_end_1 : decode b_MM_end 1 = .ok (.iconst 0, 1) := by decide +kernel
theorem d_MM_end_2 : decode b_MM_end 2 = .ok (.putfield 230, 3) := by decide +kernel
theorem d_MM_end_5 : decode b_MM_end 5 = .ok (.aload_n 0, 1) := by decide +kernel
theorem d_MM_end_6 : decode b_MM_end 6 = .ok (.iload_n 2, 1) := by decide +kernel
theorem d_MM_end_7 : decode b_MM_end 7 = .ok (.ifCond .lt 18, 3) := by decide +kernel
theorem d_MM_end_10 : decode b_MM_end 10 = .ok (.iload_n 2, 1) := by decide +kernel
theorem d_MM_end_11 : decode b_MM_end 11 = .ok (.sipush 8192, 3) := by decide +kernel
theorem d_MM_end_14 : decode b_MM_end 14 = .ok (.if_icmp .gt 11, 3) := by decide +kernel
theorem d_MM_end_17 : decode b_MM_end 17 = .ok (.iload_n 2, 1) := by decide +kernel
theorem d_MM_end_18 : decode b_MM_end 18 = .ok (.aload_n 0, 1) := by decide +kernel
theorem d_MM_end_19 : decode b_MM_end 19 = .ok (.getfield 233, 3) := by decide +kernel
theorem d_MM_end_22 : decode b_MM_end 22 = .ok (.if_icmp .le 7, 3) := by decide +kernel
theorem d_MM_end_25 : decode b_MM_end 25 = .ok (.iconst 1, 1) := by decide +kernel
theorem d_MM_end_26 : decode b_MM_end 26 = .ok (.goto 4, 3) := by decide +kernel
theorem d_MM_end_29 : decode b_MM_end 29 = .ok (.iconst 0, 1) := by decide +kernel
theorem d_MM_end_30 : decode b_MM_end 30 = .ok (.iconst 1, 1) := by decide +kernel
theorem d_MM_end_31 : decode b_MM_end 31 = .ok (.invokevirtual 236, 3) := by decide +kernel
theorem d_MM_end_34 : decode b_MM_end 34 = .ok (.ifCond .eq 5, 3) := by decide +kernel
theorem d_MM_end_37 : decode b_MM_end 37 = .ok (.iconst 0, 1) := by decide +kernel
theorem d_MM_end_38 : decode b_MM_end 38 = .ok (.ireturn, 1) := by decide +kernel
theorem d_MM_end_39 : decode b_MM_end 39 = .ok (.aload_n 0, 1) := by decide +kernel
theorem d_MM_end_40 : decode b_MM_end 40 = .ok (.iconst 0, 1) := by decide +kernel
theorem d_MM_end_41 : decode b_MM_end 41 = .ok (.putfield 233, 3) := by decide +kernel
theorem d_MM_end_44 : decode b_MM_end 44 = .ok (.iload_n 1, 1) := by decide +kernel
theorem d_MM_end_45 : decode b_MM_end 45 = .ok (.ifCond .eq 10, 3) := by decide +kernel
theorem d_MM_end_48 : decode b_MM_end 48 = .ok (.aload_n 0, 1) := by decide +kernel
theorem d_MM_end_49 : decode b_MM_end 49 = .ok (.getfield 20, 3) := by decide +kernel
theorem d_MM_end_52 : decode b_MM_end 52 = .ok (.goto 7, 3) := by decide +kernel
theorem d_MM_end_55 : decode b_MM_end 55 = .ok (.aload_n 0, 1) := by decide +kernel
theorem d_MM_end_56 : decode b_MM_end 56 = .ok (.getfield 24, 3) := by decide +kernel
theorem d_MM_end_59 : decode b_MM_end 59 = .ok (.astore_n 3, 1) := by decide +kernel
theorem d_MM_end_60 : decode b_MM_end 60 = .ok (.iconst 0, 1) := by decide +kernel
theorem d_MM_end_61 : decode b_MM_end 61 = .ok (.istore 4, 2) := by decide +kernel
theorem d_MM_end_63 : decode b_MM_end 63 = .ok (.iload 4, 2) := by decide +kernel
theorem d_MM_end_65 : decode b_MM_end 65 = .ok (.iload_n 2, 1) := by decide +kernel
theorem d_MM_end_66 : decode b_MM_end 66 = .ok (.if_icmp .ge 23, 3) := by decide +kernel
theorem d_MM_end_69 : decode b_MM_end 69 = .ok (.aload_n 3, 1) := by decide +kernel
theorem d_MM_end_70 : decode b_MM_end 70 = .ok (.getfield 240, 3) := by decide +kernel
theorem d_MM_end_73 : decode b_MM_end 73 = .ok (.iload 4, 2) := by decide +kernel
theorem d_MM_end_75 : decode b_MM_end 75 = .ok (.aload_n 0, 1) := by decide +kernel
theorem d_MM_end_76 : decode b_MM_end 76 = .ok (.getfield 13, 3) := by decide +kernel
theorem d_MM_end_79 : decode b_MM_end 79 = .ok (.iload 4, 2) := by decide +kernel
theorem d_MM_end_81 : decode b_MM_end 81 = .ok (.iaload, 1) := by decide +kernel
theorem d_MM_end_82 : decode b_MM_end 82 = .ok (.iastore, 1) := by decide +kernel
theorem d_MM_end_83 : decode b_MM_end 83 = .ok (.iinc 4 1, 3) := by decide +kernel
theorem d_MM_end_86 : decode b_MM_end 86 = .ok (.goto (-23), 3) := by decide +kernel
theorem d_MM_end_89 : decode b_MM_end 89 = .ok (.iload_n 1, 1) := by decide +kernel
theorem d_MM_end_90 : decode b_MM_end 90 = .ok (.ifCond .eq 13, 3) := by decide +kernel
theorem d_MM_end_93 : decode b_MM_end 93 = .ok (.aload_n 0, 1) := by decide +kernel
theorem d_MM_end_94 : decode b_MM_end 94 = .ok (.iconst 0, 1) := by decide +kernel
theorem d_MM_end_95 : decode b_MM_end 95 = .ok (.putfield 243, 3) := by decide +kernel
theorem d_MM_end_98 : decode b_MM_end 98 = .ok (.aload_n 0, 1) := by decide +kernel
theorem d_MM_end_99 : decode b_MM_end 99 = .ok (.iconst (-1), 1) := by decide +kernel
theorem d_MM_end_100 : decode b_MM_end 100 = .ok (.putfield 191, 3) := by decide +kernel
theorem d_MM_end_103 : decode b_MM_end 103 = .ok (.aload_n 0, 1) := by decide +kernel
theorem d_MM_end_104 : decode b_MM_end 104 = .ok (.aload_n 3, 1) := by decide +kernel
theorem d_MM_end_105 : decode b_MM_end 105 = .ok (.iload_n 2, 1) := by decide +kernel
theorem d_MM_end_106 : decode b_MM_end 106 = .ok (.invokevirtual 247, 3) := by decide +kernel
theorem d_MM_end_109 : decode b_MM_end 109 = .ok (.putfield 7, 3) := by decide +kernel
theorem d_MM_end_112 : decode b_MM_end 112 = .ok (.aload_n 0, 1) := by decide +kernel
theorem d_MM_end_113 : decode b_MM_end 113 = .ok (.aload_n 0, 1) := by decide +kernel
theorem d_MM_end_114 : decode b_MM_end 114 = .ok (.getfield 7, 3) := by decide +kernel
theorem d_MM_end_117 : decode b_MM_end 117 = .ok (.ifCond .lt 7, 3) := by decide +kernel
theorem d_MM_end_120 : decode b_MM_end 120 = .ok (.iconst 1, 1) := by decide +kernel
theorem d_MM_end_121 : decode b_MM_end 121 = .ok (.goto 4, 3) := by decide +kernel
theorem d_MM_end_124 : decode b_MM_end 124 = .ok (.iconst 0, 1) := by decide +kernel
theorem d_MM_end_125 : decode b_MM_end 125 = .ok (.iconst 2, 1) := by decide +kernel
theorem d_MM_end_126 : decode b_MM_end 126 = .ok (.invokevirtual 236, 3) := by decide +kernel
theorem d_MM_end_129 : decode b_MM_end 129 = .ok (.ifCond .eq 7, 3) := by decide +kernel
theorem d_MM_end_132 : decode b_MM_end 132 = .ok (.iconst 0, 1) := by decide +kernel
theorem d_MM_end_133 : decode b_MM_end 133 = .ok (.goto 7, 3) := by decide +kernel
theorem d_MM_end_136 : decode b_MM_end 136 = .ok (.aload_n 3, 1) := by decide +kernel
theorem d_MM_end_137 : decode b_MM_end 137 = .ok (.getfield 251, 3) := by decide +kernel
theorem d_MM_end_140 : decode b_MM_end 140 = .ok (.ireturn, 1) := by decide +kernel
theorem d_MM_wrong_0 : decode b_MM_wrong 0 = .ok (.aload_n 0, 1) := by decide +kernel
theorem d_MM_wrong_1 : decode b_MM_wrong 1 = .ok (.iconst 0, 1) := by decide +kernel
theorem d_MM_wrong_2 : decode b_MM_wrong 2 = .ok (.putfield 230, 3) := by decide +kernel
theorem d_MM_wrong_5 : decode b_MM_wrong 5 = .ok (.aload_n 0, 1) := by decide +kernel
theorem d_MM_wrong_6 : decode b_MM_wrong 6 = .ok (.getfield 7, 3) := by decide +kernel
theorem d_MM_wrong_9 : decode b_MM_wrong 9 = .ok (.ireturn, 1) := by decide +kernel
theorem d_MM_check_0 : decode b_MM_check 0 = .ok (.aload_n 0, 1) := by decide +kernel
theorem d_MM_check_1 : decode b_MM_check 1 = .ok (.iconst 0, 1) := by decide +kernel
theorem d_MM_check_2 : decode b_MM_check 2 = .ok (.putfield 230, 3) := by decide +kernel
theorem d_MM_check_5 : decode b_MM_check 5 = .ok (.aload_n 0, 1) := by decide +kernel
theorem d_MM_check_6 : decode b_MM_check 6 = .ok (.aload_n 0, 1) := by decide +kernel
theorem d_MM_check_7 : decode b_MM_check 7 = .ok (.getfield 20, 3) := by decide +kernel
theorem d_MM_check_10 : decode b_MM_check 10 = .ok (.getfield 251, 3) := by decide +kernel
theorem d_MM_check_13 : decode b_MM_check 13 = .ok (.ifCond .ne 7, 3) := by decide +kernel
theorem d_MM_check_16 : decode b_MM_check 16 = .ok (.iconst 1, 1) := by decide +kernel
theorem d_MM_check_17 : decode b_MM_check 17 = .ok (.goto 4, 3) := by decide +kernel
theorem d_MM_check_20 : decode b_MM_check 20 = .ok (.iconst 0, 1) := by decide +kernel
theorem d_MM_check_21 : decode b_MM_check 21 = .ok (.iconst 1, 1) := by decide +kernel
theorem d_MM_check_22 : decode b_MM_check 22 = .ok (.invokevirtual 236, 3) := by decide +kernel
theorem d_MM_check_25 : decode b_MM_check 25 = .ok (.ifCond .eq 5, 3) := by decide +kernel
theorem d_MM_check_28 : decode b_MM_check 28 = .ok (.iconst 0, 1) := by decide +kernel
theorem d_MM_check_29 : decode b_MM_check 29 = .ok (.ireturn, 1) := by decide +kernel
theorem d_MM_check_30 : decode b_MM_check 30 = .ok (.aload_n 0, 1) := by decide +kernel
theorem d_MM_check_31 : decode b_MM_check 31 = .ok (.iconst 0, 1) := by decide +kernel
theorem d_MM_check_32 : decode b_MM_check 32 = .ok (.putfield 394, 3) := by decide +kernel
theorem d_MM_check_35 : decode b_MM_check 35 = .ok (.aload_n 0, 1) := by decide +kernel
theorem d_MM_check_36 : decode b_MM_check 36 = .ok (.iconst 0, 1) := by decide +kernel
theorem d_MM_check_37 : decode b_MM_check 37 = .ok (.putfield 400, 3) := by decide +kernel
theorem d_MM_check_40 : decode b_MM_check 40 = .ok (.iconst 0, 1) := by decide +kernel
theorem d_MM_check_41 : decode b_MM_check 41 = .ok (.istore_n 1, 1) := by decide +kernel
theorem d_MM_check_42 : decode b_MM_check 42 = .ok (.iload_n 1, 1) := by decide +kernel
theorem d_MM_check_43 : decode b_MM_check 43 = .ok (.sipush 1000, 3) := by decide +kernel
theorem d_MM_check_46 : decode b_MM_check 46 = .ok (.if_icmp .ge 30, 3) := by decide +kernel
theorem d_MM_check_49 : decode b_MM_check 49 = .ok (.aload_n 0, 1) := by decide +kernel
theorem d_MM_check_50 : decode b_MM_check 50 = .ok (.getfield 212, 3) := by decide +kernel
theorem d_MM_check_53 : decode b_MM_check 53 = .ok (.iload_n 1, 1) := by decide +kernel
theorem d_MM_check_54 : decode b_MM_check 54 = .ok (.iconst 0, 1) := by decide +kernel
theorem d_MM_check_55 : decode b_MM_check 55 = .ok (.bastore, 1) := by decide +kernel
theorem d_MM_check_56 : decode b_MM_check 56 = .ok (.aload_n 0, 1) := by decide +kernel
theorem d_MM_check_57 : decode b_MM_check 57 = .ok (.getfield 194, 3) := by decide +kernel
theorem d_MM_check_60 : decode b_MM_check 60 = .ok (.iload_n 1, 1) := by decide +kernel
theorem d_MM_check_61 : decode b_MM_check 61 = .ok (.iconst (-1), 1) := by decide +kernel
theorem d_MM_check_62 : decode b_MM_check 62 = .ok (.iastore, 1) := by decide +kernel
theorem d_MM_check_63 : decode b_MM_check 63 = .ok (.aload_n 0, 1) := by decide +kernel
theorem d_MM_check_64 : decode b_MM_check 64 = .ok (.getfield 197, 3) := by decide +kernel
theorem d_MM_check_67 : decode b_MM_check 67 = .ok (.iload_n 1, 1) := by decide +kernel
theorem d_MM_check_68 : decode b_MM_check 68 = .ok (.iconst (-1), 1) := by decide +kernel
theorem d_MM_check_69 : decode b_MM_check 69 = .ok (.iastore, 1) := by decide +kernel
theorem d_MM_check_70 : decode b_MM_check 70 = .ok (.iinc 1 1, 3) := by decide +kernel
theorem d_MM_check_73 : decode b_MM_check 73 = .ok (.goto (-31), 3) := by decide +kernel
theorem d_MM_check_76 : decode b_MM_check 76 = .ok (.aload_n 0, 1) := by decide +kernel
theorem d_MM_check_77 : decode b_MM_check 77 = .ok (.iconst 0, 1) := by decide +kernel
theorem d_MM_check_78 : decode b_MM_check 78 = .ok (.invokevirtual 403, 3) := by decide +kernel
theorem d_MM_check_81 : decode b_MM_check 81 = .ok (.aload_n 0, 1) := by decide +kernel
theorem d_MM_check_82 : decode b_MM_check 82 = .ok (.getfield 394, 3) := by decide +kernel
theorem d_MM_check_85 : decode b_MM_check 85 = .ok (.ifCond .ne 76, 3) := by decide +kernel
theorem d_MM_check_88 : decode b_MM_check 88 = .ok (.iconst 0, 1) := by decide +kernel
theorem d_MM_check_89 : decode b_MM_check 89 = .ok (.istore_n 1, 1) := by decide +kernel
theorem d_MM_check_90 : decode b_MM_check 90 = .ok (.iload_n 1, 1) := by decide +kernel
theorem d_MM_check_91 : decode b_MM_check 91 = .ok (.aload_n 0, 1) := by decide +kernel
theorem d_MM_check_92 : decode b_MM_check 92 = .ok (.getfield 20, 3) := by decide +kernel
theorem d_MM_check_95 : decode b_MM_check 95 = .ok (.getfield 251, 3) := by decide +kernel
theorem d_MM_check_98 : decode b_MM_check 98 = .ok (.if_icmp .ge 63, 3) := by decide +kernel
theorem d_MM_check_101 : decode b_MM_check 101 = .ok (.aload_n 0, 1) := by decide +kernel
theorem d_MM_check_102 : decode b_MM_check 102 = .ok (.getfield 194, 3) := by decide +kernel
theorem d_MM_check_105 : decode b_MM_check 105 = .ok (.iload_n 1, 1) := by decide +kernel
theorem d_MM_check_106 : decode b_MM_check 106 = .ok (.iaload, 1) := by decide +kernel
theorem d_MM_check_107 : decode b_MM_check 107 = .ok (.bipush 32, 2) := by decide +kernel
theorem d_MM_check_109 : decode b_MM_check 109 = .ok (.if_icmp .ne 46, 3) := by decide +kernel
theorem d_MM_check_112 : decode b_MM_check 112 = .ok (.aload_n 0, 1) := by decide +kernel
theorem d_MM_check_113 : decode b_MM_check 113 = .ok (.getfield 212, 3) := by decide +kernel
theorem d_MM_check_116 : decode b_MM_check 116 = .ok (.aload_n 0, 1) := by decide +kernel
theorem d_MM_check_117 : decode b_MM_check 117 = .ok (.getfield 20, 3) := by decide +kernel
theorem d_MM_check_120 : decode b_MM_check 120 = .ok (.getfield 406, 3) := by decide +kernel
theorem d_MM_check_123 : decode b_MM_check 123 = .ok (.iload_n 1, 1) := by decide +kernel
theorem d_MM_check_124 : decode b_MM_check 124 = .ok (.iaload, 1) := by decide +kernel
theorem d_MM_check_125 : decode b_MM_check 125 = .ok (.baload, 1) := by decide +kernel
theorem d_MM_check_126 : decode b_MM_check 126 = .ok (.ifCond .eq 29, 3) := by decide +kernel
theorem d_MM_check_129 : decode b_MM_check 129 = .ok (.aload_n 0, 1) := by decide +kernel
theorem d_MM_check_130 : decode b_MM_check 130 = .ok (.getfield 197, 3) := by decide +kernel
theorem d_MM_check_133 : decode b_MM_check 133 = .ok (.iload_n 1, 1) := by decide +kernel
theorem d_MM_check_134 : decode b_MM_check 134 = .ok (.aload_n 0, 1) := by decide +kernel
theorem d_MM_check_135 : decode b_MM_check 135 = .ok (.iload_n 1, 1) := by decide +kernel
theorem d_MM_check_136 : decode b_MM_check 136 = .ok (.invokevirtual 409, 3) := by decide +kernel
theorem d_MM_check_139 : decode b_MM_check 139 = .ok (.iastore, 1) := by decide +kernel
theorem d_MM_check_140 : decode b_MM_check 140 = .ok (.aload_n 0, 1) := by decide +kernel
theorem d_MM_check_141 : decode b_MM_check 141 = .ok (.getfield 197, 3) := by decide +kernel
theorem d_MM_check_144 : decode b_MM_check 144 = .ok (.iload_n 1, 1) := by decide +kernel
theorem d_MM_check_145 : decode b_MM_check 145 = .ok (.iaload, 1) := by decide +kernel
theorem d_MM_check_146 : decode b_MM_check 146 = .ok (.ifCond .ge 9, 3) := by decide +kernel
theorem d_MM_check_149 : decode b_MM_check 149 = .ok (.aload_n 0, 1) := by decide +kernel
theorem d_MM_check_150 : decode b_MM_check 150 = .ok (.iconst 5, 1) := by decide +kernel
theorem d_MM_check_151 : decode b_MM_check 151 = .ok (.iload_n 1, 1) := by decide +kernel
theorem d_MM_check_152 : decode b_MM_check 152 = .ok (.invokevirtual 412, 3) := by decide +kernel
theorem d_MM_check_155 : decode b_MM_check 155 = .ok (.iinc 1 1, 3) := by decide +kernel
theorem d_MM_check_158 : decode b_MM_check 158 = .ok (.goto (-68), 3) := by decide +kernel
theorem d_MM_check_161 : decode b_MM_check 161 = .ok (.aload_n 0, 1) := by decide +kernel
theorem d_MM_check_162 : decode b_MM_check 162 = .ok (.getfield 394, 3) := by decide +kernel
theorem d_MM_check_165 : decode b_MM_check 165 = .ok (.ifCond .ne 53, 3) := by decide +kernel
theorem d_MM_check_168 : decode b_MM_check 168 = .ok (.iconst 0, 1) := by decide +kernel
theorem d_MM_check_169 : decode b_MM_check 169 = .ok (.istore_n 1, 1) := by decide +kernel
theorem d_MM_check_170 : decode b_MM_check 170 = .ok (.iload_n 1, 1) := by decide +kernel
theorem d_MM_check_171 : decode b_MM_check 171 = .ok (.aload_n 0, 1) := by decide +kernel
theorem d_MM_check_172 : decode b_MM_check 172 = .ok (.getfield 20, 3) := by decide +kernel
theorem d_MM_check_175 : decode b_MM_check 175 = .ok (.getfield 251, 3) := by decide +kernel
theorem d_MM_check_178 : decode b_MM_check 178 = .ok (.if_icmp .ge 40, 3) := by decide +kernel
theorem d_MM_check_181 : decode b_MM_check 181 = .ok (.aload_n 0, 1) := by decide +kernel
theorem d_MM_check_182 : decode b_MM_check 182 = .ok (.getfield 394, 3) := by decide +kernel
theorem d_MM_check_185 : decode b_MM_check 185 = .ok (.ifCond .ne 33, 3) := by decide +kernel
theorem d_MM_check_188 : decode b_MM_check 188 = .ok (.aload_n 0, 1) := by decide +kernel
theorem d_MM_check_189 : decode b_MM_check 189 = .ok (.getfield 212, 3) := by decide +kernel
theorem d_MM_check_192 : decode b_MM_check 192 = .ok (.iload_n 1, 1) := by decide +kernel
theorem d_MM_check_193 : decode b_MM_check 193 = .ok (.baload, 1) := by decide +kernel
theorem d_MM_check_194 : decode b_MM_check 194 = .ok (.ifCond .eq 18, 3) := by decide +kernel
theorem d_MM_check_197 : decode b_MM_check 197 = .ok (.aload_n 0, 1) := by decide +kernel
theorem d_MM_check_198 : decode b_MM_check 198 = .ok (.iload_n 1, 1) := by decide +kernel
theorem d_MM_check_199 : decode b_MM_check 199 = .ok (.invokevirtual 415, 3) := by decide +kernel
theorem d_MM_check_202 : decode b_MM_check 202 = .ok (.ifCond .eq 10, 3) := by decide +kernel
theorem d_MM_check_205 : decode b_MM_check 205 = .ok (.aload_n 0, 1) := by decide +kernel
theorem d_MM_check_206 : decode b_MM_check 206 = .ok (.bipush 6, 2) := by decide +kernel
theorem d_MM_check_208 : decode b_MM_check 208 = .ok (.iload_n 1, 1) := by decide +kernel
theorem d_MM_check_209 : decode b_MM_check 209 = .ok (.invokevirtual 412, 3) := by decide +kernel
theorem d_MM_check_212 : decode b_MM_check 212 = .ok (.iinc 1 1, 3) := by decide +kernel
theorem d_MM_check_215 : decode b_MM_check 215 = .ok (.goto (-45), 3) := by decide +kernel
theorem d_MM_check_218 : decode b_MM_check 218 = .ok (.aload_n 0, 1) := by decide +kernel
theorem d_MM_check_219 : decode b_MM_check 219 = .ok (.aload_n 0, 1) := by decide +kernel
theorem d_MM_check_220 : decode b_MM_check 220 = .ok (.getfield 394, 3) := by decide +kernel
theorem d_MM_check_223 : decode b_MM_check 223 = .ok (.ifCond .ne 7, 3) := by decide +kernel
theorem d_MM_check_226 : decode b_MM_check 226 = .ok (.iconst 1, 1) := by decide +kernel
theorem d_MM_check_227 : decode b_MM_check 227 = .ok (.goto 4, 3) := by decide +kernel
theorem d_MM_check_230 : decode b_MM_check 230 = .ok (.iconst 0, 1) := by decide +kernel
theorem d_MM_check_231 : decode b_MM_check 231 = .ok (.putfield 243, 3) := by decide +kernel
theorem d_MM_check_234 : decode b_MM_check 234 = .ok (.aload_n 0, 1) := by decide +kernel
theorem d_MM_check_235 : decode b_MM_check 235 = .ok (.aload_n 0, 1) := by decide +kernel
theorem d_MM_check_236 : decode b_MM_check 236 = .ok (.getfield 394, 3) := by decide +kernel
theorem d_MM_check_239 : decode b_MM_check 239 = .ok (.ifCond .eq 10, 3) := by decide +kernel
theorem d_MM_check_242 : decode b_MM_check 242 = .ok (.aload_n 0, 1) := by decide +kernel
theorem d_MM_check_243 : decode b_MM_check 243 = .ok (.getfield 397, 3) := by decide +kernel
theorem d_MM_check_246 : decode b_MM_check 246 = .ok (.goto 4, 3) := by decide +kernel
theorem d_MM_check_249 : decode b_MM_check 249 = .ok (.iconst (-1), 1) := by decide +kernel
theorem d_MM_check_250 : decode b_MM_check 250 = .ok (.putfield 191, 3) := by decide +kernel
theorem d_MM_check_253 : decode b_MM_check 253 = .ok (.aload_n 0, 1) := by decide +kernel
theorem d_MM_check_254 : decode b_MM_check 254 = .ok (.getfield 394, 3) := by decide +kernel
theorem d_MM_check_257 : decode b_MM_check 257 = .ok (.ireturn, 1) := by decide +kernel
theorem d_MM_fault_1_0 : decode b_MM_fault_1 0 = .ok (.aload_n 0, 1) := by decide +kernel
theorem d_MM_fault_1_1 : decode b_MM_fault_1 1 = .ok (.iconst 0, 1) := by decide +kernel
theorem d_MM_fault_1_2 : decode b_MM_fault_1 2 = .ok (.putfield 230, 3) := by decide +kernel
theorem d_MM_fault_1_5 : decode b_MM_fault_1 5 = .ok (.aload_n 0, 1) := by decide +kernel
theorem d_MM_fault_1_6 : decode b_MM_fault_1 6 = .ok (.getfield 191, 3) := by decide +kernel
theorem d_MM_fault_1_9 : decode b_MM_fault_1 9 = .ok (.ireturn, 1) := by decide +kernel
theorem d_MM_validate_0 : decode b_MM_validate 0 = .ok (.aload_n 0, 1) := by decide +kernel
theorem d_MM_validate_1 : decode b_MM_validate 1 = .ok (.iconst 0, 1) := by decide +kernel
theorem d_MM_validate_2 : decode b_MM_validate 2 = .ok (.putfield 230, 3) := by decide +kernel
theorem d_MM_validate_5 : decode b_MM_validate 5 = .ok (.aload_n 0, 1) := by decide +kernel
theorem d_MM_validate_6 : decode b_MM_validate 6 = .ok (.aload_n 0, 1) := by decide +kernel
theorem d_MM_validate_7 : decode b_MM_validate 7 = .ok (.getfield 24, 3) := by decide +kernel
theorem d_MM_validate_10 : decode b_MM_validate 10 = .ok (.getfield 251, 3) := by decide +kernel
theorem d_MM_validate_13 : decode b_MM_validate 13 = .ok (.ifCond .eq 20, 3) := by decide +kernel
theorem d_MM_validate_16 : decode b_MM_validate 16 = .ok (.aload_n 0, 1) := by decide +kernel
theorem d_MM_validate_17 : decode b_MM_validate 17 = .ok (.getfield 20, 3) := by decide +kernel
theorem d_MM_validate_20 : decode b_MM_validate 20 = .ok (.getfield 251, 3) := by decide +kernel
theorem d_MM_validate_23 : decode b_MM_validate 23 = .ok (.ifCond .eq 10, 3) := by decide +kernel
theorem d_MM_validate_26 : decode b_MM_validate 26 = .ok (.aload_n 0, 1) := by decide +kernel
theorem d_MM_validate_27 : decode b_MM_validate 27 = .ok (.getfield 243, 3) := by decide +kernel
theorem d_MM_validate_30 : decode b_MM_validate 30 = .ok (.ifCond .ne 7, 3) := by decide +kernel
theorem d_MM_validate_33 : decode b_MM_validate 33 = .ok (.iconst 1, 1) := by decide +kernel
theorem d_MM_validate_34 : decode b_MM_validate 34 = .ok (.goto 4, 3) := by decide +kernel
theorem d_MM_validate_37 : decode b_MM_validate 37 = .ok (.iconst 0, 1) := by decide +kernel
theorem d_MM_validate_38 : decode b_MM_validate 38 = .ok (.iconst 1, 1) := by decide +kernel
theorem d_MM_validate_39 : decode b_MM_validate 39 = .ok (.invokevirtual 236, 3) := by decide +kernel
theorem d_MM_validate_42 : decode b_MM_validate 42 = .ok (.ifCond .eq 5, 3) := by decide +kernel
theorem d_MM_validate_45 : decode b_MM_validate 45 = .ok (.iconst 0, 1) := by decide +kernel
theorem d_MM_validate_46 : decode b_MM_validate 46 = .ok (.ireturn, 1) := by decide +kernel
theorem d_MM_validate_47 : decode b_MM_validate 47 = .ok (.aload_n 0, 1) := by decide +kernel
theorem d_MM_validate_48 : decode b_MM_validate 48 = .ok (.iconst 0, 1) := by decide +kernel
theorem d_MM_validate_49 : decode b_MM_validate 49 = .ok (.putfield 494, 3) := by decide +kernel
theorem d_MM_validate_52 : decode b_MM_validate 52 = .ok (.aload_n 0, 1) := by decide +kernel
theorem d_MM_validate_53 : decode b_MM_validate 53 = .ok (.iconst 0, 1) := by decide +kernel
theorem d_MM_validate_54 : decode b_MM_validate 54 = .ok (.putfield 497, 3) := by decide +kernel
theorem d_MM_validate_57 : decode b_MM_validate 57 = .ok (.aload_n 0, 1) := by decide +kernel
theorem d_MM_validate_58 : decode b_MM_validate 58 = .ok (.iconst 0, 1) := by decide +kernel
theorem d_MM_validate_59 : decode b_MM_validate 59 = .ok (.putfield 500, 3) := by decide +kernel
theorem d_MM_validate_62 : decode b_MM_validate 62 = .ok (.aload_n 0, 1) := by decide +kernel
theorem d_MM_validate_63 : decode b_MM_validate 63 = .ok (.iconst 0, 1) := by decide +kernel
theorem d_MM_validate_64 : decode b_MM_validate 64 = .ok (.putfield 503, 3) := by decide +kernel
theorem d_MM_validate_67 : decode b_MM_validate 67 = .ok (.aload_n 0, 1) := by decide +kernel
theorem d_MM_validate_68 : decode b_MM_validate 68 = .ok (.iconst 0, 1) := by decide +kernel
theorem d_MM_validate_69 : decode b_MM_validate 69 = .ok (.putfield 506, 3) := by decide +kernel
theorem d_MM_validate_72 : decode b_MM_validate 72 = .ok (.aload_n 0, 1) := by decide +kernel
theorem d_MM_validate_73 : decode b_MM_validate 73 = .ok (.iconst 0, 1) := by decide +kernel
theorem d_MM_validate_74 : decode b_MM_validate 74 = .ok (.iconst 0, 1) := by decide +kernel
theorem d_MM_validate_75 : decode b_MM_validate 75 = .ok (.invokevirtual 509, 3) := by decide +kernel
theorem d_MM_validate_78 : decode b_MM_validate 78 = .ok (.istore_n 1, 1) := by decide +kernel
theorem d_MM_validate_79 : decode b_MM_validate 79 = .ok (.aload_n 0, 1) := by decide +kernel
theorem d_MM_validate_80 : decode b_MM_validate 80 = .ok (.getfield 506, 3) := by decide +kernel
theorem d_MM_validate_83 : decode b_MM_validate 83 = .ok (.ifCond .eq 8, 3) := by decide +kernel
theorem d_MM_validate_86 : decode b_MM_validate 86 = .ok (.aload_n 0, 1) := by decide +kernel
theorem d_MM_validate_87 : decode b_MM_validate 87 = .ok (.iconst 0, 1) := by decide +kernel
theorem d_MM_validate_88 : decode b_MM_validate 88 = .ok (.putfield 494, 3) := by decide +kernel
theorem d_MM_validate_91 : decode b_MM_validate 91 = .ok (.aload_n 0, 1) := by decide +kernel
theorem d_MM_validate_92 : decode b_MM_validate 92 = .ok (.aload_n 0, 1) := by decide +kernel
theorem d_MM_validate_93 : decode b_MM_validate 93 = .ok (.getfield 506, 3) := by decide +kernel
theorem d_MM_validate_96 : decode b_MM_validate 96 = .ok (.iconst 2, 1) := by decide +kernel
theorem d_MM_validate_97 : decode b_MM_validate 97 = .ok (.invokevirtual 236, 3) := by decide +kernel
theorem d_MM_validate_100 : decode b_MM_validate 100 = .ok (.ifCond .eq 5, 3) := by decide +kernel
theorem d_MM_validate_103 : decode b_MM_validate 103 = .ok (.iconst 0, 1) := by decide +kernel
theorem d_MM_validate_104 : decode b_MM_validate 104 = .ok (.ireturn, 1) := by decide +kernel
theorem d_MM_validate_105 : decode b_MM_validate 105 = .ok (.aload_n 0, 1) := by decide +kernel
theorem d_MM_validate_106 : decode b_MM_validate 106 = .ok (.invokevirtual 512, 3) := by decide +kernel
theorem d_MM_validate_109 : decode b_MM_validate 109 = .ok (.iload_n 1, 1) := by decide +kernel
theorem d_MM_validate_110 : decode b_MM_validate 110 = .ok (.ireturn, 1) := by decide +kernel
theorem d_MM_pairs_0 : decode b_MM_pairs 0 = .ok (.aload_n 0, 1) := by decide +kernel
theorem d_MM_pairs_1 : decode b_MM_pairs 1 = .ok (.iconst 0, 1) := by decide +kernel
theorem d_MM_pairs_2 : decode b_MM_pairs 2 = .ok (.putfield 230, 3) := by decide +kernel
theorem d_MM_pairs_5 : decode b_MM_pairs 5 = .ok (.aload_n 0, 1) := by decide +kernel
theorem d_MM_pairs_6 : decode b_MM_pairs 6 = .ok (.getfield 494, 3) := by decide +kernel
theorem d_MM_pairs_9 : decode b_MM_pairs 9 = .ok (.ireturn, 1) := by decide +kernel
theorem d_MM_pair_1_0 : decode b_MM_pair_1 0 = .ok (.aload_n 0, 1) := by decide +kernel
theorem d_MM_pair_1_1 : decode b_MM_pair_1 1 = .ok (.iconst 0, 1) := by decide +kernel
theorem d_MM_pair_1_2 : decode b_MM_pair_1 2 = .ok (.putfield 230, 3) := by decide +kernel
theorem d_MM_pair_1_5 : decode b_MM_pair_1 5 = .ok (.aload_n 0, 1) := by decide +kernel
theorem d_MM_pair_1_6 : decode b_MM_pair_1 6 = .ok (.iload_n 1, 1) := by decide +kernel
theorem d_MM_pair_1_7 : decode b_MM_pair_1 7 = .ok (.iconst 0, 1) := by decide +kernel
theorem d_MM_pair_1_8 : decode b_MM_pair_1 8 = .ok (.aload_n 0, 1) := by decide +kernel
theorem d_MM_pair_1_9 : decode b_MM_pair_1 9 = .ok (.getfield 494, 3) := by decide +kernel
theorem d_MM_pair_1_12 : decode b_MM_pair_1 12 = .ok (.iconst 1, 1) := by decide +kernel
theorem d_MM_pair_1_13 : decode b_MM_pair_1 13 = .ok (.isub, 1) := by decide +kernel
theorem d_MM_pair_1_14 : decode b_MM_pair_1 14 = .ok (.invokestatic 344, 3) := by decide +kernel
theorem d_MM_pair_1_17 : decode b_MM_pair_1 17 = .ok (.ifCond .ne 7, 3) := by decide +kernel
theorem d_MM_pair_1_20 : decode b_MM_pair_1 20 = .ok (.iconst 1, 1) := by decide +kernel
theorem d_MM_pair_1_21 : decode b_MM_pair_1 21 = .ok (.goto 4, 3) := by decide +kernel
theorem d_MM_pair_1_24 : decode b_MM_pair_1 24 = .ok (.iconst 0, 1) := by decide +kernel
theorem d_MM_pair_1_25 : decode b_MM_pair_1 25 = .ok (.iconst 1, 1) := by decide +kernel
theorem d_MM_pair_1_26 : decode b_MM_pair_1 26 = .ok (.invokevirtual 236, 3) := by decide +kernel
theorem d_MM_pair_1_29 : decode b_MM_pair_1 29 = .ok (.ifCond .eq 5, 3) := by decide +kernel
theorem d_MM_pair_1_32 : decode b_MM_pair_1 32 = .ok (.iconst 0, 1) := by decide +kernel
theorem d_MM_pair_1_33 : decode b_MM_pair_1 33 = .ok (.ireturn, 1) := by decide +kernel
theorem d_MM_pair_1_34 : decode b_MM_pair_1 34 = .ok (.iload_n 2, 1) := by decide +kernel
theorem d_MM_pair_1_35 : decode b_MM_pair_1 35 = .ok (.ifCond .eq 12, 3) := by decide +kernel
theorem d_MM_pair_1_38 : decode b_MM_pair_1 38 = .ok (.aload_n 0, 1) := by decide +kernel
theorem d_MM_pair_1_39 : decode b_MM_pair_1 39 = .ok (.getfield 227, 3) := by decide +kernel
theorem d_MM_pair_1_42 : decode b_MM_pair_1 42 = .ok (.iload_n 1, 1) := by decide +kernel
theorem d_MM_pair_1_43 : decode b_MM_pair_1 43 = .ok (.iaload, 1) := by decide +kernel
theorem d_MM_pair_1_44 : decode b_MM_pair_1 44 = .ok (.goto 9, 3) := by decide +kernel
theorem d_MM_pair_1_47 : decode b_MM_pair_1 47 = .ok (.aload_n 0, 1) := by decide +kernel
theorem d_MM_pair_1_48 : decode b_MM_pair_1 48 = .ok (.getfield 224, 3) := by decide +kernel
theorem d_MM_pair_1_51 : decode b_MM_pair_1 51 = .ok (.iload_n 1, 1) := by decide +kernel
theorem d_MM_pair_1_52 : decode b_MM_pair_1 52 = .ok (.iaload, 1) := by decide +kernel
theorem d_MM_pair_1_53 : decode b_MM_pair_1 53 = .ok (.ireturn, 1) := by decide +kernel
theorem d_MM_value_0 : decode b_MM_value 0 = .ok (.aload_n 0, 1) := by decide +kernel
theorem d_MM_value_1 : decode b_MM_value 1 = .ok (.iconst 0, 1) := by decide +kernel
theorem d_MM_value_2 : decode b_MM_value 2 = .ok (.putfield 230, 3) := by decide +kernel
theorem d_MM_value_5 : decode b_MM_value 5 = .ok (.iload_n 1, 1) := by decide +kernel
theorem d_MM_value_6 : decode b_MM_value 6 = .ok (.ifCond .eq 10, 3) := by decide +kernel
theorem d_MM_value_9 : decode b_MM_value 9 = .ok (.aload_n 0, 1) := by decide +kernel
theorem d_MM_value_10 : decode b_MM_value 10 = .ok (.getfield 20, 3) := by decide +kernel
theorem d_MM_value_13 : decode b_MM_value 13 = .ok (.goto 7, 3) := by decide +kernel
theorem d_MM_value_16 : decode b_MM_value 16 = .ok (.aload_n 0, 1) := by decide +kernel
theorem d_MM_value_17 : decode b_MM_value 17 = .ok (.getfield 24, 3) := by decide +kernel
theorem d_MM_value_20 : decode b_MM_value 20 = .ok (.astore 4, 2) := by decide +kernel
theorem d_MM_value_22 : decode b_MM_value 22 = .ok (.aload_n 0, 1) := by decide +kernel
theorem d_MM_value_23 : decode b_MM_value 23 = .ok (.iload_n 3, 1) := by decide +kernel
theorem d_MM_value_24 : decode b_MM_value 24 = .ok (.iconst 0, 1) := by decide +kernel
theorem d_MM_value_25 : decode b_MM_value 25 = .ok (.iconst 4, 1) := by decide +kernel
theorem d_MM_value_26 : decode b_MM_value 26 = .ok (.invokestatic 344, 3) := by decide +kernel
theorem d_MM_value_29 : decode b_MM_value 29 = .ok (.ifCond .ne 7, 3) := by decide +kernel
theorem d_MM_value_32 : decode b_MM_value 32 = .ok (.iconst 1, 1) := by decide +kernel
theorem d_MM_value_33 : decode b_MM_value 33 = .ok (.goto 4, 3) := by decide +kernel
theorem d_MM_value_36 : decode b_MM_value 36 = .ok (.iconst 0, 1) := by decide +kernel
theorem d_MM_value_37 : decode b_MM_value 37 = .ok (.iconst 1, 1) := by decide +kernel
theorem d_MM_value_38 : decode b_MM_value 38 = .ok (.invokevirtual 236, 3) := by decide +kernel
theorem d_MM_value_41 : decode b_MM_value 41 = .ok (.ifCond .ne 31, 3) := by decide +kernel
theorem d_MM_value_44 : decode b_MM_value 44 = .ok (.aload_n 0, 1) := by decide +kernel
theorem d_MM_value_45 : decode b_MM_value 45 = .ok (.iload_n 2, 1) := by decide +kernel
theorem d_MM_value_46 : decode b_MM_value 46 = .ok (.iconst 0, 1) := by decide +kernel
theorem d_MM_value_47 : decode b_MM_value 47 = .ok (.aload 4, 2) := by decide +kernel
theorem d_MM_value_49 : decode b_MM_value 49 = .ok (.getfield 251, 3) := by decide +kernel
theorem d_MM_value_52 : decode b_MM_value 52 = .ok (.iconst 1, 1) := by decide +kernel
theorem d_MM_value_53 : decode b_MM_value 53 = .ok (.isub, 1) := by decide +kernel
theorem d_MM_value_54 : decode b_MM_value 54 = .ok (.invokestatic 344, 3) := by decide +kernel
theorem d_MM_value_57 : decode b_MM_value 57 = .ok (.ifCond .ne 7, 3) := by decide +kernel
theorem d_MM_value_60 : decode b_MM_value 60 = .ok (.iconst 1, 1) := by decide +kernel
theorem d_MM_value_61 : decode b_MM_value 61 = .ok (.goto 4, 3) := by decide +kernel
theorem d_MM_value_64 : decode b_MM_value 64 = .ok (.iconst 0, 1) := by decide +kernel
theorem d_MM_value_65 : decode b_MM_value 65 = .ok (.iconst 2, 1) := by decide +kernel
theorem d_MM_value_66 : decode b_MM_value 66 = .ok (.invokevirtual 236, 3) := by decide +kernel
theorem d_MM_value_69 : decode b_MM_value 69 = .ok (.ifCond .eq 5, 3) := by decide +kernel
theorem d_MM_value_72 : decode b_MM_value 72 = .ok (.iconst 0, 1) := by decide +kernel
theorem d_MM_value_73 : decode b_MM_value 73 = .ok (.ireturn, 1) := by decide +kernel
theorem d_MM_value_74 : decode b_MM_value 74 = .ok (.iload_n 3, 1) := by decide +kernel
theorem d_MM_value_75 : decode b_MM_value 75 = .ok (.ifCond .ne 13, 3) := by decide +kernel
theorem d_MM_value_78 : decode b_MM_value 78 = .ok (.aload 4, 2) := by decide +kernel
theorem d_MM_value_80 : decode b_MM_value 80 = .ok (.getfield 419, 3) := by decide +kernel
theorem d_MM_value_83 : decode b_MM_value 83 = .ok (.iload_n 2, 1) := by decide +kernel
theorem d_MM_value_84 : decode b_MM_value 84 = .ok (.iaload, 1) := by decide +kernel
theorem d_MM_value_85 : decode b_MM_value 85 = .ok (.goto 55, 3) := by decide +kernel
theorem d_MM_value_88 : decode b_MM_value 88 = .ok (.iload_n 3, 1) := by decide +kernel
theorem d_MM_value_89 : decode b_MM_value 89 = .ok (.iconst 1, 1) := by decide +kernel
theorem d_MM_value_90 : decode b_MM_value 90 = .ok (.if_icmp .ne 13, 3) := by decide +kernel
theorem d_MM_value_93 : decode b_MM_value 93 = .ok (.aload 4, 2) := by decide +kernel
theorem d_MM_value_95 : decode b_MM_value 95 = .ok (.getfield 577, 3) := by decide +kernel
theorem d_MM_value_98 : decode b_MM_value 98 = .ok (.iload_n 2, 1) := by decide +kernel
theorem d_MM_value_99 : decode b_MM_value 99 = .ok (.iaload, 1) := by decide +kernel
theorem d_MM_value_100 : decode b_MM_value 100 = .ok (.goto 40, 3) := by decide +kernel
theorem d_MM_value_103 : decode b_MM_value 103 = .ok (.iload_n 3, 1) := by decide +kernel
theorem d_MM_value_104 : decode b_MM_value 104 = .ok (.iconst 2, 1) := by decide +kernel
theorem d_MM_value_105 : decode b_MM_value 105 = .ok (.if_icmp .ne 13, 3) := by decide +kernel
theorem d_MM_value_108 : decode b_MM_value 108 = .ok (.aload 4, 2) := by decide +kernel
theorem d_MM_value_110 : decode b_MM_value 110 = .ok (.getfield 272, 3) := by decide +kernel
theorem d_MM_value_113 : decode b_MM_value 113 = .ok (.iload_n 2, 1) := by decide +kernel
theorem d_MM_value_114 : decode b_MM_value 114 = .ok (.iaload, 1) := by decide +kernel
theorem d_MM_value_115 : decode b_MM_value 115 = .ok (.goto 25, 3) := by decide +kernel
theorem d_MM_value_118 : decode b_MM_value 118 = .ok (.iload_n 3, 1) := by decide +kernel
theorem d_MM_value_119 : decode b_MM_value 119 = .ok (.iconst 3, 1) := by decide +kernel
theorem d_MM_value_120 : decode b_MM_value 120 = .ok (.if_icmp .ne 13, 3) := by decide +kernel
theorem d_MM_value_123 : decode b_MM_value 123 = .ok (.aload 4, 2) := by decide +kernel
theorem d_MM_value_125 : decode b_MM_value 125 = .ok (.getfield 406, 3) := by decide +kernel
theorem d_MM_value_128 : decode b_MM_value 128 = .ok (.iload_n 2, 1) := by decide +kernel
theorem d_MM_value_129 : decode b_MM_value 129 = .ok (.iaload, 1) := by decide +kernel
theorem d_MM_value_130 : decode b_MM_value 130 = .ok (.goto 10, 3) := by decide +kernel
theorem d_MM_value_133 : decode b_MM_value 133 = .ok (.aload 4, 2) := by decide +kernel
theorem d_MM_value_135 : decode b_MM_value 135 = .ok (.getfield 461, 3) := by decide +kernel
theorem d_MM_value_138 : decode b_MM_value 138 = .ok (.iload_n 2, 1) := by decide +kernel
theorem d_MM_value_139 : decode b_MM_value 139 = .ok (.iaload, 1) := by decide +kernel
theorem d_MM_value_140 : decode b_MM_value 140 = .ok (.ireturn, 1) := by decide +kernel
theorem d_MM_alike_0 : decode b_MM_alike 0 = .ok (.aload_n 0, 1) := by decide +kernel
theorem d_MM_alike_1 : decode b_MM_alike 1 = .ok (.iconst 0, 1) := by decide +kernel
theorem d_MM_alike_2 : decode b_MM_alike 2 = .ok (.putfield 230, 3) := by decide +kernel
theorem d_MM_alike_5 : decode b_MM_alike 5 = .ok (.aload_n 0, 1) := by decide +kernel
theorem d_MM_alike_6 : decode b_MM_alike 6 = .ok (.iload_n 1, 1) := by decide +kernel
theorem d_MM_alike_7 : decode b_MM_alike 7 = .ok (.iconst 0, 1) := by decide +kernel
theorem d_MM_alike_8 : decode b_MM_alike 8 = .ok (.aload_n 0, 1) := by decide +kernel
theorem d_MM_alike_9 : decode b_MM_alike 9 = .ok (.getfield 24, 3) := by decide +kernel
theorem d_MM_alike_12 : decode b_MM_alike 12 = .ok (.getfield 251, 3) := by decide +kernel
theorem d_MM_alike_15 : decode b_MM_alike 15 = .ok (.iconst 1, 1) := by decide +kernel
theorem d_MM_alike_16 : decode b_MM_alike 16 = .ok (.isub, 1) := by decide +kernel
theorem d_MM_alike_17 : decode b_MM_alike 17 = .ok (.invokestatic 344, 3) := by decide +kernel
theorem d_MM_alike_20 : decode b_MM_alike 20 = .ok (.ifCond .eq 20, 3) := by decide +kernel
theorem d_MM_alike_23 : decode b_MM_alike 23 = .ok (.iload_n 2, 1) := by decide +kernel
theorem d_MM_alike_24 : decode b_MM_alike 24 = .ok (.iconst 0, 1) := by decide +kernel
theorem d_MM_alike_25 : decode b_MM_alike 25 = .ok (.aload_n 0, 1) := by decide +kernel
theorem d_MM_alike_26 : decode b_MM_alike 26 = .ok (.getfield 24, 3) := by decide +kernel
theorem d_MM_alike_29 : decode b_MM_alike 29 = .ok (.getfield 251, 3) := by decide +kernel
theorem d_MM_alike_32 : decode b_MM_alike 32 = .ok (.iconst 1, 1) := by decide +kernel
theorem d_MM_alike_33 : decode b_MM_alike 33 = .ok (.isub, 1) := by decide +kernel
theorem d_MM_alike_34 : decode b_MM_alike 34 = .ok (.invokestatic 344, 3) := by decide +kernel
theorem d_MM_alike_37 : decode b_MM_alike 37 = .ok (.ifCond .ne 7, 3) := by decide +kernel
theorem d_MM_alike_40 : decode b_MM_alike 40 = .ok (.iconst 1, 1) := by decide +kernel
theorem d_MM_alike_41 : decode b_MM_alike 41 = .ok (.goto 4, 3) := by decide +kernel
theorem d_MM_alike_44 : decode b_MM_alike 44 = .ok (.iconst 0, 1) := by decide +kernel
theorem d_MM_alike_45 : decode b_MM_alike 45 = .ok (.iconst 1, 1) := by decide +kernel
theorem d_MM_alike_46 : decode b_MM_alike 46 = .ok (.invokevirtual 236, 3) := by decide +kernel
theorem d_MM_alike_49 : decode b_MM_alike 49 = .ok (.ifCond .eq 5, 3) := by decide +kernel
theorem d_MM_alike_52 : decode b_MM_alike 52 = .ok (.iconst 0, 1) := by decide +kernel
theorem d_MM_alike_53 : decode b_MM_alike 53 = .ok (.ireturn, 1) := by decide +kernel
theorem d_MM_alike_54 : decode b_MM_alike 54 = .ok (.aload_n 0, 1) := by decide +kernel
theorem d_MM_alike_55 : decode b_MM_alike 55 = .ok (.getfield 24, 3) := by decide +kernel
theorem d_MM_alike_58 : decode b_MM_alike 58 = .ok (.iload_n 1, 1) := by decide +kernel
theorem d_MM_alike_59 : decode b_MM_alike 59 = .ok (.aload_n 0, 1) := by decide +kernel
theorem d_MM_alike_60 : decode b_MM_alike 60 = .ok (.getfield 24, 3) := by decide +kernel
theorem d_MM_alike_63 : decode b_MM_alike 63 = .ok (.iload_n 2, 1) := by decide +kernel
theorem d_MM_alike_64 : decode b_MM_alike 64 = .ok (.invokevirtual 540, 3) := by decide +kernel
theorem d_MM_alike_67 : decode b_MM_alike 67 = .ok (.ireturn, 1) := by decide +kernel
theorem d_MM_matches_1_0 : decode b_MM_matches_1 0 = .ok (.aload_n 0, 1) := by decide +kernel
theorem d_MM_matches_1_1 : decode b_MM_matches_1 1 = .ok (.iconst 0, 1) := by decide +kernel
theorem d_MM_matches_1_2 : decode b_MM_matches_1 2 = .ok (.putfield 230, 3) := by decide +kernel
theorem d_MM_matches_1_5 : decode b_MM_matches_1 5 = .ok (.aload_n 0, 1) := by decide +kernel
theorem d_MM_matches_1_6 : decode b_MM_matches_1 6 = .ok (.iload_n 1, 1) := by decide +kernel
theorem d_MM_matches_1_7 : decode b_MM_matches_1 7 = .ok (.iconst 0, 1) := by decide +kernel
theorem d_MM_matches_1_8 : decode b_MM_matches_1 8 = .ok (.aload_n 0, 1) := by decide +kernel
theorem d_MM_matches_1_9 : decode b_MM_matches_1 9 = .ok (.getfield 24, 3) := by decide +kernel
theorem d_MM_matches_1_12 : decode b_MM_matches_1 12 = .ok (.getfield 251, 3) := by decide +kernel
theorem d_MM_matches_1_15 : decode b_MM_matches_1 15 = .ok (.iconst 1, 1) := by decide +kernel
theorem d_MM_matches_1_16 : decode b_MM_matches_1 16 = .ok (.isub, 1) := by decide +kernel
theorem d_MM_matches_1_17 : decode b_MM_matches_1 17 = .ok (.invokestatic 344, 3) := by decide +kernel
theorem d_MM_matches_1_20 : decode b_MM_matches_1 20 = .ok (.ifCond .eq 20, 3) := by decide +kernel
theorem d_MM_matches_1_23 : decode b_MM_matches_1 23 = .ok (.iload_n 2, 1) := by decide +kernel
theorem d_MM_matches_1_24 : decode b_MM_matches_1 24 = .ok (.iconst 0, 1) := by decide +kernel
theorem d_MM_matches_1_25 : decode b_MM_matches_1 25 = .ok (.aload_n 0, 1) := by decide +kernel
theorem d_MM_matches_1_26 : decode b_MM_matches_1 26 = .ok (.getfield 24, 3) := by decide +kernel
theorem d_MM_matches_1_29 : decode b_MM_matches_1 29 = .ok (.getfield 251, 3) := by decide +kernel
theorem d_MM_matches_1_32 : decode b_MM_matches_1 32 = .ok (.iconst 1, 1) := by decide +kernel
theorem d_MM_matches_1_33 : decode b_MM_matches_1 33 = .ok (.isub, 1) := by decide +kernel
theorem d_MM_matches_1_34 : decode b_MM_matches_1 34 = .ok (.invokestatic 344, 3) := by decide +kernel
theorem d_MM_matches_1_37 : decode b_MM_matches_1 37 = .ok (.ifCond .ne 7, 3) := by decide +kernel
theorem d_MM_matches_1_40 : decode b_MM_matches_1 40 = .ok (.iconst 1, 1) := by decide +kernel
theorem d_MM_matches_1_41 : decode b_MM_matches_1 41 = .ok (.goto 4, 3) := by decide +kernel
theorem d_MM_matches_1_44 : decode b_MM_matches_1 44 = .ok (.iconst 0, 1) := by decide +kernel
theorem d_MM_matches_1_45 : decode b_MM_matches_1 45 = .ok (.iconst 1, 1) := by decide +kernel
theorem d_MM_matches_1_46 : decode b_MM_matches_1 46 = .ok (.invokevirtual 236, 3) := by decide +kernel
theorem d_MM_matches_1_49 : decode b_MM_matches_1 49 = .ok (.ifCond .ne 54, 3) := by decide +kernel
theorem d_MM_matches_1_52 : decode b_MM_matches_1 52 = .ok (.aload_n 0, 1) := by decide +kernel
theorem d_MM_matches_1_53 : decode b_MM_matches_1 53 = .ok (.aload_n 0, 1) := by decide +kernel
theorem d_MM_matches_1_54 : decode b_MM_matches_1 54 = .ok (.getfield 24, 3) := by decide +kernel
theorem d_MM_matches_1_57 : decode b_MM_matches_1 57 = .ok (.getfield 419, 3) := by decide +kernel
theorem d_MM_matches_1_60 : decode b_MM_matches_1 60 = .ok (.iload_n 1, 1) := by decide +kernel
theorem d_MM_matches_1_61 : decode b_MM_matches_1 61 = .ok (.iaload, 1) := by decide +kernel
theorem d_MM_matches_1_62 : decode b_MM_matches_1 62 = .ok (.iconst 4, 1) := by decide +kernel
theorem d_MM_matches_1_63 : decode b_MM_matches_1 63 = .ok (.if_icmp .ne 28, 3) := by decide +kernel
theorem d_MM_matches_1_66 : decode b_MM_matches_1 66 = .ok (.aload_n 0, 1) := by decide +kernel
theorem d_MM_matches_1_67 : decode b_MM_matches_1 67 = .ok (.getfield 24, 3) := by decide +kernel
theorem d_MM_matches_1_70 : decode b_MM_matches_1 70 = .ok (.getfield 419, 3) := by decide +kernel
theorem d_MM_matches_1_73 : decode b_MM_matches_1 73 = .ok (.iload_n 2, 1) := by decide +kernel
theorem d_MM_matches_1_74 : decode b_MM_matches_1 74 = .ok (.iaload, 1) := by decide +kernel
theorem d_MM_matches_1_75 : decode b_MM_matches_1 75 = .ok (.iconst 4, 1) := by decide +kernel
theorem d_MM_matches_1_76 : decode b_MM_matches_1 76 = .ok (.if_icmp .ne 15, 3) := by decide +kernel
theorem d_MM_matches_1_79 : decode b_MM_matches_1 79 = .ok (.aload_n 0, 1) := by decide +kernel
theorem d_MM_matches_1_80 : decode b_MM_matches_1 80 = .ok (.aload_n 0, 1) := by decide +kernel
theorem d_MM_matches_1_81 : decode b_MM_matches_1 81 = .ok (.getfield 24, 3) := by decide +kernel
theorem d_MM_matches_1_84 : decode b_MM_matches_1 84 = .ok (.iload_n 2, 1) := by decide +kernel
theorem d_MM_matches_1_85 : decode b_MM_matches_1 85 = .ok (.invokevirtual 439, 3) := by decide +kernel
theorem d_MM_matches_1_88 : decode b_MM_matches_1 88 = .ok (.ifCond .ne 7, 3) := by decide +kernel
theorem d_MM_matches_1_91 : decode b_MM_matches_1 91 = .ok (.iconst 1, 1) := by decide +kernel
theorem d_MM_matches_1_92 : decode b_MM_matches_1 92 = .ok (.goto 4, 3) := by decide +kernel
theorem d_MM_matches_1_95 : decode b_MM_matches_1 95 = .ok (.iconst 0, 1) := by decide +kernel
theorem d_MM_matches_1_96 : decode b_MM_matches_1 96 = .ok (.iconst 2, 1) := by decide +kernel
theorem d_MM_matches_1_97 : decode b_MM_matches_1 97 = .ok (.invokevirtual 236, 3) := by decide +kernel
theorem d_MM_matches_1_100 : decode b_MM_matches_1 100 = .ok (.ifCond .eq 5, 3) := by decide +kernel
theorem d_MM_matches_1_103 : decode b_MM_matches_1 103 = .ok (.iconst 0, 1) := by decide +kernel
theorem d_MM_matches_1_104 : decode b_MM_matches_1 104 = .ok (.ireturn, 1) := by decide +kernel
theorem d_MM_matches_1_105 : decode b_MM_matches_1 105 = .ok (.aload_n 0, 1) := by decide +kernel
theorem d_MM_matches_1_106 : decode b_MM_matches_1 106 = .ok (.aload_n 0, 1) := by decide +kernel
theorem d_MM_matches_1_107 : decode b_MM_matches_1 107 = .ok (.getfield 24, 3) := by decide +kernel
theorem d_MM_matches_1_110 : decode b_MM_matches_1 110 = .ok (.iload_n 1, 1) := by decide +kernel
theorem d_MM_matches_1_111 : decode b_MM_matches_1 111 = .ok (.invokevirtual 543, 3) := by decide +kernel
theorem d_MM_matches_1_114 : decode b_MM_matches_1 114 = .ok (.ireturn, 1) := by decide +kernel
theorem d_MM_count_0 : decode b_MM_count 0 = .ok (.aload_n 0, 1) := by decide +kernel
theorem d_MM_count_1 : decode b_MM_count 1 = .ok (.iconst 0, 1) := by decide +kernel
theorem d_MM_count_2 : decode b_MM_count 2 = .ok (.putfield 230, 3) := by decide +kernel
theorem d_MM_count_5 : decode b_MM_count 5 = .ok (.aload_n 0, 1) := by decide +kernel
theorem d_MM_count_6 : decode b_MM_count 6 = .ok (.iload_n 1, 1) := by decide +kernel
theorem d_MM_count_7 : decode b_MM_count 7 = .ok (.iconst 0, 1) := by decide +kernel
theorem d_MM_count_8 : decode b_MM_count 8 = .ok (.iconst 3, 1) := by decide +kernel
theorem d_MM_count_9 : decode b_MM_count 9 = .ok (.invokestatic 344, 3) := by decide +kernel
theorem d_MM_count_12 : decode b_MM_count 12 = .ok (.ifCond .ne 7, 3) := by decide +kernel
theorem d_MM_count_15 : decode b_MM_count 15 = .ok (.iconst 1, 1) := by decide +kernel
theorem d_MM_count_16 : decode b_MM_count 16 = .ok (.goto 4, 3) := by decide +kernel
theorem d_MM_count_19 : decode b_MM_count 19 = .ok (.iconst 0, 1) := by decide +kernel
theorem d_MM_count_20 : decode b_MM_count 20 = .ok (.iconst 1, 1) := by decide +kernel
theorem d_MM_count_21 : decode b_MM_count 21 = .ok (.invokevirtual 236, 3) := by decide +kernel
theorem d_MM_count_24 : decode b_MM_count 24 = .ok (.ifCond .eq 5, 3) := by decide +kernel
theorem d_MM_count_27 : decode b_MM_count 27 = .ok (.iconst 0, 1) := by decide +kernel
theorem d_MM_count_28 : decode b_MM_count 28 = .ok (.ireturn, 1) := by decide +kernel
theorem d_MM_count_29 : decode b_MM_count 29 = .ok (.iload_n 1, 1) := by decide +kernel
theorem d_MM_count_30 : decode b_MM_count 30 = .ok (.ifCond .ne 13, 3) := by decide +kernel
theorem d_MM_count_33 : decode b_MM_count 33 = .ok (.aload_n 0, 1) := by decide +kernel
theorem d_MM_count_34 : decode b_MM_count 34 = .ok (.getfield 20, 3) := by decide +kernel
theorem d_MM_count_37 : decode b_MM_count 37 = .ok (.getfield 251, 3) := by decide +kernel
theorem d_MM_count_40 : decode b_MM_count 40 = .ok (.goto 34, 3) := by decide +kernel
theorem d_MM_count_43 : decode b_MM_count 43 = .ok (.iload_n 1, 1) := by decide +kernel
theorem d_MM_count_44 : decode b_MM_count 44 = .ok (.iconst 1, 1) := by decide +kernel
theorem d_MM_count_45 : decode b_MM_count 45 = .ok (.if_icmp .ne 13, 3) := by decide +kernel
theorem d_MM_count_48 : decode b_MM_count 48 = .ok (.aload_n 0, 1) := by decide +kernel
theorem d_MM_count_49 : decode b_MM_count 49 = .ok (.getfield 24, 3) := by decide +kernel
theorem d_MM_count_52 : decode b_MM_count 52 = .ok (.getfield 251, 3) := by decide +kernel
theorem d_MM_count_55 : decode b_MM_count 55 = .ok (.goto 19, 3) := by decide +kernel
theorem d_MM_count_58 : decode b_MM_count 58 = .ok (.iload_n 1, 1) := by decide +kernel
theorem d_MM_count_59 : decode b_MM_count 59 = .ok (.iconst 2, 1) := by decide +kernel
theorem d_MM_count_60 : decode b_MM_count 60 = .ok (.if_icmp .ne 10, 3) := by decide +kernel
theorem d_MM_count_63 : decode b_MM_count 63 = .ok (.aload_n 0, 1) := by decide +kernel
theorem d_MM_count_64 : decode b_MM_count 64 = .ok (.getfield 497, 3) := by decide +kernel
theorem d_MM_count_67 : decode b_MM_count 67 = .ok (.goto 7, 3) := by decide +kernel
theorem d_MM_count_70 : decode b_MM_count 70 = .ok (.aload_n 0, 1) := by decide +kernel
theorem d_MM_count_71 : decode b_MM_count 71 = .ok (.getfield 500, 3) := by decide +kernel
theorem d_MM_count_74 : decode b_MM_count 74 = .ok (.ireturn, 1) := by decide +kernel
theorem d_MM_init_0 : decode b_MM_init 0 = .ok (.aload_n 0, 1) := by decide +kernel
theorem d_MM_init_1 : decode b_MM_init 1 = .ok (.invokespecial 1, 3) := by decide +kernel
theorem d_MM_init_4 : decode b_MM_init 4 = .ok (.aload_n 0, 1) := by decide +kernel
theorem d_MM_init_5 : decode b_MM_init 5 = .ok (.iconst (-1), 1) := by decide +kernel
theorem d_MM_init_6 : decode b_MM_init 6 = .ok (.putfield 7, 3) := by decide +kernel
theorem d_MM_init_9 : decode b_MM_init 9 = .ok (.aload_n 0, 1) := by decide +kernel
theorem d_MM_init_10 : decode b_MM_init 10 = .ok (.sipush 8200, 3) := by decide +kernel
theorem d_MM_init_13 : decode b_MM_init 13 = .ok (.newarray .int, 2) := by decide +kernel
theorem d_MM_init_15 : decode b_MM_init 15 = .ok (.putfield 13, 3) := by decide +kernel
theorem d_MM_init_18 : decode b_MM_init 18 = .ok (.aload_n 0, 1) := by decide +kernel
theorem d_MM_init_19 : decode b_MM_init 19 = .ok (.new 17, 3) := by decide +kernel
theorem d_MM_init_22 : decode b_MM_init 22 = .ok (.dup, 1) := by decide +kernel
theorem d_MM_init_23 : decode b_MM_init 23 = .ok (.invokespecial 19, 3) := by decide +kernel
theorem d_MM_init_26 : decode b_MM_init 26 = .ok (.putfield 20, 3) := by decide +kernel
theorem d_MM_init_29 : decode b_MM_init 29 = .ok (.aload_n 0, 1) := by decide +kernel
theorem d_MM_init_30 : decode b_MM_init 30 = .ok (.new 17, 3) := by decide +kernel
theorem d_MM_init_33 : decode b_MM_init 33 = .ok (.dup, 1) := by decide +kernel
theorem d_MM_init_34 : decode b_MM_init 34 = .ok (.invokespecial 19, 3) := by decide +kernel
theorem d_MM_init_37 : decode b_MM_init 37 = .ok (.putfield 24, 3) := by decide +kernel
theorem d_MM_init_40 : decode b_MM_init 40 = .ok (.aload_n 0, 1) := by decide +kernel
theorem d_MM_init_41 : decode b_MM_init 41 = .ok (.sipush 16000, 3) := by decide +kernel
theorem d_MM_init_44 : decode b_MM_init 44 = .ok (.newarray .int, 2) := by decide +kernel
theorem d_MM_init_46 : decode b_MM_init 46 = .ok (.putfield 27, 3) := by decide +kernel
theorem d_MM_init_49 : decode b_MM_init 49 = .ok (.aload_n 0, 1) := by decide +kernel
theorem d_MM_init_50 : decode b_MM_init 50 = .ok (.sipush 16000, 3) := by decide +kernel
theorem d_MM_init_53 : decode b_MM_init 53 = .ok (.newarray .int, 2) := by decide +kernel
theorem d_MM_init_55 : decode b_MM_init 55 = .ok (.putfield 30, 3) := by decide +kernel
theorem d_MM_init_58 : decode b_MM_init 58 = .ok (.aload_n 0, 1) := by decide +kernel
theorem d_MM_init_59 : decode b_MM_init 59 = .ok (.sipush 16000, 3) := by decide +kernel
theorem d_MM_init_62 : decode b_MM_init 62 = .ok (.newarray .int, 2) := by decide +kernel
theorem d_MM_init_64 : decode b_MM_init 64 = .ok (.putfield 33, 3) := by decide +kernel
theorem d_MM_init_67 : decode b_MM_init 67 = .ok (.aload_n 0, 1) := by decide +kernel
theorem d_MM_init_68 : decode b_MM_init 68 = .ok (.sipush 16000, 3) := by decide +kernel
theorem d_MM_init_71 : decode b_MM_init 71 = .ok (.newarray .int, 2) := by decide +kernel
theorem d_MM_init_73 : decode b_MM_init 73 = .ok (.putfield 36, 3) := by decide +kernel
theorem d_MM_init_76 : decode b_MM_init 76 = .ok (.aload_n 0, 1) := by decide +kernel
theorem d_MM_init_77 : decode b_MM_init 77 = .ok (.sipush 16000, 3) := by decide +kernel
theorem d_MM_init_80 : decode b_MM_init 80 = .ok (.newarray .int, 2) := by decide +kernel
theorem d_MM_init_82 : decode b_MM_init 82 = .ok (.putfield 39, 3) := by decide +kernel
theorem d_MM_init_85 : decode b_MM_init 85 = .ok (.aload_n 0, 1) := by decide +kernel
theorem d_MM_init_86 : decode b_MM_init 86 = .ok (.ldc 42, 2) := by decide +kernel
theorem d_MM_init_88 : decode b_MM_init 88 = .ok (.newarray .int, 2) := by decide +kernel
theorem d_MM_init_90 : decode b_MM_init 90 = .ok (.putfield 43, 3) := by decide +kernel
theorem d_MM_init_93 : decode b_MM_init 93 = .ok (.aload_n 0, 1) := by decide +kernel
theorem d_MM_init_94 : decode b_MM_init 94 = .ok (.ldc 42, 2) := by decide +kernel
theorem d_MM_init_96 : decode b_MM_init 96 = .ok (.newarray .int, 2) := by decide +kernel
theorem d_MM_init_98 : decode b_MM_init 98 = .ok (.putfield 46, 3) := by decide +kernel
theorem d_MM_init_101 : decode b_MM_init 101 = .ok (.aload_n 0, 1) := by decide +kernel
theorem d_MM_init_102 : decode b_MM_init 102 = .ok (.sipush 8000, 3) := by decide +kernel
theorem d_MM_init_105 : decode b_MM_init 105 = .ok (.newarray .int, 2) := by decide +kernel
theorem d_MM_init_107 : decode b_MM_init 107 = .ok (.putfield 49, 3) := by decide +kernel
theorem d_MM_init_110 : decode b_MM_init 110 = .ok (.aload_n 0, 1) := by decide +kernel
