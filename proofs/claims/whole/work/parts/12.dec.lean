theorem d_Lk_placeNumber_0 : decode b_Lk_placeNumber 0 = .ok (.iload_n 2, 1) := by decide +kernel
theorem d_Lk_placeNumber_1 : decode b_Lk_placeNumber 1 = .ok (.iload_n 1, 1) := by decide +kernel
theorem d_Lk_placeNumber_2 : decode b_Lk_placeNumber 2 = .ok (.isub, 1) := by decide +kernel
theorem d_Lk_placeNumber_3 : decode b_Lk_placeNumber 3 = .ok (.istore_n 3, 1) := by decide +kernel
theorem d_Lk_placeNumber_4 : decode b_Lk_placeNumber 4 = .ok (.iload_n 3, 1) := by decide +kernel
theorem d_Lk_placeNumber_5 : decode b_Lk_placeNumber 5 = .ok (.iconst 1, 1) := by decide +kernel
theorem d_Lk_placeNumber_6 : decode b_Lk_placeNumber 6 = .ok (.if_icmp .lt 24, 3) := by decide +kernel
theorem d_Lk_placeNumber_9 : decode b_Lk_placeNumber 9 = .ok (.iload_n 3, 1) := by decide +kernel
theorem d_Lk_placeNumber_10 : decode b_Lk_placeNumber 10 = .ok (.iconst 2, 1) := by decide +kernel
theorem d_Lk_placeNumber_11 : decode b_Lk_placeNumber 11 = .ok (.if_icmp .gt 19, 3) := by decide +kernel
theorem d_Lk_placeNumber_14 : decode b_Lk_placeNumber 14 = .ok (.iload_n 3, 1) := by decide +kernel
theorem d_Lk_placeNumber_15 : decode b_Lk_placeNumber 15 = .ok (.iconst 2, 1) := by decide +kernel
theorem d_Lk_placeNumber_16 : decode b_Lk_placeNumber 16 = .ok (.if_icmp .ne 16, 3) := by decide +kernel
theorem d_Lk_placeNumber_19 : decode b_Lk_placeNumber 19 = .ok (.aload_n 0, 1) := by decide +kernel
theorem d_Lk_placeNumber_20 : decode b_Lk_placeNumber 20 = .ok (.getfield 9, 3) := by decide +kernel
theorem d_Lk_placeNumber_23 : decode b_Lk_placeNumber 23 = .ok (.iload_n 1, 1) := by decide +kernel
theorem d_Lk_placeNumber_24 : decode b_Lk_placeNumber 24 = .ok (.iaload, 1) := by decide +kernel
theorem d_Lk_placeNumber_25 : decode b_Lk_placeNumber 25 = .ok (.bipush 48, 2) := by decide +kernel
theorem d_Lk_placeNumber_27 : decode b_Lk_placeNumber 27 = .ok (.if_icmp .ne 5, 3) := by decide +kernel
theorem d_Lk_placeNumber_30 : decode b_Lk_placeNumber 30 = .ok (.iconst (-1), 1) := by decide +kernel
theorem d_Lk_placeNumber_31 : decode b_Lk_placeNumber 31 = .ok (.ireturn, 1) := by decide +kernel
theorem d_Lk_placeNumber_32 : decode b_Lk_placeNumber 32 = .ok (.iconst 0, 1) := by decide +kernel
theorem d_Lk_placeNumber_33 : decode b_Lk_placeNumber 33 = .ok (.istore 4, 2) := by decide +kernel
theorem d_Lk_placeNumber_35 : decode b_Lk_placeNumber 35 = .ok (.iload_n 1, 1) := by decide +kernel
theorem d_Lk_placeNumber_36 : decode b_Lk_placeNumber 36 = .ok (.istore 5, 2) := by decide +kernel
theorem d_Lk_placeNumber_38 : decode b_Lk_placeNumber 38 = .ok (.iload 5, 2) := by decide +kernel
theorem d_Lk_placeNumber_40 : decode b_Lk_placeNumber 40 = .ok (.iload_n 2, 1) := by decide +kernel
theorem d_Lk_placeNumber_41 : decode b_Lk_placeNumber 41 = .ok (.if_icmp .ge 42, 3) := by decide +kernel
theorem d_Lk_placeNumber_44 : decode b_Lk_placeNumber 44 = .ok (.aload_n 0, 1) := by decide +kernel
theorem d_Lk_placeNumber_45 : decode b_Lk_placeNumber 45 = .ok (.getfield 9, 3) := by decide +kernel
theorem d_Lk_placeNumber_48 : decode b_Lk_placeNumber 48 = .ok (.iload 5, 2) := by decide +kernel
theorem d_Lk_placeNumber_50 : decode b_Lk_placeNumber 50 = .ok (.iaload, 1) := by decide +kernel
theorem d_Lk_placeNumber_51 : decode b_Lk_placeNumber 51 = .ok (.invokestatic 117, 3) := by decide +kernel
theorem d_Lk_placeNumber_54 : decode b_Lk_placeNumber 54 = .ok (.ifCond .ne 5, 3) := by decide +kernel
theorem d_Lk_placeNumber_57 : decode b_Lk_placeNumber 57 = .ok (.iconst (-1), 1) := by decide +kernel
theorem d_Lk_placeNumber_58 : decode b_Lk_placeNumber 58 = .ok (.ireturn, 1) := by decide +kernel
theorem d_Lk_placeNumber_59 : decode b_Lk_placeNumber 59 = .ok (.iload 4, 2) := by decide +kernel
theorem d_Lk_placeNumber_61 : decode b_Lk_placeNumber 61 = .ok (.bipush 10, 2) := by decide +kernel
theorem d_Lk_placeNumber_63 : decode b_Lk_placeNumber 63 = .ok (.imul, 1) := by decide +kernel
theorem d_Lk_placeNumber_64 : decode b_Lk_placeNumber 64 = .ok (.aload_n 0, 1) := by decide +kernel
theorem d_Lk_placeNumber_65 : decode b_Lk_placeNumber 65 = .ok (.getfield 9, 3) := by decide +kernel
theorem d_Lk_placeNumber_68 : decode b_Lk_placeNumber 68 = .ok (.iload 5, 2) := by decide +kernel
theorem d_Lk_placeNumber_70 : decode b_Lk_placeNumber 70 = .ok (.iaload, 1) := by decide +kernel
theorem d_Lk_placeNumber_71 : decode b_Lk_placeNumber 71 = .ok (.iadd, 1) := by decide +kernel
theorem d_Lk_placeNumber_72 : decode b_Lk_placeNumber 72 = .ok (.bipush 48, 2) := by decide +kernel
theorem d_Lk_placeNumber_74 : decode b_Lk_placeNumber 74 = .ok (.isub, 1) := by decide +kernel
theorem d_Lk_placeNumber_75 : decode b_Lk_placeNumber 75 = .ok (.istore 4, 2) := by decide +kernel
theorem d_Lk_placeNumber_77 : decode b_Lk_placeNumber 77 = .ok (.iinc 5 1, 3) := by decide +kernel
theorem d_Lk_placeNumber_80 : decode b_Lk_placeNumber 80 = .ok (.goto (-42), 3) := by decide +kernel
theorem d_Lk_placeNumber_83 : decode b_Lk_placeNumber 83 = .ok (.iload 4, 2) := by decide +kernel
theorem d_Lk_placeNumber_85 : decode b_Lk_placeNumber 85 = .ok (.ireturn, 1) := by decide +kernel
theorem d_Lk_isNamed_0 : decode b_Lk_isNamed 0 = .ok (.iconst 0, 1) := by decide +kernel
theorem d_Lk_isNamed_1 : decode b_Lk_isNamed 1 = .ok (.istore 4, 2) := by decide +kernel
theorem d_Lk_isNamed_3 : decode b_Lk_isNamed 3 = .ok (.iload_n 2, 1) := by decide +kernel
theorem d_Lk_isNamed_4 : decode b_Lk_isNamed 4 = .ok (.istore 5, 2) := by decide +kernel
theorem d_Lk_isNamed_6 : decode b_Lk_isNamed 6 = .ok (.iload 5, 2) := by decide +kernel
theorem d_Lk_isNamed_8 : decode b_Lk_isNamed 8 = .ok (.iload_n 3, 1) := by decide +kernel
theorem d_Lk_isNamed_9 : decode b_Lk_isNamed 9 = .ok (.if_icmp .ge 112, 3) := by decide +kernel
theorem d_Lk_isNamed_12 : decode b_Lk_isNamed 12 = .ok (.aload_n 0, 1) := by decide +kernel
theorem d_Lk_isNamed_13 : decode b_Lk_isNamed 13 = .ok (.getfield 9, 3) := by decide +kernel
theorem d_Lk_isNamed_16 : decode b_Lk_isNamed 16 = .ok (.iload 5, 2) := by decide +kernel
theorem d_Lk_isNamed_18 : decode b_Lk_isNamed 18 = .ok (.iaload, 1) := by decide +kernel
theorem d_Lk_isNamed_19 : decode b_Lk_isNamed 19 = .ok (.istore 6, 2) := by decide +kernel
theorem d_Lk_isNamed_21 : decode b_Lk_isNamed 21 = .ok (.iload 6, 2) := by decide +kernel
theorem d_Lk_isNamed_23 : decode b_Lk_isNamed 23 = .ok (.bipush 126, 2) := by decide +kernel
theorem d_Lk_isNamed_25 : decode b_Lk_isNamed 25 = .ok (.if_icmp .ne 57, 3) := by decide +kernel
theorem d_Lk_isNamed_28 : decode b_Lk_isNamed 28 = .ok (.iinc 5 1, 3) := by decide +kernel
theorem d_Lk_isNamed_31 : decode b_Lk_isNamed 31 = .ok (.iload 5, 2) := by decide +kernel
theorem d_Lk_isNamed_33 : decode b_Lk_isNamed 33 = .ok (.iload_n 3, 1) := by decide +kernel
theorem d_Lk_isNamed_34 : decode b_Lk_isNamed 34 = .ok (.if_icmp .ge 13, 3) := by decide +kernel
theorem d_Lk_isNamed_37 : decode b_Lk_isNamed 37 = .ok (.aload_n 0, 1) := by decide +kernel
theorem d_Lk_isNamed_38 : decode b_Lk_isNamed 38 = .ok (.getfield 9, 3) := by decide +kernel
theorem d_Lk_isNamed_41 : decode b_Lk_isNamed 41 = .ok (.iload 5, 2) := by decide +kernel
theorem d_Lk_isNamed_43 : decode b_Lk_isNamed 43 = .ok (.iaload, 1) := by decide +kernel
theorem d_Lk_isNamed_44 : decode b_Lk_isNamed 44 = .ok (.goto 4, 3) := by decide +kernel
theorem d_Lk_isNamed_47 : decode b_Lk_isNamed 47 = .ok (.iconst (-1), 1) := by decide +kernel
theorem d_Lk_isNamed_48 : decode b_Lk_isNamed 48 = .ok (.istore 7, 2) := by decide +kernel
theorem d_Lk_isNamed_50 : decode b_Lk_isNamed 50 = .ok (.iload 7, 2) := by decide +kernel
theorem d_Lk_isNamed_52 : decode b_Lk_isNamed 52 = .ok (.bipush 48, 2) := by decide +kernel
theorem d_Lk_isNamed_54 : decode b_Lk_isNamed 54 = .ok (.if_icmp .eq 12, 3) := by decide +kernel
theorem d_Lk_isNamed_57 : decode b_Lk_isNamed 57 = .ok (.iload 7, 2) := by decide +kernel
theorem d_Lk_isNamed_59 : decode b_Lk_isNamed 59 = .ok (.bipush 49, 2) := by decide +kernel
theorem d_Lk_isNamed_61 : decode b_Lk_isNamed 61 = .ok (.if_icmp .eq 5, 3) := by decide +kernel
theorem d_Lk_isNamed_64 : decode b_Lk_isNamed 64 = .ok (.iconst 0, 1) := by decide +kernel
theorem d_Lk_isNamed_65 : decode b_Lk_isNamed 65 = .ok (.ireturn, 1) := by decide +kernel
theorem d_Lk_isNamed_66 : decode b_Lk_isNamed 66 = .ok (.iload 7, 2) := by decide +kernel
theorem d_Lk_isNamed_68 : decode b_Lk_isNamed 68 = .ok (.bipush 48, 2) := by decide +kernel
theorem d_Lk_isNamed_70 : decode b_Lk_isNamed 70 = .ok (.if_icmp .ne 8, 3) := by decide +kernel
theorem d_Lk_isNamed_73 : decode b_Lk_isNamed 73 = .ok (.bipush 126, 2) := by decide +kernel
theorem d_Lk_isNamed_75 : decode b_Lk_isNamed 75 = .ok (.goto 5, 3) := by decide +kernel
theorem d_Lk_isNamed_78 : decode b_Lk_isNamed 78 = .ok (.bipush 47, 2) := by decide +kernel
theorem d_Lk_isNamed_80 : decode b_Lk_isNamed 80 = .ok (.istore 6, 2) := by decide +kernel
theorem d_Lk_isNamed_82 : decode b_Lk_isNamed 82 = .ok (.iload 4, 2) := by decide +kernel
theorem d_Lk_isNamed_84 : decode b_Lk_isNamed 84 = .ok (.aload_n 0, 1) := by decide +kernel
theorem d_Lk_isNamed_85 : decode b_Lk_isNamed 85 = .ok (.getfield 15, 3) := by decide +kernel
theorem d_Lk_isNamed_88 : decode b_Lk_isNamed 88 = .ok (.iload_n 1, 1) := by decide +kernel
theorem d_Lk_isNamed_89 : decode b_Lk_isNamed 89 = .ok (.invokevirtual 43, 3) := by decide +kernel
theorem d_Lk_isNamed_92 : decode b_Lk_isNamed 92 = .ok (.if_icmp .ge 18, 3) := by decide +kernel
theorem d_Lk_isNamed_95 : decode b_Lk_isNamed 95 = .ok (.aload_n 0, 1) := by decide +kernel
theorem d_Lk_isNamed_96 : decode b_Lk_isNamed 96 = .ok (.getfield 15, 3) := by decide +kernel
theorem d_Lk_isNamed_99 : decode b_Lk_isNamed 99 = .ok (.iload_n 1, 1) := by decide +kernel
theorem d_Lk_isNamed_100 : decode b_Lk_isNamed 100 = .ok (.iload 4, 2) := by decide +kernel
theorem d_Lk_isNamed_102 : decode b_Lk_isNamed 102 = .ok (.invokevirtual 55, 3) := by decide +kernel
theorem d_Lk_isNamed_105 : decode b_Lk_isNamed 105 = .ok (.iload 6, 2) := by decide +kernel
theorem d_Lk_isNamed_107 : decode b_Lk_isNamed 107 = .ok (.if_icmp .eq 5, 3) := by decide +kernel
theorem d_Lk_isNamed_110 : decode b_Lk_isNamed 110 = .ok (.iconst 0, 1) := by decide +kernel
theorem d_Lk_isNamed_111 : decode b_Lk_isNamed 111 = .ok (.ireturn, 1) := by decide +kernel
theorem d_Lk_isNamed_112 : decode b_Lk_isNamed 112 = .ok (.iinc 4 1, 3) := by decide +kernel
theorem d_Lk_isNamed_115 : decode b_Lk_isNamed 115 = .ok (.iinc 5 1, 3) := by decide +kernel
theorem d_Lk_isNamed_118 : decode b_Lk_isNamed 118 = .ok (.goto (-112), 3) := by decide +kernel
theorem d_Lk_isNamed_121 : decode b_Lk_isNamed 121 = .ok (.iload 4, 2) := by decide +kernel
theorem d_Lk_isNamed_123 : decode b_Lk_isNamed 123 = .ok (.aload_n 0, 1) := by decide +kernel
theorem d_Lk_isNamed_124 : decode b_Lk_isNamed 124 = .ok (.getfield 15, 3) := by decide +kernel
theorem d_Lk_isNamed_127 : decode b_Lk_isNamed 127 = .ok (.iload_n 1, 1) := by decide +kernel
theorem d_Lk_isNamed_128 : decode b_Lk_isNamed 128 = .ok (.invokevirtual 43, 3) := by decide +kernel
theorem d_Lk_isNamed_131 : decode b_Lk_isNamed 131 = .ok (.if_icmp .ne 7, 3) := by decide +kernel
theorem d_Lk_isNamed_134 : decode b_Lk_isNamed 134 = .ok (.iconst 1, 1) := by decide +kernel
theorem d_Lk_isNamed_135 : decode b_Lk_isNamed 135 = .ok (.goto 4, 3) := by decide +kernel
theorem d_Lk_isNamed_138 : decode b_Lk_isNamed 138 = .ok (.iconst 0, 1) := by decide +kernel
theorem d_Lk_isNamed_139 : decode b_Lk_isNamed 139 = .ok (.ireturn, 1) := by decide +kernel
theorem d_Tx_element_0 : decode b_Tx_element 0 = .ok (.aload_n 0, 1) := by decide +kernel
theorem d_Tx_element_1 : decode b_Tx_element 1 = .ok (.iload_n 1, 1) := by decide +kernel
theorem d_Tx_element_2 : decode b_Tx_element 2 = .ok (.invokevirtual 53, 3) := by decide +kernel
theorem d_Tx_element_5 : decode b_Tx_element 5 = .ok (.istore_n 3, 1) := by decide +kernel
theorem d_Tx_element_6 : decode b_Tx_element 6 = .ok (.iconst 0, 1) := by decide +kernel
theorem d_Tx_element_7 : decode b_Tx_element 7 = .ok (.istore 4, 2) := by decide +kernel
theorem d_Tx_element_9 : decode b_Tx_element 9 = .ok (.iload 4, 2) := by decide +kernel
theorem d_Tx_element_11 : decode b_Tx_element 11 = .ok (.iload_n 2, 1) := by decide +kernel
theorem d_Tx_element_12 : decode b_Tx_element 12 = .ok (.if_icmp .ge 20, 3) := by decide +kernel
theorem d_Tx_element_15 : decode b_Tx_element 15 = .ok (.iload_n 3, 1) := by decide +kernel
theorem d_Tx_element_16 : decode b_Tx_element 16 = .ok (.iconst (-1), 1) := by decide +kernel
theorem d_Tx_element_17 : decode b_Tx_element 17 = .ok (.if_icmp .eq 15, 3) := by decide +kernel
theorem d_Tx_element_20 : decode b_Tx_element 20 = .ok (.aload_n 0, 1) := by decide +kernel
theorem d_Tx_element_21 : decode b_Tx_element 21 = .ok (.iload_n 3, 1) := by decide +kernel
theorem d_Tx_element_22 : decode b_Tx_element 22 = .ok (.invokevirtual 57, 3) := by decide +kernel
theorem d_Tx_element_25 : decode b_Tx_element 25 = .ok (.istore_n 3, 1) := by decide +kernel
theorem d_Tx_element_26 : decode b_Tx_element 26 = .ok (.iinc 4 1, 3) := by decide +kernel
theorem d_Tx_element_29 : decode b_Tx_element 29 = .ok (.goto (-20), 3) := by decide +kernel
theorem d_Tx_element_32 : decode b_Tx_element 32 = .ok (.iload_n 3, 1) := by decide +kernel
theorem d_Tx_element_33 : decode b_Tx_element 33 = .ok (.ireturn, 1) := by decide +kernel
theorem d_Lk_step_0 : decode b_Lk_step 0 = .ok (.aload_n 0, 1) := by decide +kernel
theorem d_Lk_step_1 : decode b_Lk_step 1 = .ok (.getfield 15, 3) := by decide +kernel
theorem d_Lk_step_4 : decode b_Lk_step 4 = .ok (.iload_n 1, 1) := by decide +kernel
theorem d_Lk_step_5 : decode b_Lk_step 5 = .ok (.invokevirtual 102, 3) := by decide +kernel
theorem d_Lk_step_8 : decode b_Lk_step 8 = .ok (.iconst 5, 1) := by decide +kernel
theorem d_Lk_step_9 : decode b_Lk_step 9 = .ok (.if_icmp .ne 32, 3) := by decide +kernel
theorem d_Lk_step_12 : decode b_Lk_step 12 = .ok (.aload_n 0, 1) := by decide +kernel
theorem d_Lk_step_13 : decode b_Lk_step 13 = .ok (.iload_n 2, 1) := by decide +kernel
theorem d_Lk_step_14 : decode b_Lk_step 14 = .ok (.iload_n 3, 1) := by decide +kernel
theorem d_Lk_step_15 : decode b_Lk_step 15 = .ok (.invokevirtual 105, 3) := by decide +kernel
theorem d_Lk_step_18 : decode b_Lk_step 18 = .ok (.istore 4, 2) := by decide +kernel
theorem d_Lk_step_20 : decode b_Lk_step 20 = .ok (.iload 4, 2) := by decide +kernel
theorem d_Lk_step_22 : decode b_Lk_step 22 = .ok (.iconst (-1), 1) := by decide +kernel
theorem d_Lk_step_23 : decode b_Lk_step 23 = .ok (.if_icmp .ne 7, 3) := by decide +kernel
theorem d_Lk_step_26 : decode b_Lk_step 26 = .ok (.iconst (-1), 1) := by decide +kernel
theorem d_Lk_step_27 : decode b_Lk_step 27 = .ok (.goto 13, 3) := by decide +kernel
theorem d_Lk_step_30 : decode b_Lk_step 30 = .ok (.aload_n 0, 1) := by decide +kernel
theorem d_Lk_step_31 : decode b_Lk_step 31 = .ok (.getfield 15, 3) := by decide +kernel
theorem d_Lk_step_34 : decode b_Lk_step 34 = .ok (.iload_n 1, 1) := by decide +kernel
theorem d_Lk_step_35 : decode b_Lk_step 35 = .ok (.iload 4, 2) := by decide +kernel
theorem d_Lk_step_37 : decode b_Lk_step 37 = .ok (.invokevirtual 108, 3) := by decide +kernel
theorem d_Lk_step_40 : decode b_Lk_step 40 = .ok (.ireturn, 1) := by decide +kernel
theorem d_Lk_step_41 : decode b_Lk_step 41 = .ok (.aload_n 0, 1) := by decide +kernel
theorem d_Lk_step_42 : decode b_Lk_step 42 = .ok (.getfield 15, 3) := by decide +kernel
theorem d_Lk_step_45 : decode b_Lk_step 45 = .ok (.iload_n 1, 1) := by decide +kernel
theorem d_Lk_step_46 : decode b_Lk_step 46 = .ok (.invokevirtual 102, 3) := by decide +kernel
theorem d_Lk_step_49 : decode b_Lk_step 49 = .ok (.bipush 6, 2) := by decide +kernel
theorem d_Lk_step_51 : decode b_Lk_step 51 = .ok (.if_icmp .eq 5, 3) := by decide +kernel
theorem d_Lk_step_54 : decode b_Lk_step 54 = .ok (.iconst (-1), 1) := by decide +kernel
theorem d_Lk_step_55 : decode b_Lk_step 55 = .ok (.ireturn, 1) := by decide +kernel
theorem d_Lk_step_56 : decode b_Lk_step 56 = .ok (.aload_n 0, 1) := by decide +kernel
theorem d_Lk_step_57 : decode b_Lk_step 57 = .ok (.getfield 15, 3) := by decide +kernel
theorem d_Lk_step_60 : decode b_Lk_step 60 = .ok (.iload_n 1, 1) := by decide +kernel
theorem d_Lk_step_61 : decode b_Lk_step 61 = .ok (.invokevirtual 111, 3) := by decide +kernel
theorem d_Lk_step_64 : decode b_Lk_step 64 = .ok (.istore 4, 2) := by decide +kernel
theorem d_Lk_step_66 : decode b_Lk_step 66 = .ok (.iconst 0, 1) := by decide +kernel
theorem d_Lk_step_67 : decode b_Lk_step 67 = .ok (.istore 5, 2) := by decide +kernel
theorem d_Lk_step_69 : decode b_Lk_step 69 = .ok (.iload 5, 2) := by decide +kernel
theorem d_Lk_step_71 : decode b_Lk_step 71 = .ok (.aload_n 0, 1) := by decide +kernel
theorem d_Lk_step_72 : decode b_Lk_step 72 = .ok (.getfield 15, 3) := by decide +kernel
theorem d_Lk_step_75 : decode b_Lk_step 75 = .ok (.iload_n 1, 1) := by decide +kernel
theorem d_Lk_step_76 : decode b_Lk_step 76 = .ok (.invokevirtual 43, 3) := by decide +kernel
theorem d_Lk_step_79 : decode b_Lk_step 79 = .ok (.if_icmp .ge 36, 3) := by decide +kernel
theorem d_Lk_step_82 : decode b_Lk_step 82 = .ok (.aload_n 0, 1) := by decide +kernel
theorem d_Lk_step_83 : decode b_Lk_step 83 = .ok (.iload 4, 2) := by decide +kernel
theorem d_Lk_step_85 : decode b_Lk_step 85 = .ok (.iconst 1, 1) := by decide +kernel
theorem d_Lk_step_86 : decode b_Lk_step 86 = .ok (.isub, 1) := by decide +kernel
theorem d_Lk_step_87 : decode b_Lk_step 87 = .ok (.iload_n 2, 1) := by decide +kernel
theorem d_Lk_step_88 : decode b_Lk_step 88 = .ok (.iload_n 3, 1) := by decide +kernel
theorem d_Lk_step_89 : decode b_Lk_step 89 = .ok (.invokevirtual 91, 3) := by decide +kernel
theorem d_Lk_step_92 : decode b_Lk_step 92 = .ok (.ifCond .eq 6, 3) := by decide +kernel
theorem d_Lk_step_95 : decode b_Lk_step 95 = .ok (.iload 4, 2) := by decide +kernel
theorem d_Lk_step_97 : decode b_Lk_step 97 = .ok (.ireturn, 1) := by decide +kernel
theorem d_Lk_step_98 : decode b_Lk_step 98 = .ok (.aload_n 0, 1) := by decide +kernel
theorem d_Lk_step_99 : decode b_Lk_step 99 = .ok (.getfield 15, 3) := by decide +kernel
theorem d_Lk_step_102 : decode b_Lk_step 102 = .ok (.iload 4, 2) := by decide +kernel
theorem d_Lk_step_104 : decode b_Lk_step 104 = .ok (.invokevirtual 114, 3) := by decide +kernel
theorem d_Lk_step_107 : decode b_Lk_step 107 = .ok (.istore 4, 2) := by decide +kernel
theorem d_Lk_step_109 : decode b_Lk_step 109 = .ok (.iinc 5 1, 3) := by decide +kernel
theorem d_Lk_step_112 : decode b_Lk_step 112 = .ok (.goto (-43), 3) := by decide +kernel
theorem d_Lk_step_115 : decode b_Lk_step 115 = .ok (.iconst (-1), 1) := by decide +kernel
theorem d_Lk_step_116 : decode b_Lk_step 116 = .ok (.ireturn, 1) := by decide +kernel
theorem d_Lk_walk_0 : decode b_Lk_walk 0 = .ok (.iconst 0, 1) := by decide +kernel
theorem d_Lk_walk_1 : decode b_Lk_walk 1 = .ok (.istore_n 1, 1) := by decide +kernel
theorem d_Lk_walk_2 : decode b_Lk_walk 2 = .ok (.iconst 2, 1) := by decide +kernel
theorem d_Lk_walk_3 : decode b_Lk_walk 3 = .ok (.istore_n 2, 1) := by decide +kernel
theorem d_Lk_walk_4 : decode b_Lk_walk 4 = .ok (.iconst 2, 1) := by decide +kernel
theorem d_Lk_walk_5 : decode b_Lk_walk 5 = .ok (.istore_n 3, 1) := by decide +kernel
theorem d_Lk_walk_6 : decode b_Lk_walk 6 = .ok (.iload_n 3, 1) := by decide +kernel
theorem d_Lk_walk_7 : decode b_Lk_walk 7 = .ok (.aload_n 0, 1) := by decide +kernel
theorem d_Lk_walk_8 : decode b_Lk_walk 8 = .ok (.getfield 27, 3) := by decide +kernel
theorem d_Lk_walk_11 : decode b_Lk_walk 11 = .ok (.if_icmp .gt 40, 3) := by decide +kernel
theorem d_Lk_walk_14 : decode b_Lk_walk 14 = .ok (.iload_n 3, 1) := by decide +kernel
theorem d_Lk_walk_15 : decode b_Lk_walk 15 = .ok (.aload_n 0, 1) := by decide +kernel
theorem d_Lk_walk_16 : decode b_Lk_walk 16 = .ok (.getfield 27, 3) := by decide +kernel
theorem d_Lk_walk_19 : decode b_Lk_walk 19 = .ok (.if_icmp .eq 14, 3) := by decide +kernel
theorem d_Lk_walk_22 : decode b_Lk_walk 22 = .ok (.aload_n 0, 1) := by decide +kernel
theorem d_Lk_walk_23 : decode b_Lk_walk 23 = .ok (.getfield 9, 3) := by decide +kernel
theorem d_Lk_walk_26 : decode b_Lk_walk 26 = .ok (.iload_n 3, 1) := by decide +kernel
theorem d_Lk_walk_27 : decode b_Lk_walk 27 = .ok (.iaload, 1) := by decide +kernel
theorem d_Lk_walk_28 : decode b_Lk_walk 28 = .ok (.bipush 47, 2) := by decide +kernel
theorem d_Lk_walk_30 : decode b_Lk_walk 30 = .ok (.if_icmp .ne 15, 3) := by decide +kernel
theorem d_Lk_walk_33 : decode b_Lk_walk 33 = .ok (.aload_n 0, 1) := by decide +kernel
theorem d_Lk_walk_34 : decode b_Lk_walk 34 = .ok (.iload_n 1, 1) := by decide +kernel
theorem d_Lk_walk_35 : decode b_Lk_walk 35 = .ok (.iload_n 2, 1) := by decide +kernel
theorem d_Lk_walk_36 : decode b_Lk_walk 36 = .ok (.iload_n 3, 1) := by decide +kernel
theorem d_Lk_walk_37 : decode b_Lk_walk 37 = .ok (.invokevirtual 98, 3) := by decide +kernel
theorem d_Lk_walk_40 : decode b_Lk_walk 40 = .ok (.istore_n 1, 1) := by decide +kernel
theorem d_Lk_walk_41 : decode b_Lk_walk 41 = .ok (.iload_n 3, 1) := by decide +kernel
theorem d_Lk_walk_42 : decode b_Lk_walk 42 = .ok (.iconst 1, 1) := by decide +kernel
theorem d_Lk_walk_43 : decode b_Lk_walk 43 = .ok (.iadd, 1) := by decide +kernel
theorem d_Lk_walk_44 : decode b_Lk_walk 44 = .ok (.istore_n 2, 1) := by decide +kernel
theorem d_Lk_walk_45 : decode b_Lk_walk 45 = .ok (.iinc 3 1, 3) := by decide +kernel
theorem d_Lk_walk_48 : decode b_Lk_walk 48 = .ok (.goto (-42), 3) := by decide +kernel
theorem d_Lk_walk_51 : decode b_Lk_walk 51 = .ok (.iload_n 1, 1) := by decide +kernel
theorem d_Lk_walk_52 : decode b_Lk_walk 52 = .ok (.ireturn, 1) := by decide +kernel
theorem d_Mk_setTarget_0 : decode b_Mk_setTarget 0 = .ok (.iload_n 1, 1) := by decide +kernel
theorem d_Mk_setTarget_1 : decode b_Mk_setTarget 1 = .ok (.ifCond .lt 17, 3) := by decide +kernel
theorem d_Mk_setTarget_4 : decode b_Mk_setTarget 4 = .ok (.iload_n 1, 1) := by decide +kernel
theorem d_Mk_setTarget_5 : decode b_Mk_setTarget 5 = .ok (.sipush 1000, 3) := by decide +kernel
theorem d_Mk_setTarget_8 : decode b_Mk_setTarget 8 = .ok (.if_icmp .ge 10, 3) := by decide +kernel
theorem d_Mk_setTarget_11 : decode b_Mk_setTarget 11 = .ok (.aload_n 0, 1) := by decide +kernel
theorem d_Mk_setTarget_12 : decode b_Mk_setTarget 12 = .ok (.getfield 19, 3) := by decide +kernel
theorem d_Mk_setTarget_15 : decode b_Mk_setTarget 15 = .ok (.iload_n 1, 1) := by decide +kernel
theorem d_Mk_setTarget_16 : decode b_Mk_setTarget 16 = .ok (.iload_n 2, 1) := by decide +kernel
theorem d_Mk_setTarget_17 : decode b_Mk_setTarget 17 = .ok (.iastore, 1) := by decide +kernel
theorem d_Mk_setTarget_18 : decode b_Mk_setTarget 18 = .ok (.return_, 1) := by decide +kernel
theorem d_Ck_faultyValue_0 : decode b_Ck_faultyValue 0 = .ok (.aload_n 0, 1) := by decide +kernel
theorem d_Ck_faultyValue_1 : decode b_Ck_faultyValue 1 = .ok (.getfield 47, 3) := by decide +kernel
theorem d_Ck_faultyValue_4 : decode b_Ck_faultyValue 4 = .ok (.ireturn, 1) := by decide +kernel
theorem d_Ck_passed_0 : decode b_Ck_passed 0 = .ok (.aload_n 0, 1) := by decide +kernel
theorem d_Ck_passed_1 : decode b_Ck_passed 1 = .ok (.getfield 43, 3) := by decide +kernel
theorem d_Ck_passed_4 : decode b_Ck_passed 4 = .ok (.ifCond .ne 7, 3) := by decide +kernel
theorem d_Ck_passed_7 : decode b_Ck_passed 7 = .ok (.iconst 1, 1) := by decide +kernel
theorem d_Ck_passed_8 : decode b_Ck_passed 8 = .ok (.goto 4, 3) := by decide +kernel
theorem d_Ck_passed_11 : decode b_Ck_passed 11 = .ok (.iconst 0, 1) := by decide +kernel
theorem d_Ck_passed_12 : decode b_Ck_passed 12 = .ok (.ireturn, 1) := by decide +kernel
theorem d_Pr_cut_0 : decode b_Pr_cut 0 = .ok (.iload_n 1, 1) := by decide +kernel
theorem d_Pr_cut_1 : decode b_Pr_cut 1 = .ok (.ifCond .lt 16, 3) := by decide +kernel
theorem d_Pr_cut_4 : decode b_Pr_cut 4 = .ok (.iload_n 1, 1) := by decide +kernel
theorem d_Pr_cut_5 : decode b_Pr_cut 5 = .ok (.aload_n 0, 1) := by decide +kernel
theorem d_Pr_cut_6 : decode b_Pr_cut 6 = .ok (.getfield 18, 3) := by decide +kernel
theorem d_Pr_cut_9 : decode b_Pr_cut 9 = .ok (.if_icmp .ge 8, 3) := by decide +kernel
theorem d_Pr_cut_12 : decode b_Pr_cut 12 = .ok (.aload_n 0, 1) := by decide +kernel
theorem d_Pr_cut_13 : decode b_Pr_cut 13 = .ok (.iload_n 1, 1) := by decide +kernel
theorem d_Pr_cut_14 : decode b_Pr_cut 14 = .ok (.putfield 18, 3) := by decide +kernel
theorem d_Pr_cut_17 : decode b_Pr_cut 17 = .ok (.return_, 1) := by decide +kernel
theorem d_Jd_begin_0 : decode b_Jd_begin 0 = .ok (.aload_n 0, 1) := by decide +kernel
theorem d_Jd_begin_1 : decode b_Jd_begin 1 = .ok (.getfield 44, 3) := by decide +kernel
theorem d_Jd_begin_4 : decode b_Jd_begin 4 = .ok (.iconst 0, 1) := by decide +kernel
theorem d_Jd_begin_5 : decode b_Jd_begin 5 = .ok (.invokevirtual 48, 3) := by decide +kernel
theorem d_Jd_begin_8 : decode b_Jd_begin 8 = .ok (.aload_n 0, 1) := by decide +kernel
theorem d_Jd_begin_9 : decode b_Jd_begin 9 = .ok (.iconst 0, 1) := by decide +kernel
theorem d_Jd_begin_10 : decode b_Jd_begin 10 = .ok (.putfield 52, 3) := by decide +kernel
theorem d_Jd_begin_13 : decode b_Jd_begin 13 = .ok (.aload_n 0, 1) := by decide +kernel
theorem d_Jd_begin_14 : decode b_Jd_begin 14 = .ok (.iconst 0, 1) := by decide +kernel
theorem d_Jd_begin_15 : decode b_Jd_begin 15 = .ok (.putfield 56, 3) := by decide +kernel
theorem d_Jd_begin_18 : decode b_Jd_begin 18 = .ok (.aload_n 0, 1) := by decide +kernel
theorem d_Jd_begin_19 : decode b_Jd_begin 19 = .ok (.iconst 0, 1) := by decide +kernel
theorem d_Jd_begin_20 : decode b_Jd_begin 20 = .ok (.putfield 60, 3) := by decide +kernel
theorem d_Jd_begin_23 : decode b_Jd_begin 23 = .ok (.aload_n 0, 1) := by decide +kernel
theorem d_Jd_begin_24 : decode b_Jd_begin 24 = .ok (.iconst 0, 1) := by decide +kernel
theorem d_Jd_begin_25 : decode b_Jd_begin 25 = .ok (.putfield 63, 3) := by decide +kernel
theorem d_Jd_begin_28 : decode b_Jd_begin 28 = .ok (.return_, 1) := by decide +kernel
theorem d_Jd_enter_0 : decode b_Jd_enter 0 = .ok (.aload_n 0, 1) := by decide +kernel
theorem d_Jd_enter_1 : decode b_Jd_enter 1 = .ok (.dup, 1) := by decide +kernel
theorem d_Jd_enter_2 : decode b_Jd_enter 2 = .ok (.getfield 60, 3) := by decide +kernel
theorem d_Jd_enter_5 : decode b_Jd_enter 5 = .ok (.iconst 1, 1) := by decide +kernel
theorem d_Jd_enter_6 : decode b_Jd_enter 6 = .ok (.iadd, 1) := by decide +kernel
theorem d_Jd_enter_7 : decode b_Jd_enter 7 = .ok (.putfield 60, 3) := by decide +kernel
theorem d_Jd_enter_10 : decode b_Jd_enter 10 = .ok (.iload_n 1, 1) := by decide +kernel
theorem d_Jd_enter_11 : decode b_Jd_enter 11 = .ok (.iconst 1, 1) := by decide +kernel
theorem d_Jd_enter_12 : decode b_Jd_enter 12 = .ok (.if_icmp .lt 19, 3) := by decide +kernel
theorem d_Jd_enter_15 : decode b_Jd_enter 15 = .ok (.iload_n 1, 1) := by decide +kernel
theorem d_Jd_enter_16 : decode b_Jd_enter 16 = .ok (.bipush 100, 2) := by decide +kernel
theorem d_Jd_enter_18 : decode b_Jd_enter 18 = .ok (.if_icmp .gt 13, 3) := by decide +kernel
theorem d_Jd_enter_21 : decode b_Jd_enter 21 = .ok (.aload_n 0, 1) := by decide +kernel
theorem d_Jd_enter_22 : decode b_Jd_enter 22 = .ok (.getfield 60, 3) := by decide +kernel
theorem d_Jd_enter_25 : decode b_Jd_enter 25 = .ok (.sipush 20000, 3) := by decide +kernel
theorem d_Jd_enter_28 : decode b_Jd_enter 28 = .ok (.if_icmp .le 10, 3) := by decide +kernel
theorem d_Jd_enter_31 : decode b_Jd_enter 31 = .ok (.aload_n 0, 1) := by decide +kernel
theorem d_Jd_enter_32 : decode b_Jd_enter 32 = .ok (.iconst 1, 1) := by decide +kernel
theorem d_Jd_enter_33 : decode b_Jd_enter 33 = .ok (.putfield 56, 3) := by decide +kernel
theorem d_Jd_enter_36 : decode b_Jd_enter 36 = .ok (.iconst 0, 1) := by decide +kernel
theorem d_Jd_enter_37 : decode b_Jd_enter 37 = .ok (.ireturn, 1) := by decide +kernel
theorem d_Jd_enter_38 : decode b_Jd_enter 38 = .ok (.aload_n 0, 1) := by decide +kernel
theorem d_Jd_enter_39 : decode b_Jd_enter 39 = .ok (.aload_n 0, 1) := by decide +kernel
theorem d_Jd_enter_40 : decode b_Jd_enter 40 = .ok (.getfield 63, 3) := by decide +kernel
theorem d_Jd_enter_43 : decode b_Jd_enter 43 = .ok (.iload_n 1, 1) := by decide +kernel
theorem d_Jd_enter_44 : decode b_Jd_enter 44 = .ok (.invokestatic 81, 3) := by decide +kernel
theorem d_Jd_enter_47 : decode b_Jd_enter 47 = .ok (.putfield 63, 3) := by decide +kernel
theorem d_Jd_enter_50 : decode b_Jd_enter 50 = .ok (.aload_n 0, 1) := by decide +kernel
theorem d_Jd_enter_51 : decode b_Jd_enter 51 = .ok (.getfield 9, 3) := by decide +kernel
theorem d_Jd_enter_54 : decode b_Jd_enter 54 = .ok (.iload_n 1, 1) := by decide +kernel
theorem d_Jd_enter_55 : decode b_Jd_enter 55 = .ok (.lconst 0, 1) := by decide +kernel
theorem d_Jd_enter_56 : decode b_Jd_enter 56 = .ok (.lastore, 1) := by decide +kernel
theorem d_Jd_enter_57 : decode b_Jd_enter 57 = .ok (.iconst 1, 1) := by decide +kernel
theorem d_Jd_enter_58 : decode b_Jd_enter 58 = .ok (.ireturn, 1) := by decide +kernel
theorem d_Pr_add_0 : decode b_Pr_add 0 = .ok (.aload_n 0, 1) := by decide +kernel
theorem d_Pr_add_1 : decode b_Pr_add 1 = .ok (.getfield 18, 3) := by decide +kernel
theorem d_Pr_add_4 : decode b_Pr_add 4 = .ok (.sipush 300, 3) := by decide +kernel
theorem d_Pr_add_7 : decode b_Pr_add 7 = .ok (.if_icmp .lt 4, 3) := by decide +kernel
theorem d_Pr_add_10 : decode b_Pr_add 10 = .ok (.return_, 1) := by decide +kernel
theorem d_Pr_add_11 : decode b_Pr_add 11 = .ok (.iconst 0, 1) := by decide +kernel
theorem d_Pr_add_12 : decode b_Pr_add 12 = .ok (.istore_n 3, 1) := by decide +kernel
theorem d_Pr_add_13 : decode b_Pr_add 13 = .ok (.iload_n 3, 1) := by decide +kernel
theorem d_Pr_add_14 : decode b_Pr_add 14 = .ok (.aload_n 0, 1) := by decide +kernel
theorem d_Pr_add_15 : decode b_Pr_add 15 = .ok (.getfield 18, 3) := by decide +kernel
theorem d_Pr_add_18 : decode b_Pr_add 18 = .ok (.if_icmp .ge 30, 3) := by decide +kernel
theorem d_Pr_add_21 : decode b_Pr_add 21 = .ok (.aload_n 0, 1) := by decide +kernel
theorem d_Pr_add_22 : decode b_Pr_add 22 = .ok (.getfield 9, 3) := by decide +kernel
theorem d_Pr_add_25 : decode b_Pr_add 25 = .ok (.iload_n 3, 1) := by decide +kernel
theorem d_Pr_add_26 : decode b_Pr_add 26 = .ok (.iaload, 1) := by decide +kernel
theorem d_Pr_add_27 : decode b_Pr_add 27 = .ok (.iload_n 1, 1) := by decide +kernel
theorem d_Pr_add_28 : decode b_Pr_add 28 = .ok (.if_icmp .ne 14, 3) := by decide +kernel
theorem d_Pr_add_31 : decode b_Pr_add 31 = .ok (.aload_n 0, 1) := by decide +kernel
theorem d_Pr_add_32 : decode b_Pr_add 32 = .ok (.getfield 15, 3) := by decide +kernel
theorem d_Pr_add_35 : decode b_Pr_add 35 = .ok (.iload_n 3, 1) := by decide +kernel
theorem d_Pr_add_36 : decode b_Pr_add 36 = .ok (.iaload, 1) := by decide +kernel
theorem d_Pr_add_37 : decode b_Pr_add 37 = .ok (.iload_n 2, 1) := by decide +kernel
theorem d_Pr_add_38 : decode b_Pr_add 38 = .ok (.if_icmp .ne 4, 3) := by decide +kernel
theorem d_Pr_add_41 : decode b_Pr_add 41 = .ok (.return_, 1) := by decide +kernel
theorem d_Pr_add_42 : decode b_Pr_add 42 = .ok (.iinc 3 1, 3) := by decide +kernel
theorem d_Pr_add_45 : decode b_Pr_add 45 = .ok (.goto (-32), 3) := by decide +kernel
theorem d_Pr_add_48 : decode b_Pr_add 48 = .ok (.aload_n 0, 1) := by decide +kernel
theorem d_Pr_add_49 : decode b_Pr_add 49 = .ok (.getfield 9, 3) := by decide +kernel
theorem d_Pr_add_52 : decode b_Pr_add 52 = .ok (.aload_n 0, 1) := by decide +kernel
theorem d_Pr_add_53 : decode b_Pr_add 53 = .ok (.getfield 18, 3) := by decide +kernel
theorem d_Pr_add_56 : decode b_Pr_add 56 = .ok (.iload_n 1, 1) := by decide +kernel
theorem d_Pr_add_57 : decode b_Pr_add 57 = .ok (.iastore, 1) := by decide +kernel
theorem d_Pr_add_58 : decode b_Pr_add 58 = .ok (.aload_n 0, 1) := by decide +kernel
theorem d_Pr_add_59 : decode b_Pr_add 59 = .ok (.getfield 15, 3) := by decide +kernel
theorem d_Pr_add_62 : decode b_Pr_add 62 = .ok (.aload_n 0, 1) := by decide +kernel
theorem d_Pr_add_63 : decode b_Pr_add 63 = .ok (.getfield 18, 3) := by decide +kernel
theorem d_Pr_add_66 : decode b_Pr_add 66 = .ok (.iload_n 2, 1) := by decide +kernel
theorem d_Pr_add_67 : decode b_Pr_add 67 = .ok (.iastore, 1) := by decide +kernel
theorem d_Pr_add_68 : decode b_Pr_add 68 = .ok (.aload_n 0, 1) := by decide +kernel
theorem d_Pr_add_69 : decode b_Pr_add 69 = .ok (.dup, 1) := by decide +kernel
theorem d_Pr_add_70 : decode b_Pr_add 70 = .ok (.getfield 18, 3) := by decide +kernel
theorem d_Pr_add_73 : decode b_Pr_add 73 = .ok (.iconst 1, 1) := by decide +kernel
theorem d_Pr_add_74 : decode b_Pr_add 74 = .ok (.iadd, 1) := by decide +kernel
theorem d_Pr_add_75 : decode b_Pr_add 75 = .ok (.putfield 18, 3) := by decide +kernel
theorem d_Pr_add_78 : decode b_Pr_add 78 = .ok (.return_, 1) := by decide +kernel
theorem d_Jd_tell_0 : decode b_Jd_tell 0 = .ok (.aload_n 0, 1) := by decide +kernel
theorem d_Jd_tell_1 : decode b_Jd_tell 1 = .ok (.getfield 52, 3) := by decide +kernel
theorem d_Jd_tell_4 : decode b_Jd_tell 4 = .ok (.ifCond .ne 12, 3) := by decide +kernel
theorem d_Jd_tell_7 : decode b_Jd_tell 7 = .ok (.aload_n 0, 1) := by decide +kernel
theorem d_Jd_tell_8 : decode b_Jd_tell 8 = .ok (.getfield 44, 3) := by decide +kernel
theorem d_Jd_tell_11 : decode b_Jd_tell 11 = .ok (.iload_n 1, 1) := by decide +kernel
theorem d_Jd_tell_12 : decode b_Jd_tell 12 = .ok (.iload_n 2, 1) := by decide +kernel
theorem d_Jd_tell_13 : decode b_Jd_tell 13 = .ok (.invokevirtual 77, 3) := by decide +kernel
theorem d_Jd_tell_16 : decode b_Jd_tell 16 = .ok (.return_, 1) := by decide +kernel
theorem d_Pr_size_0 : decode b_Pr_size 0 = .ok (.aload_n 0, 1) := by decide +kernel
theorem d_Pr_size_1 : decode b_Pr_size 1 = .ok (.getfield 18, 3) := by decide +kernel
theorem d_Pr_size_4 : decode b_Pr_size 4 = .ok (.ireturn, 1) := by decide +kernel
theorem d_Pg_push_0 : decode b_Pg_push 0 = .ok (.iload_n 1, 1) := by decide +kernel
theorem d_Pg_push_1 : decode b_Pg_push 1 = .ok (.ifCond .lt 57, 3) := by decide +kernel
theorem d_Pg_push_4 : decode b_Pg_push 4 = .ok (.iload_n 1, 1) := by decide +kernel
theorem d_Pg_push_5 : decode b_Pg_push 5 = .ok (.sipush 1300, 3) := by decide +kernel
theorem d_Pg_push_8 : decode b_Pg_push 8 = .ok (.if_icmp .ge 50, 3) := by decide +kernel
theorem d_Pg_push_11 : decode b_Pg_push 11 = .ok (.aload_n 0, 1) := by decide +kernel
theorem d_Pg_push_12 : decode b_Pg_push 12 = .ok (.getfield 21, 3) := by decide +kernel
theorem d_Pg_push_15 : decode b_Pg_push 15 = .ok (.iload_n 1, 1) := by decide +kernel
theorem d_Pg_push_16 : decode b_Pg_push 16 = .ok (.iaload, 1) := by decide +kernel
theorem d_Pg_push_17 : decode b_Pg_push 17 = .ok (.iload_n 2, 1) := by decide +kernel
theorem d_Pg_push_18 : decode b_Pg_push 18 = .ok (.if_icmp .eq 40, 3) := by decide +kernel
theorem d_Pg_push_21 : decode b_Pg_push 21 = .ok (.aload_n 0, 1) := by decide +kernel
theorem d_Pg_push_22 : decode b_Pg_push 22 = .ok (.getfield 73, 3) := by decide +kernel
theorem d_Pg_push_25 : decode b_Pg_push 25 = .ok (.sipush 1300, 3) := by decide +kernel
theorem d_Pg_push_28 : decode b_Pg_push 28 = .ok (.if_icmp .ge 30, 3) := by decide +kernel
theorem d_Pg_push_31 : decode b_Pg_push 31 = .ok (.aload_n 0, 1) := by decide +kernel
theorem d_Pg_push_32 : decode b_Pg_push 32 = .ok (.getfield 21, 3) := by decide +kernel
theorem d_Pg_push_35 : decode b_Pg_push 35 = .ok (.iload_n 1, 1) := by decide +kernel
theorem d_Pg_push_36 : decode b_Pg_push 36 = .ok (.iload_n 2, 1) := by decide +kernel
theorem d_Pg_push_37 : decode b_Pg_push 37 = .ok (.iastore, 1) := by decide +kernel
theorem d_Pg_push_38 : decode b_Pg_push 38 = .ok (.aload_n 0, 1) := by decide +kernel
theorem d_Pg_push_39 : decode b_Pg_push 39 = .ok (.getfield 24, 3) := by decide +kernel
theorem d_Pg_push_42 : decode b_Pg_push 42 = .ok (.aload_n 0, 1) := by decide +kernel
theorem d_Pg_push_43 : decode b_Pg_push 43 = .ok (.getfield 73, 3) := by decide +kernel
theorem d_Pg_push_46 : decode b_Pg_push 46 = .ok (.iload_n 1, 1) := by decide +kernel
theorem d_Pg_push_47 : decode b_Pg_push 47 = .ok (.iastore, 1) := by decide +kernel
theorem d_Pg_push_48 : decode b_Pg_push 48 = .ok (.aload_n 0, 1) := by decide +kernel
theorem d_Pg_push_49 : decode b_Pg_push 49 = .ok (.dup, 1) := by decide +kernel
theorem d_Pg_push_50 : decode b_Pg_push 50 = .ok (.getfield 73, 3) := by decide +kernel
theorem d_Pg_push_53 : decode b_Pg_push 53 = .ok (.iconst 1, 1) := by decide +kernel
theorem d_Pg_push_54 : decode b_Pg_push 54 = .ok (.iadd, 1) := by decide +kernel
theorem d_Pg_push_55 : decode b_Pg_push 55 = .ok (.putfield 73, 3) := by decide +kernel
theorem d_Pg_push_58 : decode b_Pg_push 58 = .ok (.return_, 1) := by decide +kernel
theorem d_Pg_follow_0 : decode b_Pg_follow 0 = .ok (.iload_n 1, 1) := by decide +kernel
theorem d_Pg_follow_1 : decode b_Pg_follow 1 = .ok (.iconst 1, 1) := by decide +kernel
theorem d_Pg_follow_2 : decode b_Pg_follow 2 = .ok (.iadd, 1) := by decide +kernel
theorem d_Pg_follow_3 : decode b_Pg_follow 3 = .ok (.istore_n 3, 1) := by decide +kernel
theorem d_Pg_follow_4 : decode b_Pg_follow 4 = .ok (.iconst 0, 1) := by decide +kernel
theorem d_Pg_follow_5 : decode b_Pg_follow 5 = .ok (.istore 4, 2) := by decide +kernel
theorem d_Pg_follow_7 : decode b_Pg_follow 7 = .ok (.iload 4, 2) := by decide +kernel
theorem d_Pg_follow_9 : decode b_Pg_follow 9 = .ok (.sipush 1300, 3) := by decide +kernel
theorem d_Pg_follow_12 : decode b_Pg_follow 12 = .ok (.if_icmp .ge 199, 3) := by decide +kernel
theorem d_Pg_follow_15 : decode b_Pg_follow 15 = .ok (.aload_n 0, 1) := by decide +kernel
theorem d_Pg_follow_16 : decode b_Pg_follow 16 = .ok (.getfield 73, 3) := by decide +kernel
theorem d_Pg_follow_19 : decode b_Pg_follow 19 = .ok (.ifCond .le 192, 3) := by decide +kernel
theorem d_Pg_follow_22 : decode b_Pg_follow 22 = .ok (.aload_n 0, 1) := by decide +kernel
theorem d_Pg_follow_23 : decode b_Pg_follow 23 = .ok (.dup, 1) := by decide +kernel
theorem d_Pg_follow_24 : decode b_Pg_follow 24 = .ok (.getfield 73, 3) := by decide +kernel
theorem d_Pg_follow_27 : decode b_Pg_follow 27 = .ok (.iconst 1, 1) := by decide +kernel
theorem d_Pg_follow_28 : decode b_Pg_follow 28 = .ok (.isub, 1) := by decide +kernel
theorem d_Pg_follow_29 : decode b_Pg_follow 29 = .ok (.putfield 73, 3) := by decide +kernel
theorem d_Pg_follow_32 : decode b_Pg_follow 32 = .ok (.aload_n 0, 1) := by decide +kernel
theorem d_Pg_follow_33 : decode b_Pg_follow 33 = .ok (.getfield 24, 3) := by decide +kernel
theorem d_Pg_follow_36 : decode b_Pg_follow 36 = .ok (.aload_n 0, 1) := by decide +kernel
theorem d_Pg_follow_37 : decode b_Pg_follow 37 = .ok (.getfield 73, 3) := by decide +kernel
theorem d_Pg_follow_40 : decode b_Pg_follow 40 = .ok (.iaload, 1) := by decide +kernel
theorem d_Pg_follow_41 : decode b_Pg_follow 41 = .ok (.istore 5, 2) := by decide +kernel
theorem d_Pg_follow_43 : decode b_Pg_follow 43 = .ok (.aload_n 0, 1) := by decide +kernel
theorem d_Pg_follow_44 : decode b_Pg_follow 44 = .ok (.getfield 9, 3) := by decide +kernel
theorem d_Pg_follow_47 : decode b_Pg_follow 47 = .ok (.iload 5, 2) := by decide +kernel
theorem d_Pg_follow_49 : decode b_Pg_follow 49 = .ok (.iaload, 1) := by decide +kernel
theorem d_Pg_follow_50 : decode b_Pg_follow 50 = .ok (.tableswitch 122 4 8 #[81, 101, 54, 36, 34], 34) := by decide +kernel
theorem d_Pg_follow_84 : decode b_Pg_follow 84 = .ok (.iconst 1, 1) := by decide +kernel
theorem d_Pg_follow_85 : decode b_Pg_follow 85 = .ok (.ireturn, 1) := by decide +kernel
theorem d_Pg_follow_86 : decode b_Pg_follow 86 = .ok (.aload_n 0, 1) := by decide +kernel
theorem d_Pg_follow_87 : decode b_Pg_follow 87 = .ok (.iload 5, 2) := by decide +kernel
theorem d_Pg_follow_89 : decode b_Pg_follow 89 = .ok (.aload_n 0, 1) := by decide +kernel
theorem d_Pg_follow_90 : decode b_Pg_follow 90 = .ok (.getfield 15, 3) := by decide +kernel
theorem d_Pg_follow_93 : decode b_Pg_follow 93 = .ok (.iload 5, 2) := by decide +kernel
theorem d_Pg_follow_95 : decode b_Pg_follow 95 = .ok (.iaload, 1) := by decide +kernel
theorem d_Pg_follow_96 : decode b_Pg_follow 96 = .ok (.iadd, 1) := by decide +kernel
theorem d_Pg_follow_97 : decode b_Pg_follow 97 = .ok (.iload_n 3, 1) := by decide +kernel
theorem d_Pg_follow_98 : decode b_Pg_follow 98 = .ok (.invokevirtual 76, 3) := by decide +kernel
theorem d_Pg_follow_101 : decode b_Pg_follow 101 = .ok (.goto 104, 3) := by decide +kernel
theorem d_Pg_follow_104 : decode b_Pg_follow 104 = .ok (.aload_n 0, 1) := by decide +kernel
theorem d_Pg_follow_105 : decode b_Pg_follow 105 = .ok (.iload 5, 2) := by decide +kernel
theorem d_Pg_follow_107 : decode b_Pg_follow 107 = .ok (.iconst 1, 1) := by decide +kernel
theorem d_Pg_follow_108 : decode b_Pg_follow 108 = .ok (.iadd, 1) := by decide +kernel
theorem d_Pg_follow_109 : decode b_Pg_follow 109 = .ok (.iload_n 3, 1) := by decide +kernel
theorem d_Pg_follow_110 : decode b_Pg_follow 110 = .ok (.invokevirtual 76, 3) := by decide +kernel
theorem d_Pg_follow_113 : decode b_Pg_follow 113 = .ok (.aload_n 0, 1) := by decide +kernel
theorem d_Pg_follow_114 : decode b_Pg_follow 114 = .ok (.iload 5, 2) := by decide +kernel
theorem d_Pg_follow_116 : decode b_Pg_follow 116 = .ok (.aload_n 0, 1) := by decide +kernel
theorem d_Pg_follow_117 : decode b_Pg_follow 117 = .ok (.getfield 15, 3) := by decide +kernel
theorem d_Pg_follow_120 : decode b_Pg_follow 120 = .ok (.iload 5, 2) := by decide +kernel
theorem d_Pg_follow_122 : decode b_Pg_follow 122 = .ok (.iaload, 1) := by decide +kernel
theorem d_Pg_follow_123 : decode b_Pg_follow 123 = .ok (.iadd, 1) := by decide +kernel
theorem d_Pg_follow_124 : decode b_Pg_follow 124 = .ok (.iload_n 3, 1) := by decide +kernel
theorem d_Pg_follow_125 : decode b_Pg_follow 125 = .ok (.invokevirtual 76, 3) := by decide +kernel
theorem d_Pg_follow_128 : decode b_Pg_follow 128 = .ok (.goto 77, 3) := by decide +kernel
theorem d_Pg_follow_131 : decode b_Pg_follow 131 = .ok (.aload_n 0, 1) := by decide +kernel
theorem d_Pg_follow_132 : decode b_Pg_follow 132 = .ok (.iload_n 1, 1) := by decide +kernel
theorem d_Pg_follow_133 : decode b_Pg_follow 133 = .ok (.ifCond .ne 10, 3) := by decide +kernel
theorem d_Pg_follow_136 : decode b_Pg_follow 136 = .ok (.iload 5, 2) := by decide +kernel
theorem d_Pg_follow_138 : decode b_Pg_follow 138 = .ok (.iconst 1, 1) := by decide +kernel
theorem d_Pg_follow_139 : decode b_Pg_follow 139 = .ok (.iadd, 1) := by decide +kernel
theorem d_Pg_follow_140 : decode b_Pg_follow 140 = .ok (.goto 4, 3) := by decide +kernel
theorem d_Pg_follow_143 : decode b_Pg_follow 143 = .ok (.iconst (-1), 1) := by decide +kernel
theorem d_Pg_follow_144 : decode b_Pg_follow 144 = .ok (.iload_n 3, 1) := by decide +kernel
theorem d_Pg_follow_145 : decode b_Pg_follow 145 = .ok (.invokevirtual 76, 3) := by decide +kernel
theorem d_Pg_follow_148 : decode b_Pg_follow 148 = .ok (.goto 57, 3) := by decide +kernel
theorem d_Pg_follow_151 : decode b_Pg_follow 151 = .ok (.aload_n 0, 1) := by decide +kernel
theorem d_Pg_follow_152 : decode b_Pg_follow 152 = .ok (.iload_n 1, 1) := by decide +kernel
theorem d_Pg_follow_153 : decode b_Pg_follow 153 = .ok (.iload_n 2, 1) := by decide +kernel
theorem d_Pg_follow_154 : decode b_Pg_follow 154 = .ok (.if_icmp .ne 10, 3) := by decide +kernel
theorem d_Pg_follow_157 : decode b_Pg_follow 157 = .ok (.iload 5, 2) := by decide +kernel
theorem d_Pg_follow_159 : decode b_Pg_follow 159 = .ok (.iconst 1, 1) := by decide +kernel
theorem d_Pg_follow_160 : decode b_Pg_follow 160 = .ok (.iadd, 1) := by decide +kernel
theorem d_Pg_follow_161 : decode b_Pg_follow 161 = .ok (.goto 4, 3) := by decide +kernel
theorem d_Pg_follow_164 : decode b_Pg_follow 164 = .ok (.iconst (-1), 1) := by decide +kernel
theorem d_Pg_follow_165 : decode b_Pg_follow 165 = .ok (.iload_n 3, 1) := by decide +kernel
theorem d_Pg_follow_166 : decode b_Pg_follow 166 = .ok (.invokevirtual 76, 3) := by decide +kernel
theorem d_Pg_follow_169 : decode b_Pg_follow 169 = .ok (.goto 36, 3) := by decide +kernel
theorem d_Pg_follow_172 : decode b_Pg_follow 172 = .ok (.aload_n 0, 1) := by decide +kernel
theorem d_Pg_follow_173 : decode b_Pg_follow 173 = .ok (.getfield 70, 3) := by decide +kernel
theorem d_Pg_follow_176 : decode b_Pg_follow 176 = .ok (.aload_n 0, 1) := by decide +kernel
theorem d_Pg_follow_177 : decode b_Pg_follow 177 = .ok (.getfield 27, 3) := by decide +kernel
theorem d_Pg_follow_180 : decode b_Pg_follow 180 = .ok (.arraylength, 1) := by decide +kernel
theorem d_Pg_follow_181 : decode b_Pg_follow 181 = .ok (.if_icmp .ge 24, 3) := by decide +kernel
theorem d_Pg_follow_184 : decode b_Pg_follow 184 = .ok (.aload_n 0, 1) := by decide +kernel
theorem d_Pg_follow_185 : decode b_Pg_follow 185 = .ok (.getfield 27, 3) := by decide +kernel
theorem d_Pg_follow_188 : decode b_Pg_follow 188 = .ok (.aload_n 0, 1) := by decide +kernel
theorem d_Pg_follow_189 : decode b_Pg_follow 189 = .ok (.getfield 70, 3) := by decide +kernel
theorem d_Pg_follow_192 : decode b_Pg_follow 192 = .ok (.iload 5, 2) := by decide +kernel
theorem d_Pg_follow_194 : decode b_Pg_follow 194 = .ok (.iastore, 1) := by decide +kernel
theorem d_Pg_follow_195 : decode b_Pg_follow 195 = .ok (.aload_n 0, 1) := by decide +kernel
theorem d_Pg_follow_196 : decode b_Pg_follow 196 = .ok (.dup, 1) := by decide +kernel
theorem d_Pg_follow_197 : decode b_Pg_follow 197 = .ok (.getfield 70, 3) := by decide +kernel
theorem d_Pg_follow_200 : decode b_Pg_follow 200 = .ok (.iconst 1, 1) := by decide +kernel
theorem d_Pg_follow_201 : decode b_Pg_follow 201 = .ok (.iadd, 1) := by decide +kernel
theorem d_Pg_follow_202 : decode b_Pg_follow 202 = .ok (.putfield 70, 3) := by decide +kernel
theorem d_Pg_follow_205 : decode b_Pg_follow 205 = .ok (.iinc 4 1, 3) := by decide +kernel
theorem d_Pg_follow_208 : decode b_Pg_follow 208 = .ok (.goto (-201), 3) := by decide +kernel
theorem d_Pg_follow_211 : decode b_Pg_follow 211 = .ok (.iconst 0, 1) := by decide +kernel
theorem d_Pg_follow_212 : decode b_Pg_follow 212 = .ok (.ireturn, 1) := by decide +kernel
theorem d_Pg_inClasses_0 : decode b_Pg_inClasses 0 = .ok (.iload_n 1, 1) := by decide +kernel
theorem d_Pg_inClasses_1 : decode b_Pg_inClasses 1 = .ok (.bipush 48, 2) := by decide +kernel
theorem d_Pg_inClasses_3 : decode b_Pg_inClasses 3 = .ok (.if_icmp .lt 13, 3) := by decide +kernel
theorem d_Pg_inClasses_6 : decode b_Pg_inClasses 6 = .ok (.iload_n 1, 1) := by decide +kernel
theorem d_Pg_inClasses_7 : decode b_Pg_inClasses 7 = .ok (.bipush 57, 2) := by decide +kernel
theorem d_Pg_inClasses_9 : decode b_Pg_inClasses 9 = .ok (.if_icmp .gt 7, 3) := by decide +kernel
theorem d_Pg_inClasses_12 : decode b_Pg_inClasses 12 = .ok (.iconst 1, 1) := by decide +kernel
theorem d_Pg_inClasses_13 : decode b_Pg_inClasses 13 = .ok (.goto 4, 3) := by decide +kernel
theorem d_Pg_inClasses_16 : decode b_Pg_inClasses 16 = .ok (.iconst 0, 1) := by decide +kernel
theorem d_Pg_inClasses_17 : decode b_Pg_inClasses 17 = .ok (.istore_n 2, 1) := by decide +kernel
theorem d_Pg_inClasses_18 : decode b_Pg_inClasses 18 = .ok (.iload_n 2, 1) := by decide +kernel
theorem d_Pg_inClasses_19 : decode b_Pg_inClasses 19 = .ok (.ifCond .ne 33, 3) := by decide +kernel
theorem d_Pg_inClasses_22 : decode b_Pg_inClasses 22 = .ok (.iload_n 1, 1) := by decide +kernel
theorem d_Pg_inClasses_23 : decode b_Pg_inClasses 23 = .ok (.bipush 97, 2) := by decide +kernel
theorem d_Pg_inClasses_25 : decode b_Pg_inClasses 25 = .ok (.if_icmp .lt 9, 3) := by decide +kernel
theorem d_Pg_inClasses_28 : decode b_Pg_inClasses 28 = .ok (.iload_n 1, 1) := by decide +kernel
theorem d_Pg_inClasses_29 : decode b_Pg_inClasses 29 = .ok (.bipush 122, 2) := by decide +kernel
theorem d_Pg_inClasses_31 : decode b_Pg_inClasses 31 = .ok (.if_icmp .le 21, 3) := by decide +kernel
theorem d_Pg_inClasses_34 : decode b_Pg_inClasses 34 = .ok (.iload_n 1, 1) := by decide +kernel
theorem d_Pg_inClasses_35 : decode b_Pg_inClasses 35 = .ok (.bipush 65, 2) := by decide +kernel
theorem d_Pg_inClasses_37 : decode b_Pg_inClasses 37 = .ok (.if_icmp .lt 9, 3) := by decide +kernel
theorem d_Pg_inClasses_40 : decode b_Pg_inClasses 40 = .ok (.iload_n 1, 1) := by decide +kernel
theorem d_Pg_inClasses_41 : decode b_Pg_inClasses 41 = .ok (.bipush 90, 2) := by decide +kernel
theorem d_Pg_inClasses_43 : decode b_Pg_inClasses 43 = .ok (.if_icmp .le 9, 3) := by decide +kernel
theorem d_Pg_inClasses_46 : decode b_Pg_inClasses 46 = .ok (.iload_n 1, 1) := by decide +kernel
theorem d_Pg_inClasses_47 : decode b_Pg_inClasses 47 = .ok (.bipush 95, 2) := by decide +kernel
theorem d_Pg_inClasses_49 : decode b_Pg_inClasses 49 = .ok (.if_icmp .ne 7, 3) := by decide +kernel
theorem d_Pg_inClasses_52 : decode b_Pg_inClasses 52 = .ok (.iconst 1, 1) := by decide +kernel
theorem d_Pg_inClasses_53 : decode b_Pg_inClasses 53 = .ok (.goto 4, 3) := by decide +kernel
theorem d_Pg_inClasses_56 : decode b_Pg_inClasses 56 = .ok (.iconst 0, 1) := by decide +kernel
theorem d_Pg_inClasses_57 : decode b_Pg_inClasses 57 = .ok (.istore_n 3, 1) := by decide +kernel
theorem d_Pg_inClasses_58 : decode b_Pg_inClasses 58 = .ok (.iload_n 1, 1) := by decide +kernel
theorem d_Pg_inClasses_59 : decode b_Pg_inClasses 59 = .ok (.bipush 9, 2) := by decide +kernel
theorem d_Pg_inClasses_61 : decode b_Pg_inClasses 61 = .ok (.if_icmp .lt 9, 3) := by decide +kernel
theorem d_Pg_inClasses_64 : decode b_Pg_inClasses 64 = .ok (.iload_n 1, 1) := by decide +kernel
theorem d_Pg_inClasses_65 : decode b_Pg_inClasses 65 = .ok (.bipush 13, 2) := by decide +kernel
theorem d_Pg_inClasses_67 : decode b_Pg_inClasses 67 = .ok (.if_icmp .le 78, 3) := by decide +kernel
theorem d_Pg_inClasses_70 : decode b_Pg_inClasses 70 = .ok (.iload_n 1, 1) := by decide +kernel
theorem d_Pg_inClasses_71 : decode b_Pg_inClasses 71 = .ok (.bipush 32, 2) := by decide +kernel
theorem d_Pg_inClasses_73 : decode b_Pg_inClasses 73 = .ok (.if_icmp .eq 72, 3) := by decide +kernel
theorem d_Pg_inClasses_76 : decode b_Pg_inClasses 76 = .ok (.iload_n 1, 1) := by decide +kernel
theorem d_Pg_inClasses_77 : decode b_Pg_inClasses 77 = .ok (.sipush 160, 3) := by decide +kernel
theorem d_Pg_inClasses_80 : decode b_Pg_inClasses 80 = .ok (.if_icmp .eq 65, 3) := by decide +kernel
theorem d_Pg_inClasses_83 : decode b_Pg_inClasses 83 = .ok (.iload_n 1, 1) := by decide +kernel
theorem d_Pg_inClasses_84 : decode b_Pg_inClasses 84 = .ok (.sipush 5760, 3) := by decide +kernel
theorem d_Pg_inClasses_87 : decode b_Pg_inClasses 87 = .ok (.if_icmp .eq 58, 3) := by decide +kernel
theorem d_Pg_inClasses_90 : decode b_Pg_inClasses 90 = .ok (.iload_n 1, 1) := by decide +kernel
theorem d_Pg_inClasses_91 : decode b_Pg_inClasses 91 = .ok (.sipush 8192, 3) := by decide +kernel
theorem d_Pg_inClasses_94 : decode b_Pg_inClasses 94 = .ok (.if_icmp .lt 10, 3) := by decide +kernel
theorem d_Pg_inClasses_97 : decode b_Pg_inClasses 97 = .ok (.iload_n 1, 1) := by decide +kernel
theorem d_Pg_inClasses_98 : decode b_Pg_inClasses 98 = .ok (.sipush 8202, 3) := by decide +kernel
theorem d_Pg_inClasses_101 : decode b_Pg_inClasses 101 = .ok (.if_icmp .le 44, 3) := by decide +kernel
theorem d_Pg_inClasses_104 : decode b_Pg_inClasses 104 = .ok (.iload_n 1, 1) := by decide +kernel
theorem d_Pg_inClasses_105 : decode b_Pg_inClasses 105 = .ok (.sipush 8232, 3) := by decide +kernel
theorem d_Pg_inClasses_108 : decode b_Pg_inClasses 108 = .ok (.if_icmp .eq 37, 3) := by decide +kernel
theorem d_Pg_inClasses_111 : decode b_Pg_inClasses 111 = .ok (.iload_n 1, 1) := by decide +kernel
theorem d_Pg_inClasses_112 : decode b_Pg_inClasses 112 = .ok (.sipush 8233, 3) := by decide +kernel
theorem d_Pg_inClasses_115 : decode b_Pg_inClasses 115 = .ok (.if_icmp .eq 30, 3) := by decide +kernel
theorem d_Pg_inClasses_118 : decode b_Pg_inClasses 118 = .ok (.iload_n 1, 1) := by decide +kernel
theorem d_Pg_inClasses_119 : decode b_Pg_inClasses 119 = .ok (.sipush 8239, 3) := by decide +kernel
theorem d_Pg_inClasses_122 : decode b_Pg_inClasses 122 = .ok (.if_icmp .eq 23, 3) := by decide +kernel
theorem d_Pg_inClasses_125 : decode b_Pg_inClasses 125 = .ok (.iload_n 1, 1) := by decide +kernel
theorem d_Pg_inClasses_126 : decode b_Pg_inClasses 126 = .ok (.sipush 8287, 3) := by decide +kernel
theorem d_Pg_inClasses_129 : decode b_Pg_inClasses 129 = .ok (.if_icmp .eq 16, 3) := by decide +kernel
theorem d_Pg_inClasses_132 : decode b_Pg_inClasses 132 = .ok (.iload_n 1, 1) := by decide +kernel
theorem d_Pg_inClasses_133 : decode b_Pg_inClasses 133 = .ok (.sipush 12288, 3) := by decide +kernel
theorem d_Pg_inClasses_136 : decode b_Pg_inClasses 136 = .ok (.if_icmp .eq 9, 3) := by decide +kernel
theorem d_Pg_inClasses_139 : decode b_Pg_inClasses 139 = .ok (.iload_n 1, 1) := by decide +kernel
theorem d_Pg_inClasses_140 : decode b_Pg_inClasses 140 = .ok (.ldc 95, 2) := by decide +kernel
theorem d_Pg_inClasses_142 : decode b_Pg_inClasses 142 = .ok (.if_icmp .ne 7, 3) := by decide +kernel
theorem d_Pg_inClasses_145 : decode b_Pg_inClasses 145 = .ok (.iconst 1, 1) := by decide +kernel
theorem d_Pg_inClasses_146 : decode b_Pg_inClasses 146 = .ok (.goto 4, 3) := by decide +kernel
theorem d_Pg_inClasses_149 : decode b_Pg_inClasses 149 = .ok (.iconst 0, 1) := by decide +kernel
theorem d_Pg_inClasses_150 : decode b_Pg_inClasses 150 = .ok (.istore 4, 2) := by decide +kernel
theorem d_Pg_inClasses_152 : decode b_Pg_inClasses 152 = .ok (.iload_n 0, 1) := by decide +kernel
theorem d_Pg_inClasses_153 : decode b_Pg_inClasses 153 = .ok (.iload_n 2, 1) := by decide +kernel
theorem d_Pg_inClasses_154 : decode b_Pg_inClasses 154 = .ok (.ifCond .eq 7, 3) := by decide +kernel
theorem d_Pg_inClasses_157 : decode b_Pg_inClasses 157 = .ok (.iconst 1, 1) := by decide +kernel
theorem d_Pg_inClasses_158 : decode b_Pg_inClasses 158 = .ok (.goto 4, 3) := by decide +kernel
theorem d_Pg_inClasses_161 : decode b_Pg_inClasses 161 = .ok (.iconst 2, 1) := by decide +kernel
theorem d_Pg_inClasses_162 : decode b_Pg_inClasses 162 = .ok (.iand, 1) := by decide +kernel
theorem d_Pg_inClasses_163 : decode b_Pg_inClasses 163 = .ok (.ifCond .ne 35, 3) := by decide +kernel
theorem d_Pg_inClasses_166 : decode b_Pg_inClasses 166 = .ok (.iload_n 0, 1) := by decide +kernel
theorem d_Pg_inClasses_167 : decode b_Pg_inClasses 167 = .ok (.iload_n 3, 1) := by decide +kernel
theorem d_Pg_inClasses_168 : decode b_Pg_inClasses 168 = .ok (.ifCond .eq 7, 3) := by decide +kernel
theorem d_Pg_inClasses_171 : decode b_Pg_inClasses 171 = .ok (.iconst 4, 1) := by decide +kernel
theorem d_Pg_inClasses_172 : decode b_Pg_inClasses 172 = .ok (.goto 5, 3) := by decide +kernel
theorem d_Pg_inClasses_175 : decode b_Pg_inClasses 175 = .ok (.bipush 8, 2) := by decide +kernel
theorem d_Pg_inClasses_177 : decode b_Pg_inClasses 177 = .ok (.iand, 1) := by decide +kernel
theorem d_Pg_inClasses_178 : decode b_Pg_inClasses 178 = .ok (.ifCond .ne 20, 3) := by decide +kernel
theorem d_Pg_inClasses_181 : decode b_Pg_inClasses 181 = .ok (.iload_n 0, 1) := by decide +kernel
theorem d_Pg_inClasses_182 : decode b_Pg_inClasses 182 = .ok (.iload 4, 2) := by decide +kernel
theorem d_Pg_inClasses_184 : decode b_Pg_inClasses 184 = .ok (.ifCond .eq 8, 3) := by decide +kernel
theorem d_Pg_inClasses_187 : decode b_Pg_inClasses 187 = .ok (.bipush 16, 2) := by decide +kernel
theorem d_Pg_inClasses_189 : decode b_Pg_inClasses 189 = .ok (.goto 5, 3) := by decide +kernel
theorem d_Pg_inClasses_192 : decode b_Pg_inClasses 192 = .ok (.bipush 32, 2) := by decide +kernel
theorem d_Pg_inClasses_194 : decode b_Pg_inClasses 194 = .ok (.iand, 1) := by decide +kernel
theorem d_Pg_inClasses_195 : decode b_Pg_inClasses 195 = .ok (.ifCond .eq 7, 3) := by decide +kernel
theorem d_Pg_inClasses_198 : decode b_Pg_inClasses 198 = .ok (.iconst 1, 1) := by decide +kernel
theorem d_Pg_inClasses_199 : decode b_Pg_inClasses 199 = .ok (.goto 4, 3) := by decide +kernel
theorem d_Pg_inClasses_202 : decode b_Pg_inClasses 202 = .ok (.iconst 0, 1) := by decide +kernel
theorem d_Pg_inClasses_203 : decode b_Pg_inClasses 203 = .ok (.ireturn, 1) := by decide +kernel
theorem d_Pg_inRanges_0 : decode b_Pg_inRanges 0 = .ok (.iload_n 1, 1) := by decide +kernel
theorem d_Pg_inRanges_1 : decode b_Pg_inRanges 1 = .ok (.ifCond .lt 21, 3) := by decide +kernel
theorem d_Pg_inRanges_4 : decode b_Pg_inRanges 4 = .ok (.iload_n 1, 1) := by decide +kernel
theorem d_Pg_inRanges_5 : decode b_Pg_inRanges 5 = .ok (.aload_n 0, 1) := by decide +kernel
theorem d_Pg_inRanges_6 : decode b_Pg_inRanges 6 = .ok (.getfield 18, 3) := by decide +kernel
theorem d_Pg_inRanges_9 : decode b_Pg_inRanges 9 = .ok (.arraylength, 1) := by decide +kernel
theorem d_Pg_inRanges_10 : decode b_Pg_inRanges 10 = .ok (.if_icmp .ge 12, 3) := by decide +kernel
theorem d_Pg_inRanges_13 : decode b_Pg_inRanges 13 = .ok (.aload_n 0, 1) := by decide +kernel
theorem d_Pg_inRanges_14 : decode b_Pg_inRanges 14 = .ok (.getfield 18, 3) := by decide +kernel
theorem d_Pg_inRanges_17 : decode b_Pg_inRanges 17 = .ok (.iload_n 1, 1) := by decide +kernel
theorem d_Pg_inRanges_18 : decode b_Pg_inRanges 18 = .ok (.iaload, 1) := by decide +kernel
theorem d_Pg_inRanges_19 : decode b_Pg_inRanges 19 = .ok (.goto 4, 3) := by decide +kernel
theorem d_Pg_inRanges_22 : decode b_Pg_inRanges 22 = .ok (.iconst 0, 1) := by decide +kernel
theorem d_Pg_inRanges_23 : decode b_Pg_inRanges 23 = .ok (.istore_n 3, 1) := by decide +kernel
theorem d_Pg_inRanges_24 : decode b_Pg_inRanges 24 = .ok (.iconst 0, 1) := by decide +kernel
theorem d_Pg_inRanges_25 : decode b_Pg_inRanges 25 = .ok (.istore 4, 2) := by decide +kernel
theorem d_Pg_inRanges_27 : decode b_Pg_inRanges 27 = .ok (.iload 4, 2) := by decide +kernel
theorem d_Pg_inRanges_29 : decode b_Pg_inRanges 29 = .ok (.iload_n 3, 1) := by decide +kernel
theorem d_Pg_inRanges_30 : decode b_Pg_inRanges 30 = .ok (.if_icmp .ge 57, 3) := by decide +kernel
theorem d_Pg_inRanges_33 : decode b_Pg_inRanges 33 = .ok (.iload_n 1, 1) := by decide +kernel
theorem d_Pg_inRanges_34 : decode b_Pg_inRanges 34 = .ok (.iconst 2, 1) := by decide +kernel
theorem d_Pg_inRanges_35 : decode b_Pg_inRanges 35 = .ok (.iadd, 1) := by decide +kernel
theorem d_Pg_inRanges_36 : decode b_Pg_inRanges 36 = .ok (.iconst 2, 1) := by decide +kernel
theorem d_Pg_inRanges_37 : decode b_Pg_inRanges 37 = .ok (.iload 4, 2) := by decide +kernel
theorem d_Pg_inRanges_39 : decode b_Pg_inRanges 39 = .ok (.imul, 1) := by decide +kernel
theorem d_Pg_inRanges_40 : decode b_Pg_inRanges 40 = .ok (.iadd, 1) := by decide +kernel
theorem d_Pg_inRanges_41 : decode b_Pg_inRanges 41 = .ok (.istore 5, 2) := by decide +kernel
theorem d_Pg_inRanges_43 : decode b_Pg_inRanges 43 = .ok (.iload 5, 2) := by decide +kernel
theorem d_Pg_inRanges_45 : decode b_Pg_inRanges 45 = .ok (.iconst 1, 1) := by decide +kernel
theorem d_Pg_inRanges_46 : decode b_Pg_inRanges 46 = .ok (.iadd, 1) := by decide +kernel
theorem d_Pg_inRanges_47 : decode b_Pg_inRanges 47 = .ok (.aload_n 0, 1) := by decide +kernel
theorem d_Pg_inRanges_48 : decode b_Pg_inRanges 48 = .ok (.getfield 18, 3) := by decide +kernel
theorem d_Pg_inRanges_51 : decode b_Pg_inRanges 51 = .ok (.arraylength, 1) := by decide +kernel
theorem d_Pg_inRanges_52 : decode b_Pg_inRanges 52 = .ok (.if_icmp .ge 29, 3) := by decide +kernel
theorem d_Pg_inRanges_55 : decode b_Pg_inRanges 55 = .ok (.iload_n 2, 1) := by decide +kernel
theorem d_Pg_inRanges_56 : decode b_Pg_inRanges 56 = .ok (.aload_n 0, 1) := by decide +kernel
theorem d_Pg_inRanges_57 : decode b_Pg_inRanges 57 = .ok (.getfield 18, 3) := by decide +kernel
theorem d_Pg_inRanges_60 : decode b_Pg_inRanges 60 = .ok (.iload 5, 2) := by decide +kernel
theorem d_Pg_inRanges_62 : decode b_Pg_inRanges 62 = .ok (.iaload, 1) := by decide +kernel
theorem d_Pg_inRanges_63 : decode b_Pg_inRanges 63 = .ok (.if_icmp .lt 18, 3) := by decide +kernel
theorem d_Pg_inRanges_66 : decode b_Pg_inRanges 66 = .ok (.iload_n 2, 1) := by decide +kernel
theorem d_Pg_inRanges_67 : decode b_Pg_inRanges 67 = .ok (.aload_n 0, 1) := by decide +kernel
theorem d_Pg_inRanges_68 : decode b_Pg_inRanges 68 = .ok (.getfield 18, 3) := by decide +kernel
theorem d_Pg_inRanges_71 : decode b_Pg_inRanges 71 = .ok (.iload 5, 2) := by decide +kernel
theorem d_Pg_inRanges_73 : decode b_Pg_inRanges 73 = .ok (.iconst 1, 1) := by decide +kernel
theorem d_Pg_inRanges_74 : decode b_Pg_inRanges 74 = .ok (.iadd, 1) := by decide +kernel
theorem d_Pg_inRanges_75 : decode b_Pg_inRanges 75 = .ok (.iaload, 1) := by decide +kernel
theorem d_Pg_inRanges_76 : decode b_Pg_inRanges 76 = .ok (.if_icmp .gt 5, 3) := by decide +kernel
theorem d_Pg_inRanges_79 : decode b_Pg_inRanges 79 = .ok (.iconst 1, 1) := by decide +kernel
theorem d_Pg_inRanges_80 : decode b_Pg_inRanges 80 = .ok (.ireturn, 1) := by decide +kernel
theorem d_Pg_inRanges_81 : decode b_Pg_inRanges 81 = .ok (.iinc 4 1, 3) := by decide +kernel
theorem d_Pg_inRanges_84 : decode b_Pg_inRanges 84 = .ok (.goto (-57), 3) := by decide +kernel
theorem d_Pg_inRanges_87 : decode b_Pg_inRanges 87 = .ok (.iconst 0, 1) := by decide +kernel
theorem d_Pg_inRanges_88 : decode b_Pg_inRanges 88 = .ok (.ireturn, 1) := by decide +kernel
theorem d_Pg_accepts_0 : decode b_Pg_accepts 0 = .ok (.iload_n 1, 1) := by decide +kernel
theorem d_Pg_accepts_1 : decode b_Pg_accepts 1 = .ok (.ifCond .lt 10, 3) := by decide +kernel
theorem d_Pg_accepts_4 : decode b_Pg_accepts 4 = .ok (.iload_n 1, 1) := by decide +kernel
theorem d_Pg_accepts_5 : decode b_Pg_accepts 5 = .ok (.sipush 1300, 3) := by decide +kernel
theorem d_Pg_accepts_8 : decode b_Pg_accepts 8 = .ok (.if_icmp .lt 5, 3) := by decide +kernel
theorem d_Pg_accepts_11 : decode b_Pg_accepts 11 = .ok (.iconst 0, 1) := by decide +kernel
theorem d_Pg_accepts_12 : decode b_Pg_accepts 12 = .ok (.ireturn, 1) := by decide +kernel
theorem d_Pg_accepts_13 : decode b_Pg_accepts 13 = .ok (.aload_n 0, 1) := by decide +kernel
theorem d_Pg_accepts_14 : decode b_Pg_accepts 14 = .ok (.getfield 15, 3) := by decide +kernel
theorem d_Pg_accepts_17 : decode b_Pg_accepts 17 = .ok (.iload_n 1, 1) := by decide +kernel
theorem d_Pg_accepts_18 : decode b_Pg_accepts 18 = .ok (.iaload, 1) := by decide +kernel
theorem d_Pg_accepts_19 : decode b_Pg_accepts 19 = .ok (.istore_n 3, 1) := by decide +kernel
theorem d_Pg_accepts_20 : decode b_Pg_accepts 20 = .ok (.aload_n 0, 1) := by decide +kernel
theorem d_Pg_accepts_21 : decode b_Pg_accepts 21 = .ok (.getfield 9, 3) := by decide +kernel
theorem d_Pg_accepts_24 : decode b_Pg_accepts 24 = .ok (.iload_n 1, 1) := by decide +kernel
theorem d_Pg_accepts_25 : decode b_Pg_accepts 25 = .ok (.iaload, 1) := by decide +kernel
theorem d_Pg_accepts_26 : decode b_Pg_accepts 26 = .ok (.tableswitch 75 0 2 #[26, 37, 69], 26) := by decide +kernel
theorem d_Pg_accepts_52 : decode b_Pg_accepts 52 = .ok (.iload_n 3, 1) := by decide +kernel
theorem d_Pg_accepts_53 : decode b_Pg_accepts 53 = .ok (.iload_n 2, 1) := by decide +kernel
theorem d_Pg_accepts_54 : decode b_Pg_accepts 54 = .ok (.if_icmp .ne 7, 3) := by decide +kernel
theorem d_Pg_accepts_57 : decode b_Pg_accepts 57 = .ok (.iconst 1, 1) := by decide +kernel
theorem d_Pg_accepts_58 : decode b_Pg_accepts 58 = .ok (.goto 4, 3) := by decide +kernel
theorem d_Pg_accepts_61 : decode b_Pg_accepts 61 = .ok (.iconst 0, 1) := by decide +kernel
theorem d_Pg_accepts_62 : decode b_Pg_accepts 62 = .ok (.ireturn, 1) := by decide +kernel
theorem d_Pg_accepts_63 : decode b_Pg_accepts 63 = .ok (.iload_n 2, 1) := by decide +kernel
theorem d_Pg_accepts_64 : decode b_Pg_accepts 64 = .ok (.bipush 10, 2) := by decide +kernel
theorem d_Pg_accepts_66 : decode b_Pg_accepts 66 = .ok (.if_icmp .eq 27, 3) := by decide +kernel
theorem d_Pg_accepts_69 : decode b_Pg_accepts 69 = .ok (.iload_n 2, 1) := by decide +kernel
theorem d_Pg_accepts_70 : decode b_Pg_accepts 70 = .ok (.bipush 13, 2) := by decide +kernel
theorem d_Pg_accepts_72 : decode b_Pg_accepts 72 = .ok (.if_icmp .eq 21, 3) := by decide +kernel
theorem d_Pg_accepts_75 : decode b_Pg_accepts 75 = .ok (.iload_n 2, 1) := by decide +kernel
theorem d_Pg_accepts_76 : decode b_Pg_accepts 76 = .ok (.sipush 8232, 3) := by decide +kernel
theorem d_Pg_accepts_79 : decode b_Pg_accepts 79 = .ok (.if_icmp .eq 14, 3) := by decide +kernel
theorem d_Pg_accepts_82 : decode b_Pg_accepts 82 = .ok (.iload_n 2, 1) := by decide +kernel
theorem d_Pg_accepts_83 : decode b_Pg_accepts 83 = .ok (.sipush 8233, 3) := by decide +kernel
theorem d_Pg_accepts_86 : decode b_Pg_accepts 86 = .ok (.if_icmp .eq 7, 3) := by decide +kernel
theorem d_Pg_accepts_89 : decode b_Pg_accepts 89 = .ok (.iconst 1, 1) := by decide +kernel
theorem d_Pg_accepts_90 : decode b_Pg_accepts 90 = .ok (.goto 4, 3) := by decide +kernel
theorem d_Pg_accepts_93 : decode b_Pg_accepts 93 = .ok (.iconst 0, 1) := by decide +kernel
theorem d_Pg_accepts_94 : decode b_Pg_accepts 94 = .ok (.ireturn, 1) := by decide +kernel
theorem d_Pg_accepts_95 : decode b_Pg_accepts 95 = .ok (.iload_n 3, 1) := by decide +kernel
theorem d_Pg_accepts_96 : decode b_Pg_accepts 96 = .ok (.iload_n 2, 1) := by decide +kernel
theorem d_Pg_accepts_97 : decode b_Pg_accepts 97 = .ok (.invokestatic 89, 3) := by decide +kernel
theorem d_Pg_accepts_100 : decode b_Pg_accepts 100 = .ok (.ireturn, 1) := by decide +kernel
theorem d_Pg_accepts_101 : decode b_Pg_accepts 101 = .ok (.iload_n 3, 1) := by decide +kernel
theorem d_Pg_accepts_102 : decode b_Pg_accepts 102 = .ok (.ifCond .lt 25, 3) := by decide +kernel
theorem d_Pg_accepts_105 : decode b_Pg_accepts 105 = .ok (.iload_n 3, 1) := by decide +kernel
theorem d_Pg_accepts_106 : decode b_Pg_accepts 106 = .ok (.iconst 1, 1) := by decide +kernel
theorem d_Pg_accepts_107 : decode b_Pg_accepts 107 = .ok (.iadd, 1) := by decide +kernel
theorem d_Pg_accepts_108 : decode b_Pg_accepts 108 = .ok (.aload_n 0, 1) := by decide +kernel
theorem d_Pg_accepts_109 : decode b_Pg_accepts 109 = .ok (.getfield 18, 3) := by decide +kernel
theorem d_Pg_accepts_112 : decode b_Pg_accepts 112 = .ok (.arraylength, 1) := by decide +kernel
theorem d_Pg_accepts_113 : decode b_Pg_accepts 113 = .ok (.if_icmp .ge 14, 3) := by decide +kernel
theorem d_Pg_accepts_116 : decode b_Pg_accepts 116 = .ok (.aload_n 0, 1) := by decide +kernel
theorem d_Pg_accepts_117 : decode b_Pg_accepts 117 = .ok (.getfield 18, 3) := by decide +kernel
theorem d_Pg_accepts_120 : decode b_Pg_accepts 120 = .ok (.iload_n 3, 1) := by decide +kernel
theorem d_Pg_accepts_121 : decode b_Pg_accepts 121 = .ok (.iconst 1, 1) := by decide +kernel
theorem d_Pg_accepts_122 : decode b_Pg_accepts 122 = .ok (.iadd, 1) := by decide +kernel
theorem d_Pg_accepts_123 : decode b_Pg_accepts 123 = .ok (.iaload, 1) := by decide +kernel
theorem d_Pg_accepts_124 : decode b_Pg_accepts 124 = .ok (.goto 4, 3) := by decide +kernel
theorem d_Pg_accepts_127 : decode b_Pg_accepts 127 = .ok (.iconst 0, 1) := by decide +kernel
theorem d_Pg_accepts_128 : decode b_Pg_accepts 128 = .ok (.istore 4, 2) := by decide +kernel
theorem d_Pg_accepts_130 : decode b_Pg_accepts 130 = .ok (.aload_n 0, 1) := by decide +kernel
theorem d_Pg_accepts_131 : decode b_Pg_accepts 131 = .ok (.iload_n 3, 1) := by decide +kernel
theorem d_Pg_accepts_132 : decode b_Pg_accepts 132 = .ok (.iload_n 2, 1) := by decide +kernel
theorem d_Pg_accepts_133 : decode b_Pg_accepts 133 = .ok (.invokevirtual 92, 3) := by decide +kernel
theorem d_Pg_accepts_136 : decode b_Pg_accepts 136 = .ok (.ifCond .ne 12, 3) := by decide +kernel
theorem d_Pg_accepts_139 : decode b_Pg_accepts 139 = .ok (.iload 4, 2) := by decide +kernel
theorem d_Pg_accepts_141 : decode b_Pg_accepts 141 = .ok (.iload_n 2, 1) := by decide +kernel
theorem d_Pg_accepts_142 : decode b_Pg_accepts 142 = .ok (.invokestatic 89, 3) := by decide +kernel
theorem d_Pg_accepts_145 : decode b_Pg_accepts 145 = .ok (.ifCond .eq 7, 3) := by decide +kernel
theorem d_Pg_accepts_148 : decode b_Pg_accepts 148 = .ok (.iconst 1, 1) := by decide +kernel
theorem d_Pg_accepts_149 : decode b_Pg_accepts 149 = .ok (.goto 4, 3) := by decide +kernel
theorem d_Pg_accepts_152 : decode b_Pg_accepts 152 = .ok (.iconst 0, 1) := by decide +kernel
theorem d_Pg_accepts_153 : decode b_Pg_accepts 153 = .ok (.iload 4, 2) := by decide +kernel
theorem d_Pg_accepts_155 : decode b_Pg_accepts 155 = .ok (.bipush 64, 2) := by decide +kernel
theorem d_Pg_accepts_157 : decode b_Pg_accepts 157 = .ok (.iand, 1) := by decide +kernel
theorem d_Pg_accepts_158 : decode b_Pg_accepts 158 = .ok (.ifCond .eq 7, 3) := by decide +kernel
theorem d_Pg_accepts_161 : decode b_Pg_accepts 161 = .ok (.iconst 1, 1) := by decide +kernel
theorem d_Pg_accepts_162 : decode b_Pg_accepts 162 = .ok (.goto 4, 3) := by decide +kernel
theorem d_Pg_accepts_165 : decode b_Pg_accepts 165 = .ok (.iconst 0, 1) := by decide +kernel
theorem d_Pg_accepts_166 : decode b_Pg_accepts 166 = .ok (.if_icmp .eq 7, 3) := by decide +kernel
theorem d_Pg_accepts_169 : decode b_Pg_accepts 169 = .ok (.iconst 1, 1) := by decide +kernel
theorem d_Pg_accepts_170 : decode b_Pg_accepts 170 = .ok (.goto 4, 3) := by decide +kernel
theorem d_Pg_accepts_173 : decode b_Pg_accepts 173 = .ok (.iconst 0, 1) := by decide +kernel
theorem d_Pg_accepts_174 : decode b_Pg_accepts 174 = .ok (.ireturn, 1) := by decide +kernel
theorem d_Tx_member_0 : decode b_Tx_member 0 = .ok (.aload_n 0, 1) := by decide +kernel
theorem d_Tx_member_1 : decode b_Tx_member 1 = .ok (.iload_n 1, 1) := by decide +kernel
theorem d_Tx_member_2 : decode b_Tx_member 2 = .ok (.invokevirtual 53, 3) := by decide +kernel
theorem d_Tx_member_5 : decode b_Tx_member 5 = .ok (.istore 4, 2) := by decide +kernel
theorem d_Tx_member_7 : decode b_Tx_member 7 = .ok (.iconst 0, 1) := by decide +kernel
theorem d_Tx_member_8 : decode b_Tx_member 8 = .ok (.istore 5, 2) := by decide +kernel
theorem d_Tx_member_10 : decode b_Tx_member 10 = .ok (.iload 5, 2) := by decide +kernel
theorem d_Tx_member_12 : decode b_Tx_member 12 = .ok (.aload_n 0, 1) := by decide +kernel
theorem d_Tx_member_13 : decode b_Tx_member 13 = .ok (.iload_n 1, 1) := by decide +kernel
theorem d_Tx_member_14 : decode b_Tx_member 14 = .ok (.invokevirtual 60, 3) := by decide +kernel
theorem d_Tx_member_17 : decode b_Tx_member 17 = .ok (.if_icmp .ge 33, 3) := by decide +kernel
theorem d_Tx_member_20 : decode b_Tx_member 20 = .ok (.aload_n 0, 1) := by decide +kernel
theorem d_Tx_member_21 : decode b_Tx_member 21 = .ok (.iload 4, 2) := by decide +kernel
theorem d_Tx_member_23 : decode b_Tx_member 23 = .ok (.iconst 1, 1) := by decide +kernel
theorem d_Tx_member_24 : decode b_Tx_member 24 = .ok (.isub, 1) := by decide +kernel
theorem d_Tx_member_25 : decode b_Tx_member 25 = .ok (.aload_n 2, 1) := by decide +kernel
theorem d_Tx_member_26 : decode b_Tx_member 26 = .ok (.iload_n 3, 1) := by decide +kernel
theorem d_Tx_member_27 : decode b_Tx_member 27 = .ok (.invokestatic 63, 3) := by decide +kernel
theorem d_Tx_member_30 : decode b_Tx_member 30 = .ok (.ifCond .eq 6, 3) := by decide +kernel
theorem d_Tx_member_33 : decode b_Tx_member 33 = .ok (.iload 4, 2) := by decide +kernel
theorem d_Tx_member_35 : decode b_Tx_member 35 = .ok (.ireturn, 1) := by decide +kernel
theorem d_Tx_member_36 : decode b_Tx_member 36 = .ok (.aload_n 0, 1) := by decide +kernel
theorem d_Tx_member_37 : decode b_Tx_member 37 = .ok (.iload 4, 2) := by decide +kernel
theorem d_Tx_member_39 : decode b_Tx_member 39 = .ok (.invokevirtual 57, 3) := by decide +kernel
theorem d_Tx_member_42 : decode b_Tx_member 42 = .ok (.istore 4, 2) := by decide +kernel
theorem d_Tx_member_44 : decode b_Tx_member 44 = .ok (.iinc 5 1, 3) := by decide +kernel
theorem d_Tx_member_47 : decode b_Tx_member 47 = .ok (.goto (-37), 3) := by decide +kernel
theorem d_Tx_member_50 : decode b_Tx_member 50 = .ok (.iconst (-1), 1) := by decide +kernel
theorem d_Tx_member_51 : decode b_Tx_member 51 = .ok (.ireturn, 1) := by decide +kernel
theorem d_Jd_named_0 : decode b_Jd_named 0 = .ok (.lconst 0, 1) := by decide +kernel
theorem d_Jd_named_1 : decode b_Jd_named 1 = .ok (.lstore_n 3, 1) := by decide +kernel
theorem d_Jd_named_2 : decode b_Jd_named 2 = .ok (.aload_n 0, 1) := by decide +kernel
theorem d_Jd_named_3 : decode b_Jd_named 3 = .ok (.getfield 23, 3) := by decide +kernel
theorem d_Jd_named_6 : decode b_Jd_named 6 = .ok (.iload_n 2, 1) := by decide +kernel
theorem d_Jd_named_7 : decode b_Jd_named 7 = .ok (.invokevirtual 100, 3) := by decide +kernel
theorem d_Jd_named_10 : decode b_Jd_named 10 = .ok (.istore 5, 2) := by decide +kernel
theorem d_Jd_named_12 : decode b_Jd_named 12 = .ok (.iconst 0, 1) := by decide +kernel
theorem d_Jd_named_13 : decode b_Jd_named 13 = .ok (.istore 6, 2) := by decide +kernel
theorem d_Jd_named_15 : decode b_Jd_named 15 = .ok (.iload 6, 2) := by decide +kernel
theorem d_Jd_named_17 : decode b_Jd_named 17 = .ok (.aload_n 0, 1) := by decide +kernel
theorem d_Jd_named_18 : decode b_Jd_named 18 = .ok (.getfield 23, 3) := by decide +kernel
theorem d_Jd_named_21 : decode b_Jd_named 21 = .ok (.iload_n 2, 1) := by decide +kernel
theorem d_Jd_named_22 : decode b_Jd_named 22 = .ok (.invokevirtual 103, 3) := by decide +kernel
theorem d_Jd_named_25 : decode b_Jd_named 25 = .ok (.if_icmp .ge 47, 3) := by decide +kernel
theorem d_Jd_named_28 : decode b_Jd_named 28 = .ok (.aload_n 0, 1) := by decide +kernel
theorem d_Jd_named_29 : decode b_Jd_named 29 = .ok (.getfield 15, 3) := by decide +kernel
theorem d_Jd_named_32 : decode b_Jd_named 32 = .ok (.iload_n 1, 1) := by decide +kernel
theorem d_Jd_named_33 : decode b_Jd_named 33 = .ok (.aload_n 0, 1) := by decide +kernel
theorem d_Jd_named_34 : decode b_Jd_named 34 = .ok (.getfield 23, 3) := by decide +kernel
theorem d_Jd_named_37 : decode b_Jd_named 37 = .ok (.iload 5, 2) := by decide +kernel
theorem d_Jd_named_39 : decode b_Jd_named 39 = .ok (.iconst 1, 1) := by decide +kernel
theorem d_Jd_named_40 : decode b_Jd_named 40 = .ok (.isub, 1) := by decide +kernel
theorem d_Jd_named_41 : decode b_Jd_named 41 = .ok (.invokevirtual 195, 3) := by decide +kernel
theorem d_Jd_named_44 : decode b_Jd_named 44 = .ok (.iconst (-1), 1) := by decide +kernel
theorem d_Jd_named_45 : decode b_Jd_named 45 = .ok (.if_icmp .eq 10, 3) := by decide +kernel
theorem d_Jd_named_48 : decode b_Jd_named 48 = .ok (.lload_n 3, 1) := by decide +kernel
theorem d_Jd_named_49 : decode b_Jd_named 49 = .ok (.lconst 1, 1) := by decide +kernel
theorem d_Jd_named_50 : decode b_Jd_named 50 = .ok (.iload 6, 2) := by decide +kernel
theorem d_Jd_named_52 : decode b_Jd_named 52 = .ok (.lshl, 1) := by decide +kernel
theorem d_Jd_named_53 : decode b_Jd_named 53 = .ok (.lor, 1) := by decide +kernel
theorem d_Jd_named_54 : decode b_Jd_named 54 = .ok (.lstore_n 3, 1) := by decide +kernel
theorem d_Jd_named_55 : decode b_Jd_named 55 = .ok (.aload_n 0, 1) := by decide +kernel
theorem d_Jd_named_56 : decode b_Jd_named 56 = .ok (.getfield 23, 3) := by decide +kernel
theorem d_Jd_named_59 : decode b_Jd_named 59 = .ok (.iload 5, 2) := by decide +kernel
theorem d_Jd_named_61 : decode b_Jd_named 61 = .ok (.invokevirtual 111, 3) := by decide +kernel
theorem d_Jd_named_64 : decode b_Jd_named 64 = .ok (.istore 5, 2) := by decide +kernel
theorem d_Jd_named_66 : decode b_Jd_named 66 = .ok (.iinc 6 1, 3) := by decide +kernel
theorem d_Jd_named_69 : decode b_Jd_named 69 = .ok (.goto (-54), 3) := by decide +kernel
theorem d_Jd_named_72 : decode b_Jd_named 72 = .ok (.lload_n 3, 1) := by decide +kernel
theorem d_Jd_named_73 : decode b_Jd_named 73 = .ok (.lreturn, 1) := by decide +kernel
theorem d_Ld_restReaches_0 : decode b_Ld_restReaches 0 = .ok (.bipush 6, 2) := by decide +kernel
theorem d_Ld_restReaches_2 : decode b_Ld_restReaches 2 = .ok (.istore_n 1, 1) := by decide +kernel
theorem d_Ld_restReaches_3 : decode b_Ld_restReaches 3 = .ok (.iload_n 1, 1) := by decide +kernel
theorem d_Ld_restReaches_4 : decode b_Ld_restReaches 4 = .ok (.ifCond .lt 47, 3) := by decide +kernel
theorem d_Ld_restReaches_7 : decode b_Ld_restReaches 7 = .ok (.aload_n 0, 1) := by decide +kernel
theorem d_Ld_restReaches_8 : decode b_Ld_restReaches 8 = .ok (.getfield 13, 3) := by decide +kernel
theorem d_Ld_restReaches_11 : decode b_Ld_restReaches 11 = .ok (.iload_n 1, 1) := by decide +kernel
theorem d_Ld_restReaches_12 : decode b_Ld_restReaches 12 = .ok (.laload, 1) := by decide +kernel
theorem d_Ld_restReaches_13 : decode b_Ld_restReaches 13 = .ok (.aload_n 0, 1) := by decide +kernel
theorem d_Ld_restReaches_14 : decode b_Ld_restReaches 14 = .ok (.getfield 9, 3) := by decide +kernel
theorem d_Ld_restReaches_17 : decode b_Ld_restReaches 17 = .ok (.iload_n 1, 1) := by decide +kernel
theorem d_Ld_restReaches_18 : decode b_Ld_restReaches 18 = .ok (.laload, 1) := by decide +kernel
theorem d_Ld_restReaches_19 : decode b_Ld_restReaches 19 = .ok (.lcmp, 1) := by decide +kernel
theorem d_Ld_restReaches_20 : decode b_Ld_restReaches 20 = .ok (.ifCond .eq 25, 3) := by decide +kernel
theorem d_Ld_restReaches_23 : decode b_Ld_restReaches 23 = .ok (.aload_n 0, 1) := by decide +kernel
theorem d_Ld_restReaches_24 : decode b_Ld_restReaches 24 = .ok (.getfield 13, 3) := by decide +kernel
theorem d_Ld_restReaches_27 : decode b_Ld_restReaches 27 = .ok (.iload_n 1, 1) := by decide +kernel
theorem d_Ld_restReaches_28 : decode b_Ld_restReaches 28 = .ok (.laload, 1) := by decide +kernel
theorem d_Ld_restReaches_29 : decode b_Ld_restReaches 29 = .ok (.aload_n 0, 1) := by decide +kernel
theorem d_Ld_restReaches_30 : decode b_Ld_restReaches 30 = .ok (.getfield 9, 3) := by decide +kernel
theorem d_Ld_restReaches_33 : decode b_Ld_restReaches 33 = .ok (.iload_n 1, 1) := by decide +kernel
theorem d_Ld_restReaches_34 : decode b_Ld_restReaches 34 = .ok (.laload, 1) := by decide +kernel
theorem d_Ld_restReaches_35 : decode b_Ld_restReaches 35 = .ok (.lcmp, 1) := by decide +kernel
theorem d_Ld_restReaches_36 : decode b_Ld_restReaches 36 = .ok (.ifCond .le 7, 3) := by decide +kernel
theorem d_Ld_restReaches_39 : decode b_Ld_restReaches 39 = .ok (.iconst 1, 1) := by decide +kernel
theorem d_Ld_restReaches_40 : decode b_Ld_restReaches 40 = .ok (.goto 4, 3) := by decide +kernel
theorem d_Ld_restReaches_43 : decode b_Ld_restReaches 43 = .ok (.iconst 0, 1) := by decide +kernel
theorem d_Ld_restReaches_44 : decode b_Ld_restReaches 44 = .ok (.ireturn, 1) := by decide +kernel
theorem d_Ld_restReaches_45 : decode b_Ld_restReaches 45 = .ok (.iinc 1 (-1), 3) := by decide +kernel
theorem d_Ld_restReaches_48 : decode b_Ld_restReaches 48 = .ok (.goto (-45), 3) := by decide +kernel
theorem d_Ld_restReaches_51 : decode b_Ld_restReaches 51 = .ok (.iconst 1, 1) := by decide +kernel
theorem d_Ld_restReaches_52 : decode b_Ld_restReaches 52 = .ok (.ireturn, 1) := by decide +kernel
theorem d_Ld_reduce_0 : decode b_Ld_reduce 0 = .ok (.iconst 0, 1) := by decide +kernel
theorem d_Ld_reduce_1 : decode b_Ld_reduce 1 = .ok (.istore_n 1, 1) := by decide +kernel
theorem d_Ld_reduce_2 : decode b_Ld_reduce 2 = .ok (.iload_n 1, 1) := by decide +kernel
theorem d_Ld_reduce_3 : decode b_Ld_reduce 3 = .ok (.bipush 10, 2) := by decide +kernel
theorem d_Ld_reduce_5 : decode b_Ld_reduce 5 = .ok (.if_icmp .ge 91, 3) := by decide +kernel
theorem d_Ld_reduce_8 : decode b_Ld_reduce 8 = .ok (.aload_n 0, 1) := by decide +kernel
theorem d_Ld_reduce_9 : decode b_Ld_reduce 9 = .ok (.invokevirtual 55, 3) := by decide +kernel
theorem d_Ld_reduce_12 : decode b_Ld_reduce 12 = .ok (.ifCond .eq 84, 3) := by decide +kernel
theorem d_Ld_reduce_15 : decode b_Ld_reduce 15 = .ok (.lconst 0, 1) := by decide +kernel
theorem d_Ld_reduce_16 : decode b_Ld_reduce 16 = .ok (.lstore_n 2, 1) := by decide +kernel
theorem d_Ld_reduce_17 : decode b_Ld_reduce 17 = .ok (.iconst 0, 1) := by decide +kernel
theorem d_Ld_reduce_18 : decode b_Ld_reduce 18 = .ok (.istore 4, 2) := by decide +kernel
theorem d_Ld_reduce_20 : decode b_Ld_reduce 20 = .ok (.iload 4, 2) := by decide +kernel
theorem d_Ld_reduce_22 : decode b_Ld_reduce 22 = .ok (.bipush 7, 2) := by decide +kernel
theorem d_Ld_reduce_24 : decode b_Ld_reduce 24 = .ok (.if_icmp .ge 66, 3) := by decide +kernel
theorem d_Ld_reduce_27 : decode b_Ld_reduce 27 = .ok (.aload_n 0, 1) := by decide +kernel
theorem d_Ld_reduce_28 : decode b_Ld_reduce 28 = .ok (.getfield 13, 3) := by decide +kernel
theorem d_Ld_reduce_31 : decode b_Ld_reduce 31 = .ok (.iload 4, 2) := by decide +kernel
theorem d_Ld_reduce_33 : decode b_Ld_reduce 33 = .ok (.laload, 1) := by decide +kernel
theorem d_Ld_reduce_34 : decode b_Ld_reduce 34 = .ok (.aload_n 0, 1) := by decide +kernel
theorem d_Ld_reduce_35 : decode b_Ld_reduce 35 = .ok (.getfield 9, 3) := by decide +kernel
theorem d_Ld_reduce_38 : decode b_Ld_reduce 38 = .ok (.iload 4, 2) := by decide +kernel
theorem d_Ld_reduce_40 : decode b_Ld_reduce 40 = .ok (.laload, 1) := by decide +kernel
theorem d_Ld_reduce_41 : decode b_Ld_reduce 41 = .ok (.lsub, 1) := by decide +kernel
theorem d_Ld_reduce_42 : decode b_Ld_reduce 42 = .ok (.lload_n 2, 1) := by decide +kernel
theorem d_Ld_reduce_43 : decode b_Ld_reduce 43 = .ok (.lsub, 1) := by decide +kernel
theorem d_Ld_reduce_44 : decode b_Ld_reduce 44 = .ok (.lstore 5, 2) := by decide +kernel
theorem d_Ld_reduce_46 : decode b_Ld_reduce 46 = .ok (.lload 5, 2) := by decide +kernel
theorem d_Ld_reduce_48 : decode b_Ld_reduce 48 = .ok (.lconst 0, 1) := by decide +kernel
theorem d_Ld_reduce_49 : decode b_Ld_reduce 49 = .ok (.lcmp, 1) := by decide +kernel
theorem d_Ld_reduce_50 : decode b_Ld_reduce 50 = .ok (.ifCond .ge 7, 3) := by decide +kernel
theorem d_Ld_reduce_53 : decode b_Ld_reduce 53 = .ok (.lconst 1, 1) := by decide +kernel
theorem d_Ld_reduce_54 : decode b_Ld_reduce 54 = .ok (.goto 4, 3) := by decide +kernel
theorem d_Ld_reduce_57 : decode b_Ld_reduce 57 = .ok (.lconst 0, 1) := by decide +kernel
theorem d_Ld_reduce_58 : decode b_Ld_reduce 58 = .ok (.lstore_n 2, 1) := by decide +kernel
theorem d_Ld_reduce_59 : decode b_Ld_reduce 59 = .ok (.aload_n 0, 1) := by decide +kernel
theorem d_Ld_reduce_60 : decode b_Ld_reduce 60 = .ok (.getfield 13, 3) := by decide +kernel
theorem d_Ld_reduce_63 : decode b_Ld_reduce 63 = .ok (.iload 4, 2) := by decide +kernel
theorem d_Ld_reduce_65 : decode b_Ld_reduce 65 = .ok (.lload 5, 2) := by decide +kernel
theorem d_Ld_reduce_67 : decode b_Ld_reduce 67 = .ok (.lconst 0, 1) := by decide +kernel
theorem d_Ld_reduce_68 : decode b_Ld_reduce 68 = .ok (.lcmp, 1) := by decide +kernel
theorem d_Ld_reduce_69 : decode b_Ld_reduce 69 = .ok (.ifCond .ge 12, 3) := by decide +kernel
theorem d_Ld_reduce_72 : decode b_Ld_reduce 72 = .ok (.lload 5, 2) := by decide +kernel
theorem d_Ld_reduce_74 : decode b_Ld_reduce 74 = .ok (.ldc2_w 53, 3) := by decide +kernel
theorem d_Ld_reduce_77 : decode b_Ld_reduce 77 = .ok (.ladd, 1) := by decide +kernel
theorem d_Ld_reduce_78 : decode b_Ld_reduce 78 = .ok (.goto 5, 3) := by decide +kernel
theorem d_Ld_reduce_81 : decode b_Ld_reduce 81 = .ok (.lload 5, 2) := by decide +kernel
theorem d_Ld_reduce_83 : decode b_Ld_reduce 83 = .ok (.lastore, 1) := by decide +kernel
theorem d_Ld_reduce_84 : decode b_Ld_reduce 84 = .ok (.iinc 4 1, 3) := by decide +kernel
theorem d_Ld_reduce_87 : decode b_Ld_reduce 87 = .ok (.goto (-67), 3) := by decide +kernel
theorem d_Ld_reduce_90 : decode b_Ld_reduce 90 = .ok (.iinc 1 1, 3) := by decide +kernel
theorem d_Ld_reduce_93 : decode b_Ld_reduce 93 = .ok (.goto (-91), 3) := by decide +kernel
theorem d_Ld_reduce_96 : decode b_Ld_reduce 96 = .ok (.return_, 1) := by decide +kernel
