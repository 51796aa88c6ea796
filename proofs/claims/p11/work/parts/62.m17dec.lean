theorem d_Jd_isOneOf_0 : decode b_Jd_isOneOf 0 = .ok (.aload_n 0, 1) := by decide +kernel
theorem d_Jd_isOneOf_1 : decode b_Jd_isOneOf 1 = .ok (.getfield 15, 3) := by decide +kernel
theorem d_Jd_isOneOf_4 : decode b_Jd_isOneOf 4 = .ok (.iload_n 1, 1) := by decide +kernel
theorem d_Jd_isOneOf_5 : decode b_Jd_isOneOf 5 = .ok (.invokevirtual 100, 3) := by decide +kernel
theorem d_Jd_isOneOf_8 : decode b_Jd_isOneOf 8 = .ok (.istore_n 3, 1) := by decide +kernel
theorem d_Jd_isOneOf_9 : decode b_Jd_isOneOf 9 = .ok (.iconst 0, 1) := by decide +kernel
theorem d_Jd_isOneOf_10 : decode b_Jd_isOneOf 10 = .ok (.istore 4, 2) := by decide +kernel
theorem d_Jd_isOneOf_12 : decode b_Jd_isOneOf 12 = .ok (.iload 4, 2) := by decide +kernel
theorem d_Jd_isOneOf_14 : decode b_Jd_isOneOf 14 = .ok (.aload_n 0, 1) := by decide +kernel
theorem d_Jd_isOneOf_15 : decode b_Jd_isOneOf 15 = .ok (.getfield 15, 3) := by decide +kernel
theorem d_Jd_isOneOf_18 : decode b_Jd_isOneOf 18 = .ok (.iload_n 1, 1) := by decide +kernel
theorem d_Jd_isOneOf_19 : decode b_Jd_isOneOf 19 = .ok (.invokevirtual 103, 3) := by decide +kernel
theorem d_Jd_isOneOf_22 : decode b_Jd_isOneOf 22 = .ok (.if_icmp .ge 37, 3) := by decide +kernel
theorem d_Jd_isOneOf_25 : decode b_Jd_isOneOf 25 = .ok (.aload_n 0, 1) := by decide +kernel
theorem d_Jd_isOneOf_26 : decode b_Jd_isOneOf 26 = .ok (.getfield 15, 3) := by decide +kernel
theorem d_Jd_isOneOf_29 : decode b_Jd_isOneOf 29 = .ok (.iload_n 3, 1) := by decide +kernel
theorem d_Jd_isOneOf_30 : decode b_Jd_isOneOf 30 = .ok (.aload_n 0, 1) := by decide +kernel
theorem d_Jd_isOneOf_31 : decode b_Jd_isOneOf 31 = .ok (.getfield 23, 3) := by decide +kernel
theorem d_Jd_isOneOf_34 : decode b_Jd_isOneOf 34 = .ok (.iload_n 2, 1) := by decide +kernel
theorem d_Jd_isOneOf_35 : decode b_Jd_isOneOf 35 = .ok (.iconst 0, 1) := by decide +kernel
theorem d_Jd_isOneOf_36 : decode b_Jd_isOneOf 36 = .ok (.invokestatic 259, 3) := by decide +kernel
theorem d_Jd_isOneOf_39 : decode b_Jd_isOneOf 39 = .ok (.ifCond .eq 5, 3) := by decide +kernel
theorem d_Jd_isOneOf_42 : decode b_Jd_isOneOf 42 = .ok (.iconst 1, 1) := by decide +kernel
theorem d_Jd_isOneOf_43 : decode b_Jd_isOneOf 43 = .ok (.ireturn, 1) := by decide +kernel
theorem d_Jd_isOneOf_44 : decode b_Jd_isOneOf 44 = .ok (.aload_n 0, 1) := by decide +kernel
theorem d_Jd_isOneOf_45 : decode b_Jd_isOneOf 45 = .ok (.getfield 15, 3) := by decide +kernel
theorem d_Jd_isOneOf_48 : decode b_Jd_isOneOf 48 = .ok (.iload_n 3, 1) := by decide +kernel
theorem d_Jd_isOneOf_49 : decode b_Jd_isOneOf 49 = .ok (.invokevirtual 111, 3) := by decide +kernel
theorem d_Jd_isOneOf_52 : decode b_Jd_isOneOf 52 = .ok (.istore_n 3, 1) := by decide +kernel
theorem d_Jd_isOneOf_53 : decode b_Jd_isOneOf 53 = .ok (.iinc 4 1, 3) := by decide +kernel
theorem d_Jd_isOneOf_56 : decode b_Jd_isOneOf 56 = .ok (.goto (-44), 3) := by decide +kernel
theorem d_Jd_isOneOf_59 : decode b_Jd_isOneOf 59 = .ok (.iconst 0, 1) := by decide +kernel
theorem d_Jd_isOneOf_60 : decode b_Jd_isOneOf 60 = .ok (.ireturn, 1) := by decide +kernel
theorem d_JA_fill_1_0 : decode b_JA_fill_1 0 = .ok (.iconst 0, 1) := by decide +kernel
theorem d_JA_fill_1_1 : decode b_JA_fill_1 1 = .ok (.istore_n 3, 1) := by decide +kernel
theorem d_JA_fill_1_2 : decode b_JA_fill_1 2 = .ok (.aload_n 0, 1) := by decide +kernel
theorem d_JA_fill_1_3 : decode b_JA_fill_1 3 = .ok (.arraylength, 1) := by decide +kernel
theorem d_JA_fill_1_4 : decode b_JA_fill_1 4 = .ok (.istore 4, 2) := by decide +kernel
theorem d_JA_fill_1_6 : decode b_JA_fill_1 6 = .ok (.iload_n 3, 1) := by decide +kernel
theorem d_JA_fill_1_7 : decode b_JA_fill_1 7 = .ok (.iload 4, 2) := by decide +kernel
theorem d_JA_fill_1_9 : decode b_JA_fill_1 9 = .ok (.if_icmp .ge 13, 3) := by decide +kernel
theorem d_JA_fill_1_12 : decode b_JA_fill_1 12 = .ok (.aload_n 0, 1) := by decide +kernel
theorem d_JA_fill_1_13 : decode b_JA_fill_1 13 = .ok (.iload_n 3, 1) := by decide +kernel
theorem d_JA_fill_1_14 : decode b_JA_fill_1 14 = .ok (.lload_n 1, 1) := by decide +kernel
theorem d_JA_fill_1_15 : decode b_JA_fill_1 15 = .ok (.lastore, 1) := by decide +kernel
theorem d_JA_fill_1_16 : decode b_JA_fill_1 16 = .ok (.iinc 3 1, 3) := by decide +kernel
theorem d_JA_fill_1_19 : decode b_JA_fill_1 19 = .ok (.goto (-13), 3) := by decide +kernel
theorem d_JA_fill_1_22 : decode b_JA_fill_1 22 = .ok (.return_, 1) := by decide +kernel
theorem d_Ld_append_0 : decode b_Ld_append 0 = .ok (.iload_n 1, 1) := by decide +kernel
theorem d_Ld_append_1 : decode b_Ld_append 1 = .ok (.i2l, 1) := by decide +kernel
theorem d_Ld_append_2 : decode b_Ld_append 2 = .ok (.lstore_n 2, 1) := by decide +kernel
theorem d_Ld_append_3 : decode b_Ld_append 3 = .ok (.iconst 0, 1) := by decide +kernel
theorem d_Ld_append_4 : decode b_Ld_append 4 = .ok (.istore 4, 2) := by decide +kernel
theorem d_Ld_append_6 : decode b_Ld_append 6 = .ok (.iload 4, 2) := by decide +kernel
theorem d_Ld_append_8 : decode b_Ld_append 8 = .ok (.aload_n 0, 1) := by decide +kernel
theorem d_Ld_append_9 : decode b_Ld_append 9 = .ok (.arraylength, 1) := by decide +kernel
theorem d_Ld_append_10 : decode b_Ld_append 10 = .ok (.if_icmp .ge 38, 3) := by decide +kernel
theorem d_Ld_append_13 : decode b_Ld_append 13 = .ok (.aload_n 0, 1) := by decide +kernel
theorem d_Ld_append_14 : decode b_Ld_append 14 = .ok (.iload 4, 2) := by decide +kernel
theorem d_Ld_append_16 : decode b_Ld_append 16 = .ok (.laload, 1) := by decide +kernel
theorem d_Ld_append_17 : decode b_Ld_append 17 = .ok (.ldc2_w 51, 3) := by decide +kernel
theorem d_Ld_append_20 : decode b_Ld_append 20 = .ok (.lmul, 1) := by decide +kernel
theorem d_Ld_append_21 : decode b_Ld_append 21 = .ok (.lload_n 2, 1) := by decide +kernel
theorem d_Ld_append_22 : decode b_Ld_append 22 = .ok (.ladd, 1) := by decide +kernel
theorem d_Ld_append_23 : decode b_Ld_append 23 = .ok (.lstore 5, 2) := by decide +kernel
theorem d_Ld_append_25 : decode b_Ld_append 25 = .ok (.lload 5, 2) := by decide +kernel
theorem d_Ld_append_27 : decode b_Ld_append 27 = .ok (.ldc2_w 53, 3) := by decide +kernel
theorem d_Ld_append_30 : decode b_Ld_append 30 = .ok (.ldiv, 1) := by decide +kernel
theorem d_Ld_append_31 : decode b_Ld_append 31 = .ok (.lstore_n 2, 1) := by decide +kernel
theorem d_Ld_append_32 : decode b_Ld_append 32 = .ok (.aload_n 0, 1) := by decide +kernel
theorem d_Ld_append_33 : decode b_Ld_append 33 = .ok (.iload 4, 2) := by decide +kernel
theorem d_Ld_append_35 : decode b_Ld_append 35 = .ok (.lload 5, 2) := by decide +kernel
theorem d_Ld_append_37 : decode b_Ld_append 37 = .ok (.ldc2_w 53, 3) := by decide +kernel
theorem d_Ld_append_40 : decode b_Ld_append 40 = .ok (.lrem, 1) := by decide +kernel
theorem d_Ld_append_41 : decode b_Ld_append 41 = .ok (.lastore, 1) := by decide +kernel
theorem d_Ld_append_42 : decode b_Ld_append 42 = .ok (.iinc 4 1, 3) := by decide +kernel
theorem d_Ld_append_45 : decode b_Ld_append 45 = .ok (.goto (-39), 3) := by decide +kernel
theorem d_Ld_append_48 : decode b_Ld_append 48 = .ok (.return_, 1) := by decide +kernel
theorem d_Ld_restReaches_0 : decode b_Ld_restReaches 0 = .ok (.bipush 6, 2) := by decide +kernel
theorem d_Ld_restReaches_2 : decode b_Ld_restReaches 2 = .ok (.istore_n 1, 1) := by decide +kernel
theorem d_Ld_restReaches_3 : decode b_Ld_restReaches 3 = .ok (.iload_n 1, 1) := by decide +kernel
theorem d_Ld_restReaches_4 : decode b_Ld_restReaches 4 = .ok (.ifCond .lt 47, 3) := by decide +kernel
theorem d_Ld_restReaches_7 : decode b_Ld_restReaches 7 = .ok (.aload_n 0, 1) := by decide +kernel
theorem d_Ld_restReaches_8 : decode b_Ld_restReaches 8 = .ok (.getfield 13, 3) := by decide +kernel
theorem d_Ld_restReaches_11 : decode b_Ld_restReaches 11 = .ok (.iload_n 1, 1) := by decide +kernel
theorem d_Ld_restReaches_12 : decode b_Ld_restReaches 12 = .ok (.laload, 1) := by decide +kernel
theorem d_Ld_restReaches_13 : decode b_Ld_restReaches 13 = .ok (.aload_n 0, 1) := by decide +kernel
theorem d_Ld_restReaches_14 : decode b_Ld_restReaches 14 = .ok (.getfield 9, 3) := by decide +kernel
theorem d_Ld_restReaches_17 : decode b_Ld_restReaches 17 = .ok (.iload_n 1, 1) := by decide +kernel
theorem d_Ld_restReaches_18 : decode b_Ld_restReaches 18 = .ok (.laload, 1) := by decide +kernel
theorem d_Ld_restReaches_19 : decode b_Ld_restReaches 19 = .ok (.lcmp, 1) := by decide +kernel
theorem d_Ld_restReaches_20 : decode b_Ld_restReaches 20 = .ok (.ifCond .eq 25, 3) := by decide +kernel
theorem d_Ld_restReaches_23 : decode b_Ld_restReaches 23 = .ok (.aload_n 0, 1) := by decide +kernel
theorem d_Ld_restReaches_24 : decode b_Ld_restReaches 24 = .ok (.getfield 13, 3) := by decide +kernel
theorem d_Ld_restReaches_27 : decode b_Ld_restReaches 27 = .ok (.iload_n 1, 1) := by decide +kernel
theorem d_Ld_restReaches_28 : decode b_Ld_restReaches 28 = .ok (.laload, 1) := by decide +kernel
theorem d_Ld_restReaches_29 : decode b_Ld_restReaches 29 = .ok (.aload_n 0, 1) := by decide +kernel
theorem d_Ld_restReaches_30 : decode b_Ld_restReaches 30 = .ok (.getfield 9, 3) := by decide +kernel
theorem d_Ld_restReaches_33 : decode b_Ld_restReaches 33 = .ok (.iload_n 1, 1) := by decide +kernel
theorem d_Ld_restReaches_34 : decode b_Ld_restReaches 34 = .ok (.laload, 1) := by decide +kernel
theorem d_Ld_restReaches_35 : decode b_Ld_restReaches 35 = .ok (.lcmp, 1) := by decide +kernel
theorem d_Ld_restReaches_36 : decode b_Ld_restReaches 36 = .ok (.ifCond .le 7, 3) := by decide +kernel
theorem d_Ld_restReaches_39 : decode b_Ld_restReaches 39 = .ok (.iconst 1, 1) := by decide +kernel
theorem d_Ld_restReaches_40 : decode b_Ld_restReaches 40 = .ok (.goto 4, 3) := by decide +kernel
theorem d_Ld_restReaches_43 : decode b_Ld_restReaches 43 = .ok (.iconst 0, 1) := by decide +kernel
theorem d_Ld_restReaches_44 : decode b_Ld_restReaches 44 = .ok (.ireturn, 1) := by decide +kernel
theorem d_Ld_restReaches_45 : decode b_Ld_restReaches 45 = .ok (.iinc 1 (-1), 3) := by decide +kernel
theorem d_Ld_restReaches_48 : decode b_Ld_restReaches 48 = .ok (.goto (-45), 3) := by decide +kernel
theorem d_Ld_restReaches_51 : decode b_Ld_restReaches 51 = .ok (.iconst 1, 1) := by decide +kernel
theorem d_Ld_restReaches_52 : decode b_Ld_restReaches 52 = .ok (.ireturn, 1) := by decide +kernel
theorem d_Ld_reduce_0 : decode b_Ld_reduce 0 = .ok (.iconst 0, 1) := by decide +kernel
theorem d_Ld_reduce_1 : decode b_Ld_reduce 1 = .ok (.istore_n 1, 1) := by decide +kernel
theorem d_Ld_reduce_2 : decode b_Ld_reduce 2 = .ok (.iload_n 1, 1) := by decide +kernel
theorem d_Ld_reduce_3 : decode b_Ld_reduce 3 = .ok (.bipush 10, 2) := by decide +kernel
theorem d_Ld_reduce_5 : decode b_Ld_reduce 5 = .ok (.if_icmp .ge 91, 3) := by decide +kernel
theorem d_Ld_reduce_8 : decode b_Ld_reduce 8 = .ok (.aload_n 0, 1) := by decide +kernel
theorem d_Ld_reduce_9 : decode b_Ld_reduce 9 = .ok (.invokevirtual 55, 3) := by decide +kernel
theorem d_Ld_reduce_12 : decode b_Ld_reduce 12 = .ok (.ifCond .eq 84, 3) := by decide +kernel
theorem d_Ld_reduce_15 : decode b_Ld_reduce 15 = .ok (.lconst 0, 1) := by decide +kernel
theorem d_Ld_reduce_16 : decode b_Ld_reduce 16 = .ok (.lstore_n 2, 1) := by decide +kernel
theorem d_Ld_reduce_17 : decode b_Ld_reduce 17 = .ok (.iconst 0, 1) := by decide +kernel
theorem d_Ld_reduce_18 : decode b_Ld_reduce 18 = .ok (.istore 4, 2) := by decide +kernel
theorem d_Ld_reduce_20 : decode b_Ld_reduce 20 = .ok (.iload 4, 2) := by decide +kernel
theorem d_Ld_reduce_22 : decode b_Ld_reduce 22 = .ok (.bipush 7, 2) := by decide +kernel
theorem d_Ld_reduce_24 : decode b_Ld_reduce 24 = .ok (.if_icmp .ge 66, 3) := by decide +kernel
theorem d_Ld_reduce_27 : decode b_Ld_reduce 27 = .ok (.aload_n 0, 1) := by decide +kernel
theorem d_Ld_reduce_28 : decode b_Ld_reduce 28 = .ok (.getfield 13, 3) := by decide +kernel
theorem d_Ld_reduce_31 : decode b_Ld_reduce 31 = .ok (.iload 4, 2) := by decide +kernel
theorem d_Ld_reduce_33 : decode b_Ld_reduce 33 = .ok (.laload, 1) := by decide +kernel
theorem d_Ld_reduce_34 : decode b_Ld_reduce 34 = .ok (.aload_n 0, 1) := by decide +kernel
theorem d_Ld_reduce_35 : decode b_Ld_reduce 35 = .ok (.getfield 9, 3) := by decide +kernel
theorem d_Ld_reduce_38 : decode b_Ld_reduce 38 = .ok (.iload 4, 2) := by decide +kernel
theorem d_Ld_reduce_40 : decode b_Ld_reduce 40 = .ok (.laload, 1) := by decide +kernel
theorem d_Ld_reduce_41 : decode b_Ld_reduce 41 = .ok (.lsub, 1) := by decide +kernel
theorem d_Ld_reduce_42 : decode b_Ld_reduce 42 = .ok (.lload_n 2, 1) := by decide +kernel
theorem d_Ld_reduce_43 : decode b_Ld_reduce 43 = .ok (.lsub, 1) := by decide +kernel
theorem d_Ld_reduce_44 : decode b_Ld_reduce 44 = .ok (.lstore 5, 2) := by decide +kernel
theorem d_Ld_reduce_46 : decode b_Ld_reduce 46 = .ok (.lload 5, 2) := by decide +kernel
theorem d_Ld_reduce_48 : decode b_Ld_reduce 48 = .ok (.lconst 0, 1) := by decide +kernel
theorem d_Ld_reduce_49 : decode b_Ld_reduce 49 = .ok (.lcmp, 1) := by decide +kernel
theorem d_Ld_reduce_50 : decode b_Ld_reduce 50 = .ok (.ifCond .ge 7, 3) := by decide +kernel
theorem d_Ld_reduce_53 : decode b_Ld_reduce 53 = .ok (.lconst 1, 1) := by decide +kernel
theorem d_Ld_reduce_54 : decode b_Ld_reduce 54 = .ok (.goto 4, 3) := by decide +kernel
theorem d_Ld_reduce_57 : decode b_Ld_reduce 57 = .ok (.lconst 0, 1) := by decide +kernel
theorem d_Ld_reduce_58 : decode b_Ld_reduce 58 = .ok (.lstore_n 2, 1) := by decide +kernel
theorem d_Ld_reduce_59 : decode b_Ld_reduce 59 = .ok (.aload_n 0, 1) := by decide +kernel
theorem d_Ld_reduce_60 : decode b_Ld_reduce 60 = .ok (.getfield 13, 3) := by decide +kernel
theorem d_Ld_reduce_63 : decode b_Ld_reduce 63 = .ok (.iload 4, 2) := by decide +kernel
theorem d_Ld_reduce_65 : decode b_Ld_reduce 65 = .ok (.lload 5, 2) := by decide +kernel
theorem d_Ld_reduce_67 : decode b_Ld_reduce 67 = .ok (.lconst 0, 1) := by decide +kernel
theorem d_Ld_reduce_68 : decode b_Ld_reduce 68 = .ok (.lcmp, 1) := by decide +kernel
theorem d_Ld_reduce_69 : decode b_Ld_reduce 69 = .ok (.ifCond .ge 12, 3) := by decide +kernel
theorem d_Ld_reduce_72 : decode b_Ld_reduce 72 = .ok (.lload 5, 2) := by decide +kernel
theorem d_Ld_reduce_74 : decode b_Ld_reduce 74 = .ok (.ldc2_w 53, 3) := by decide +kernel
theorem d_Ld_reduce_77 : decode b_Ld_reduce 77 = .ok (.ladd, 1) := by decide +kernel
theorem d_Ld_reduce_78 : decode b_Ld_reduce 78 = .ok (.goto 5, 3) := by decide +kernel
theorem d_Ld_reduce_81 : decode b_Ld_reduce 81 = .ok (.lload 5, 2) := by decide +kernel
theorem d_Ld_reduce_83 : decode b_Ld_reduce 83 = .ok (.lastore, 1) := by decide +kernel
theorem d_Ld_reduce_84 : decode b_Ld_reduce 84 = .ok (.iinc 4 1, 3) := by decide +kernel
theorem d_Ld_reduce_87 : decode b_Ld_reduce 87 = .ok (.goto (-67), 3) := by decide +kernel
theorem d_Ld_reduce_90 : decode b_Ld_reduce 90 = .ok (.iinc 1 1, 3) := by decide +kernel
theorem d_Ld_reduce_93 : decode b_Ld_reduce 93 = .ok (.goto (-91), 3) := by decide +kernel
theorem d_Ld_reduce_96 : decode b_Ld_reduce 96 = .ok (.return_, 1) := by decide +kernel
theorem d_Ld_isZero_0 : decode b_Ld_isZero 0 = .ok (.iconst 0, 1) := by decide +kernel
theorem d_Ld_isZero_1 : decode b_Ld_isZero 1 = .ok (.istore_n 1, 1) := by decide +kernel
theorem d_Ld_isZero_2 : decode b_Ld_isZero 2 = .ok (.iload_n 1, 1) := by decide +kernel
theorem d_Ld_isZero_3 : decode b_Ld_isZero 3 = .ok (.bipush 7, 2) := by decide +kernel
theorem d_Ld_isZero_5 : decode b_Ld_isZero 5 = .ok (.if_icmp .ge 22, 3) := by decide +kernel
theorem d_Ld_isZero_8 : decode b_Ld_isZero 8 = .ok (.aload_n 0, 1) := by decide +kernel
theorem d_Ld_isZero_9 : decode b_Ld_isZero 9 = .ok (.getfield 13, 3) := by decide +kernel
theorem d_Ld_isZero_12 : decode b_Ld_isZero 12 = .ok (.iload_n 1, 1) := by decide +kernel
theorem d_Ld_isZero_13 : decode b_Ld_isZero 13 = .ok (.laload, 1) := by decide +kernel
theorem d_Ld_isZero_14 : decode b_Ld_isZero 14 = .ok (.lconst 0, 1) := by decide +kernel
theorem d_Ld_isZero_15 : decode b_Ld_isZero 15 = .ok (.lcmp, 1) := by decide +kernel
theorem d_Ld_isZero_16 : decode b_Ld_isZero 16 = .ok (.ifCond .eq 5, 3) := by decide +kernel
theorem d_Ld_isZero_19 : decode b_Ld_isZero 19 = .ok (.iconst 0, 1) := by decide +kernel
theorem d_Ld_isZero_20 : decode b_Ld_isZero 20 = .ok (.ireturn, 1) := by decide +kernel
theorem d_Ld_isZero_21 : decode b_Ld_isZero 21 = .ok (.iinc 1 1, 3) := by decide +kernel
theorem d_Ld_isZero_24 : decode b_Ld_isZero 24 = .ok (.goto (-22), 3) := by decide +kernel
theorem d_Ld_isZero_27 : decode b_Ld_isZero 27 = .ok (.iconst 1, 1) := by decide +kernel
theorem d_Ld_isZero_28 : decode b_Ld_isZero 28 = .ok (.ireturn, 1) := by decide +kernel
theorem d_Ld_divides_0 : decode b_Ld_divides 0 = .ok (.aload_n 3, 1) := by decide +kernel
theorem d_Ld_divides_1 : decode b_Ld_divides 1 = .ok (.iload 4, 2) := by decide +kernel
theorem d_Ld_divides_3 : decode b_Ld_divides 3 = .ok (.invokevirtual 16, 3) := by decide +kernel
theorem d_Ld_divides_6 : decode b_Ld_divides 6 = .ok (.aload_n 1, 1) := by decide +kernel
theorem d_Ld_divides_7 : decode b_Ld_divides 7 = .ok (.iload_n 2, 1) := by decide +kernel
theorem d_Ld_divides_8 : decode b_Ld_divides 8 = .ok (.invokevirtual 16, 3) := by decide +kernel
theorem d_Ld_divides_11 : decode b_Ld_divides 11 = .ok (.isub, 1) := by decide +kernel
theorem d_Ld_divides_12 : decode b_Ld_divides 12 = .ok (.istore 5, 2) := by decide +kernel
theorem d_Ld_divides_14 : decode b_Ld_divides 14 = .ok (.aload_n 3, 1) := by decide +kernel
theorem d_Ld_divides_15 : decode b_Ld_divides 15 = .ok (.iload 4, 2) := by decide +kernel
theorem d_Ld_divides_17 : decode b_Ld_divides 17 = .ok (.invokevirtual 22, 3) := by decide +kernel
theorem d_Ld_divides_20 : decode b_Ld_divides 20 = .ok (.ifCond .ne 5, 3) := by decide +kernel
theorem d_Ld_divides_23 : decode b_Ld_divides 23 = .ok (.iconst 1, 1) := by decide +kernel
theorem d_Ld_divides_24 : decode b_Ld_divides 24 = .ok (.ireturn, 1) := by decide +kernel
theorem d_Ld_divides_25 : decode b_Ld_divides 25 = .ok (.iload 5, 2) := by decide +kernel
theorem d_Ld_divides_27 : decode b_Ld_divides 27 = .ok (.ifCond .ge 5, 3) := by decide +kernel
theorem d_Ld_divides_30 : decode b_Ld_divides 30 = .ok (.iconst 0, 1) := by decide +kernel
theorem d_Ld_divides_31 : decode b_Ld_divides 31 = .ok (.ireturn, 1) := by decide +kernel
theorem d_Ld_divides_32 : decode b_Ld_divides 32 = .ok (.aload_n 0, 1) := by decide +kernel
theorem d_Ld_divides_33 : decode b_Ld_divides 33 = .ok (.getfield 9, 3) := by decide +kernel
theorem d_Ld_divides_36 : decode b_Ld_divides 36 = .ok (.lconst 0, 1) := by decide +kernel
theorem d_Ld_divides_37 : decode b_Ld_divides 37 = .ok (.invokestatic 25, 3) := by decide +kernel
theorem d_Ld_divides_40 : decode b_Ld_divides 40 = .ok (.iconst 0, 1) := by decide +kernel
theorem d_Ld_divides_41 : decode b_Ld_divides 41 = .ok (.istore 6, 2) := by decide +kernel
theorem d_Ld_divides_43 : decode b_Ld_divides 43 = .ok (.iload 6, 2) := by decide +kernel
theorem d_Ld_divides_45 : decode b_Ld_divides 45 = .ok (.aload_n 1, 1) := by decide +kernel
theorem d_Ld_divides_46 : decode b_Ld_divides 46 = .ok (.iload_n 2, 1) := by decide +kernel
theorem d_Ld_divides_47 : decode b_Ld_divides 47 = .ok (.invokevirtual 22, 3) := by decide +kernel
theorem d_Ld_divides_50 : decode b_Ld_divides 50 = .ok (.if_icmp .ge 23, 3) := by decide +kernel
theorem d_Ld_divides_53 : decode b_Ld_divides 53 = .ok (.aload_n 0, 1) := by decide +kernel
theorem d_Ld_divides_54 : decode b_Ld_divides 54 = .ok (.getfield 9, 3) := by decide +kernel
theorem d_Ld_divides_57 : decode b_Ld_divides 57 = .ok (.aload_n 1, 1) := by decide +kernel
theorem d_Ld_divides_58 : decode b_Ld_divides 58 = .ok (.iload_n 2, 1) := by decide +kernel
theorem d_Ld_divides_59 : decode b_Ld_divides 59 = .ok (.iload 6, 2) := by decide +kernel
theorem d_Ld_divides_61 : decode b_Ld_divides 61 = .ok (.invokevirtual 31, 3) := by decide +kernel
theorem d_Ld_divides_64 : decode b_Ld_divides 64 = .ok (.invokestatic 35, 3) := by decide +kernel
theorem d_Ld_divides_67 : decode b_Ld_divides 67 = .ok (.iinc 6 1, 3) := by decide +kernel
theorem d_Ld_divides_70 : decode b_Ld_divides 70 = .ok (.goto (-27), 3) := by decide +kernel
theorem d_Ld_divides_73 : decode b_Ld_divides 73 = .ok (.aload_n 0, 1) := by decide +kernel
theorem d_Ld_divides_74 : decode b_Ld_divides 74 = .ok (.getfield 13, 3) := by decide +kernel
theorem d_Ld_divides_77 : decode b_Ld_divides 77 = .ok (.lconst 0, 1) := by decide +kernel
theorem d_Ld_divides_78 : decode b_Ld_divides 78 = .ok (.invokestatic 25, 3) := by decide +kernel
theorem d_Ld_divides_81 : decode b_Ld_divides 81 = .ok (.aload_n 3, 1) := by decide +kernel
theorem d_Ld_divides_82 : decode b_Ld_divides 82 = .ok (.iload 4, 2) := by decide +kernel
theorem d_Ld_divides_84 : decode b_Ld_divides 84 = .ok (.invokevirtual 22, 3) := by decide +kernel
theorem d_Ld_divides_87 : decode b_Ld_divides 87 = .ok (.iload 5, 2) := by decide +kernel
theorem d_Ld_divides_89 : decode b_Ld_divides 89 = .ok (.sipush 200, 3) := by decide +kernel
theorem d_Ld_divides_92 : decode b_Ld_divides 92 = .ok (.invokestatic 39, 3) := by decide +kernel
theorem d_Ld_divides_95 : decode b_Ld_divides 95 = .ok (.iadd, 1) := by decide +kernel
theorem d_Ld_divides_96 : decode b_Ld_divides 96 = .ok (.istore 6, 2) := by decide +kernel
theorem d_Ld_divides_98 : decode b_Ld_divides 98 = .ok (.iconst 0, 1) := by decide +kernel
theorem d_Ld_divides_99 : decode b_Ld_divides 99 = .ok (.istore 7, 2) := by decide +kernel
theorem d_Ld_divides_101 : decode b_Ld_divides 101 = .ok (.iload 7, 2) := by decide +kernel
theorem d_Ld_divides_103 : decode b_Ld_divides 103 = .ok (.iload 6, 2) := by decide +kernel
theorem d_Ld_divides_105 : decode b_Ld_divides 105 = .ok (.if_icmp .ge 28, 3) := by decide +kernel
theorem d_Ld_divides_108 : decode b_Ld_divides 108 = .ok (.aload_n 0, 1) := by decide +kernel
theorem d_Ld_divides_109 : decode b_Ld_divides 109 = .ok (.getfield 13, 3) := by decide +kernel
theorem d_Ld_divides_112 : decode b_Ld_divides 112 = .ok (.aload_n 3, 1) := by decide +kernel
theorem d_Ld_divides_113 : decode b_Ld_divides 113 = .ok (.iload 4, 2) := by decide +kernel
theorem d_Ld_divides_115 : decode b_Ld_divides 115 = .ok (.iload 7, 2) := by decide +kernel
theorem d_Ld_divides_117 : decode b_Ld_divides 117 = .ok (.invokevirtual 31, 3) := by decide +kernel
theorem d_Ld_divides_120 : decode b_Ld_divides 120 = .ok (.invokestatic 35, 3) := by decide +kernel
theorem d_Ld_divides_123 : decode b_Ld_divides 123 = .ok (.aload_n 0, 1) := by decide +kernel
theorem d_Ld_divides_124 : decode b_Ld_divides 124 = .ok (.invokevirtual 44, 3) := by decide +kernel
theorem d_Ld_divides_127 : decode b_Ld_divides 127 = .ok (.iinc 7 1, 3) := by decide +kernel
theorem d_Ld_divides_130 : decode b_Ld_divides 130 = .ok (.goto (-29), 3) := by decide +kernel
theorem d_Ld_divides_133 : decode b_Ld_divides 133 = .ok (.aload_n 0, 1) := by decide +kernel
theorem d_Ld_divides_134 : decode b_Ld_divides 134 = .ok (.invokevirtual 47, 3) := by decide +kernel
theorem d_Ld_divides_137 : decode b_Ld_divides 137 = .ok (.ireturn, 1) := by decide +kernel
theorem d_Jd_allDiffer_0 : decode b_Jd_allDiffer 0 = .ok (.aload_n 0, 1) := by decide +kernel
theorem d_Jd_allDiffer_1 : decode b_Jd_allDiffer 1 = .ok (.getfield 23, 3) := by decide +kernel
theorem d_Jd_allDiffer_4 : decode b_Jd_allDiffer 4 = .ok (.iload_n 1, 1) := by decide +kernel
theorem d_Jd_allDiffer_5 : decode b_Jd_allDiffer 5 = .ok (.invokevirtual 100, 3) := by decide +kernel
theorem d_Jd_allDiffer_8 : decode b_Jd_allDiffer 8 = .ok (.istore_n 2, 1) := by decide +kernel
theorem d_Jd_allDiffer_9 : decode b_Jd_allDiffer 9 = .ok (.iconst 0, 1) := by decide +kernel
theorem d_Jd_allDiffer_10 : decode b_Jd_allDiffer 10 = .ok (.istore_n 3, 1) := by decide +kernel
theorem d_Jd_allDiffer_11 : decode b_Jd_allDiffer 11 = .ok (.iload_n 3, 1) := by decide +kernel
theorem d_Jd_allDiffer_12 : decode b_Jd_allDiffer 12 = .ok (.aload_n 0, 1) := by decide +kernel
theorem d_Jd_allDiffer_13 : decode b_Jd_allDiffer 13 = .ok (.getfield 23, 3) := by decide +kernel
theorem d_Jd_allDiffer_16 : decode b_Jd_allDiffer 16 = .ok (.iload_n 1, 1) := by decide +kernel
theorem d_Jd_allDiffer_17 : decode b_Jd_allDiffer 17 = .ok (.invokevirtual 103, 3) := by decide +kernel
theorem d_Jd_allDiffer_20 : decode b_Jd_allDiffer 20 = .ok (.if_icmp .ge 83, 3) := by decide +kernel
theorem d_Jd_allDiffer_23 : decode b_Jd_allDiffer 23 = .ok (.aload_n 0, 1) := by decide +kernel
theorem d_Jd_allDiffer_24 : decode b_Jd_allDiffer 24 = .ok (.getfield 23, 3) := by decide +kernel
theorem d_Jd_allDiffer_27 : decode b_Jd_allDiffer 27 = .ok (.iload_n 2, 1) := by decide +kernel
theorem d_Jd_allDiffer_28 : decode b_Jd_allDiffer 28 = .ok (.invokevirtual 111, 3) := by decide +kernel
theorem d_Jd_allDiffer_31 : decode b_Jd_allDiffer 31 = .ok (.istore 4, 2) := by decide +kernel
theorem d_Jd_allDiffer_33 : decode b_Jd_allDiffer 33 = .ok (.iload_n 3, 1) := by decide +kernel
theorem d_Jd_allDiffer_34 : decode b_Jd_allDiffer 34 = .ok (.iconst 1, 1) := by decide +kernel
theorem d_Jd_allDiffer_35 : decode b_Jd_allDiffer 35 = .ok (.iadd, 1) := by decide +kernel
theorem d_Jd_allDiffer_36 : decode b_Jd_allDiffer 36 = .ok (.istore 5, 2) := by decide +kernel
theorem d_Jd_allDiffer_38 : decode b_Jd_allDiffer 38 = .ok (.iload 5, 2) := by decide +kernel
theorem d_Jd_allDiffer_40 : decode b_Jd_allDiffer 40 = .ok (.aload_n 0, 1) := by decide +kernel
theorem d_Jd_allDiffer_41 : decode b_Jd_allDiffer 41 = .ok (.getfield 23, 3) := by decide +kernel
theorem d_Jd_allDiffer_44 : decode b_Jd_allDiffer 44 = .ok (.iload_n 1, 1) := by decide +kernel
theorem d_Jd_allDiffer_45 : decode b_Jd_allDiffer 45 = .ok (.invokevirtual 103, 3) := by decide +kernel
theorem d_Jd_allDiffer_48 : decode b_Jd_allDiffer 48 = .ok (.if_icmp .ge 40, 3) := by decide +kernel
theorem d_Jd_allDiffer_51 : decode b_Jd_allDiffer 51 = .ok (.aload_n 0, 1) := by decide +kernel
theorem d_Jd_allDiffer_52 : decode b_Jd_allDiffer 52 = .ok (.getfield 23, 3) := by decide +kernel
theorem d_Jd_allDiffer_55 : decode b_Jd_allDiffer 55 = .ok (.iload_n 2, 1) := by decide +kernel
theorem d_Jd_allDiffer_56 : decode b_Jd_allDiffer 56 = .ok (.aload_n 0, 1) := by decide +kernel
theorem d_Jd_allDiffer_57 : decode b_Jd_allDiffer 57 = .ok (.getfield 23, 3) := by decide +kernel
theorem d_Jd_allDiffer_60 : decode b_Jd_allDiffer 60 = .ok (.iload 4, 2) := by decide +kernel
theorem d_Jd_allDiffer_62 : decode b_Jd_allDiffer 62 = .ok (.iconst 0, 1) := by decide +kernel
theorem d_Jd_allDiffer_63 : decode b_Jd_allDiffer 63 = .ok (.invokestatic 259, 3) := by decide +kernel
theorem d_Jd_allDiffer_66 : decode b_Jd_allDiffer 66 = .ok (.ifCond .eq 5, 3) := by decide +kernel
theorem d_Jd_allDiffer_69 : decode b_Jd_allDiffer 69 = .ok (.iconst 0, 1) := by decide +kernel
theorem d_Jd_allDiffer_70 : decode b_Jd_allDiffer 70 = .ok (.ireturn, 1) := by decide +kernel
theorem d_Jd_allDiffer_71 : decode b_Jd_allDiffer 71 = .ok (.aload_n 0, 1) := by decide +kernel
theorem d_Jd_allDiffer_72 : decode b_Jd_allDiffer 72 = .ok (.getfield 23, 3) := by decide +kernel
theorem d_Jd_allDiffer_75 : decode b_Jd_allDiffer 75 = .ok (.iload 4, 2) := by decide +kernel
theorem d_Jd_allDiffer_77 : decode b_Jd_allDiffer 77 = .ok (.invokevirtual 111, 3) := by decide +kernel
theorem d_Jd_allDiffer_80 : decode b_Jd_allDiffer 80 = .ok (.istore 4, 2) := by decide +kernel
theorem d_Jd_allDiffer_82 : decode b_Jd_allDiffer 82 = .ok (.iinc 5 1, 3) := by decide +kernel
theorem d_Jd_allDiffer_85 : decode b_Jd_allDiffer 85 = .ok (.goto (-47), 3) := by decide +kernel
theorem d_Jd_allDiffer_88 : decode b_Jd_allDiffer 88 = .ok (.aload_n 0, 1) := by decide +kernel
theorem d_Jd_allDiffer_89 : decode b_Jd_allDiffer 89 = .ok (.getfield 23, 3) := by decide +kernel
theorem d_Jd_allDiffer_92 : decode b_Jd_allDiffer 92 = .ok (.iload_n 2, 1) := by decide +kernel
theorem d_Jd_allDiffer_93 : decode b_Jd_allDiffer 93 = .ok (.invokevirtual 111, 3) := by decide +kernel
theorem d_Jd_allDiffer_96 : decode b_Jd_allDiffer 96 = .ok (.istore_n 2, 1) := by decide +kernel
theorem d_Jd_allDiffer_97 : decode b_Jd_allDiffer 97 = .ok (.iinc 3 1, 3) := by decide +kernel
theorem d_Jd_allDiffer_100 : decode b_Jd_allDiffer 100 = .ok (.goto (-89), 3) := by decide +kernel
theorem d_Jd_allDiffer_103 : decode b_Jd_allDiffer 103 = .ok (.iconst 1, 1) := by decide +kernel
theorem d_Jd_allDiffer_104 : decode b_Jd_allDiffer 104 = .ok (.ireturn, 1) := by decide +kernel
theorem d_Jd_hasAll_0 : decode b_Jd_hasAll 0 = .ok (.aload_n 0, 1) := by decide +kernel
theorem d_Jd_hasAll_1 : decode b_Jd_hasAll 1 = .ok (.getfield 15, 3) := by decide +kernel
theorem d_Jd_hasAll_4 : decode b_Jd_hasAll 4 = .ok (.iload_n 1, 1) := by decide +kernel
theorem d_Jd_hasAll_5 : decode b_Jd_hasAll 5 = .ok (.invokevirtual 100, 3) := by decide +kernel
theorem d_Jd_hasAll_8 : decode b_Jd_hasAll 8 = .ok (.istore_n 3, 1) := by decide +kernel
theorem d_Jd_hasAll_9 : decode b_Jd_hasAll 9 = .ok (.iconst 0, 1) := by decide +kernel
theorem d_Jd_hasAll_10 : decode b_Jd_hasAll 10 = .ok (.istore 4, 2) := by decide +kernel
theorem d_Jd_hasAll_12 : decode b_Jd_hasAll 12 = .ok (.iload 4, 2) := by decide +kernel
theorem d_Jd_hasAll_14 : decode b_Jd_hasAll 14 = .ok (.aload_n 0, 1) := by decide +kernel
theorem d_Jd_hasAll_15 : decode b_Jd_hasAll 15 = .ok (.getfield 15, 3) := by decide +kernel
theorem d_Jd_hasAll_18 : decode b_Jd_hasAll 18 = .ok (.iload_n 1, 1) := by decide +kernel
theorem d_Jd_hasAll_19 : decode b_Jd_hasAll 19 = .ok (.invokevirtual 103, 3) := by decide +kernel
theorem d_Jd_hasAll_22 : decode b_Jd_hasAll 22 = .ok (.if_icmp .ge 37, 3) := by decide +kernel
theorem d_Jd_hasAll_25 : decode b_Jd_hasAll 25 = .ok (.aload_n 0, 1) := by decide +kernel
theorem d_Jd_hasAll_26 : decode b_Jd_hasAll 26 = .ok (.getfield 23, 3) := by decide +kernel
theorem d_Jd_hasAll_29 : decode b_Jd_hasAll 29 = .ok (.iload_n 2, 1) := by decide +kernel
theorem d_Jd_hasAll_30 : decode b_Jd_hasAll 30 = .ok (.aload_n 0, 1) := by decide +kernel
theorem d_Jd_hasAll_31 : decode b_Jd_hasAll 31 = .ok (.getfield 15, 3) := by decide +kernel
theorem d_Jd_hasAll_34 : decode b_Jd_hasAll 34 = .ok (.iload_n 3, 1) := by decide +kernel
theorem d_Jd_hasAll_35 : decode b_Jd_hasAll 35 = .ok (.invokevirtual 195, 3) := by decide +kernel
theorem d_Jd_hasAll_38 : decode b_Jd_hasAll 38 = .ok (.iconst (-1), 1) := by decide +kernel
theorem d_Jd_hasAll_39 : decode b_Jd_hasAll 39 = .ok (.if_icmp .ne 5, 3) := by decide +kernel
theorem d_Jd_hasAll_42 : decode b_Jd_hasAll 42 = .ok (.iconst 0, 1) := by decide +kernel
theorem d_Jd_hasAll_43 : decode b_Jd_hasAll 43 = .ok (.ireturn, 1) := by decide +kernel
theorem d_Jd_hasAll_44 : decode b_Jd_hasAll 44 = .ok (.aload_n 0, 1) := by decide +kernel
theorem d_Jd_hasAll_45 : decode b_Jd_hasAll 45 = .ok (.getfield 15, 3) := by decide +kernel
theorem d_Jd_hasAll_48 : decode b_Jd_hasAll 48 = .ok (.iload_n 3, 1) := by decide +kernel
theorem d_Jd_hasAll_49 : decode b_Jd_hasAll 49 = .ok (.invokevirtual 111, 3) := by decide +kernel
theorem d_Jd_hasAll_52 : decode b_Jd_hasAll 52 = .ok (.istore_n 3, 1) := by decide +kernel
theorem d_Jd_hasAll_53 : decode b_Jd_hasAll 53 = .ok (.iinc 4 1, 3) := by decide +kernel
theorem d_Jd_hasAll_56 : decode b_Jd_hasAll 56 = .ok (.goto (-44), 3) := by decide +kernel
theorem d_Jd_hasAll_59 : decode b_Jd_hasAll 59 = .ok (.iconst 1, 1) := by decide +kernel
theorem d_Jd_hasAll_60 : decode b_Jd_hasAll 60 = .ok (.ireturn, 1) := by decide +kernel
theorem d_Jd_hasDependents_0 : decode b_Jd_hasDependents 0 = .ok (.aload_n 0, 1) := by decide +kernel
theorem d_Jd_hasDependents_1 : decode b_Jd_hasDependents 1 = .ok (.getfield 15, 3) := by decide +kernel
theorem d_Jd_hasDependents_4 : decode b_Jd_hasDependents 4 = .ok (.iload_n 1, 1) := by decide +kernel
theorem d_Jd_hasDependents_5 : decode b_Jd_hasDependents 5 = .ok (.invokevirtual 100, 3) := by decide +kernel
theorem d_Jd_hasDependents_8 : decode b_Jd_hasDependents 8 = .ok (.istore_n 3, 1) := by decide +kernel
theorem d_Jd_hasDependents_9 : decode b_Jd_hasDependents 9 = .ok (.iconst 0, 1) := by decide +kernel
theorem d_Jd_hasDependents_10 : decode b_Jd_hasDependents 10 = .ok (.istore 4, 2) := by decide +kernel
theorem d_Jd_hasDependents_12 : decode b_Jd_hasDependents 12 = .ok (.iload 4, 2) := by decide +kernel
theorem d_Jd_hasDependents_14 : decode b_Jd_hasDependents 14 = .ok (.aload_n 0, 1) := by decide +kernel
theorem d_Jd_hasDependents_15 : decode b_Jd_hasDependents 15 = .ok (.getfield 15, 3) := by decide +kernel
theorem d_Jd_hasDependents_18 : decode b_Jd_hasDependents 18 = .ok (.iload_n 1, 1) := by decide +kernel
theorem d_Jd_hasDependents_19 : decode b_Jd_hasDependents 19 = .ok (.invokevirtual 103, 3) := by decide +kernel
theorem d_Jd_hasDependents_22 : decode b_Jd_hasDependents 22 = .ok (.if_icmp .ge 48, 3) := by decide +kernel
theorem d_Jd_hasDependents_25 : decode b_Jd_hasDependents 25 = .ok (.aload_n 0, 1) := by decide +kernel
theorem d_Jd_hasDependents_26 : decode b_Jd_hasDependents 26 = .ok (.getfield 23, 3) := by decide +kernel
theorem d_Jd_hasDependents_29 : decode b_Jd_hasDependents 29 = .ok (.iload_n 2, 1) := by decide +kernel
theorem d_Jd_hasDependents_30 : decode b_Jd_hasDependents 30 = .ok (.aload_n 0, 1) := by decide +kernel
theorem d_Jd_hasDependents_31 : decode b_Jd_hasDependents 31 = .ok (.getfield 15, 3) := by decide +kernel
theorem d_Jd_hasDependents_34 : decode b_Jd_hasDependents 34 = .ok (.iload_n 3, 1) := by decide +kernel
theorem d_Jd_hasDependents_35 : decode b_Jd_hasDependents 35 = .ok (.iconst 1, 1) := by decide +kernel
theorem d_Jd_hasDependents_36 : decode b_Jd_hasDependents 36 = .ok (.isub, 1) := by decide +kernel
theorem d_Jd_hasDependents_37 : decode b_Jd_hasDependents 37 = .ok (.invokevirtual 195, 3) := by decide +kernel
theorem d_Jd_hasDependents_40 : decode b_Jd_hasDependents 40 = .ok (.iconst (-1), 1) := by decide +kernel
theorem d_Jd_hasDependents_41 : decode b_Jd_hasDependents 41 = .ok (.if_icmp .eq 14, 3) := by decide +kernel
theorem d_Jd_hasDependents_44 : decode b_Jd_hasDependents 44 = .ok (.aload_n 0, 1) := by decide +kernel
theorem d_Jd_hasDependents_45 : decode b_Jd_hasDependents 45 = .ok (.iload_n 3, 1) := by decide +kernel
theorem d_Jd_hasDependents_46 : decode b_Jd_hasDependents 46 = .ok (.iload_n 2, 1) := by decide +kernel
theorem d_Jd_hasDependents_47 : decode b_Jd_hasDependents 47 = .ok (.invokevirtual 274, 3) := by decide +kernel
theorem d_Jd_hasDependents_50 : decode b_Jd_hasDependents 50 = .ok (.ifCond .ne 5, 3) := by decide +kernel
theorem d_Jd_hasDependents_53 : decode b_Jd_hasDependents 53 = .ok (.iconst 0, 1) := by decide +kernel
theorem d_Jd_hasDependents_54 : decode b_Jd_hasDependents 54 = .ok (.ireturn, 1) := by decide +kernel
theorem d_Jd_hasDependents_55 : decode b_Jd_hasDependents 55 = .ok (.aload_n 0, 1) := by decide +kernel
theorem d_Jd_hasDependents_56 : decode b_Jd_hasDependents 56 = .ok (.getfield 15, 3) := by decide +kernel
theorem d_Jd_hasDependents_59 : decode b_Jd_hasDependents 59 = .ok (.iload_n 3, 1) := by decide +kernel
theorem d_Jd_hasDependents_60 : decode b_Jd_hasDependents 60 = .ok (.invokevirtual 111, 3) := by decide +kernel
theorem d_Jd_hasDependents_63 : decode b_Jd_hasDependents 63 = .ok (.istore_n 3, 1) := by decide +kernel
theorem d_Jd_hasDependents_64 : decode b_Jd_hasDependents 64 = .ok (.iinc 4 1, 3) := by decide +kernel
theorem d_Jd_hasDependents_67 : decode b_Jd_hasDependents 67 = .ok (.goto (-55), 3) := by decide +kernel
theorem d_Jd_hasDependents_70 : decode b_Jd_hasDependents 70 = .ok (.iconst 1, 1) := by decide +kernel
theorem d_Jd_hasDependents_71 : decode b_Jd_hasDependents 71 = .ok (.ireturn, 1) := by decide +kernel
theorem d_Jd_asserts_0 : decode b_Jd_asserts 0 = .ok (.getstatic 186, 3) := by decide +kernel
theorem d_Jd_asserts_3 : decode b_Jd_asserts 3 = .ok (.aload_n 1, 1) := by decide +kernel
theorem d_Jd_asserts_4 : decode b_Jd_asserts 4 = .ok (.invokevirtual 192, 3) := by decide +kernel
theorem d_Jd_asserts_7 : decode b_Jd_asserts 7 = .ok (.iaload, 1) := by decide +kernel
theorem d_Jd_asserts_8 : decode b_Jd_asserts 8 = .ok (.tableswitch 359 13 30 #[88, 95, 102, 117, 135, 157, 179, 201, 223, 223, 223, 248, 248, 248, 273, 319, 345, 352], 88) := by decide +kernel
theorem d_Jd_asserts_96 : decode b_Jd_asserts 96 = .ok (.aload_n 0, 1) := by decide +kernel
theorem d_Jd_asserts_97 : decode b_Jd_asserts 97 = .ok (.iload_n 2, 1) := by decide +kernel
theorem d_Jd_asserts_98 : decode b_Jd_asserts 98 = .ok (.iload_n 3, 1) := by decide +kernel
theorem d_Jd_asserts_99 : decode b_Jd_asserts 99 = .ok (.invokevirtual 252, 3) := by decide +kernel
theorem d_Jd_asserts_102 : decode b_Jd_asserts 102 = .ok (.ireturn, 1) := by decide +kernel
theorem d_Jd_asserts_103 : decode b_Jd_asserts 103 = .ok (.aload_n 0, 1) := by decide +kernel
theorem d_Jd_asserts_104 : decode b_Jd_asserts 104 = .ok (.iload_n 2, 1) := by decide +kernel
theorem d_Jd_asserts_105 : decode b_Jd_asserts 105 = .ok (.iload_n 3, 1) := by decide +kernel
theorem d_Jd_asserts_106 : decode b_Jd_asserts 106 = .ok (.invokevirtual 256, 3) := by decide +kernel
theorem d_Jd_asserts_109 : decode b_Jd_asserts 109 = .ok (.ireturn, 1) := by decide +kernel
theorem d_Jd_asserts_110 : decode b_Jd_asserts 110 = .ok (.aload_n 0, 1) := by decide +kernel
theorem d_Jd_asserts_111 : decode b_Jd_asserts 111 = .ok (.getfield 15, 3) := by decide +kernel
theorem d_Jd_asserts_114 : decode b_Jd_asserts 114 = .ok (.iload_n 2, 1) := by decide +kernel
theorem d_Jd_asserts_115 : decode b_Jd_asserts 115 = .ok (.aload_n 0, 1) := by decide +kernel
theorem d_Jd_asserts_116 : decode b_Jd_asserts 116 = .ok (.getfield 23, 3) := by decide +kernel
theorem d_Jd_asserts_119 : decode b_Jd_asserts 119 = .ok (.iload_n 3, 1) := by decide +kernel
theorem d_Jd_asserts_120 : decode b_Jd_asserts 120 = .ok (.iconst 0, 1) := by decide +kernel
theorem d_Jd_asserts_121 : decode b_Jd_asserts 121 = .ok (.invokestatic 259, 3) := by decide +kernel
theorem d_Jd_asserts_124 : decode b_Jd_asserts 124 = .ok (.ireturn, 1) := by decide +kernel
theorem d_Jd_asserts_125 : decode b_Jd_asserts 125 = .ok (.aload_n 0, 1) := by decide +kernel
theorem d_Jd_asserts_126 : decode b_Jd_asserts 126 = .ok (.getfield 37, 3) := by decide +kernel
theorem d_Jd_asserts_129 : decode b_Jd_asserts 129 = .ok (.aload_n 0, 1) := by decide +kernel
theorem d_Jd_asserts_130 : decode b_Jd_asserts 130 = .ok (.getfield 15, 3) := by decide +kernel
theorem d_Jd_asserts_133 : decode b_Jd_asserts 133 = .ok (.iload_n 2, 1) := by decide +kernel
theorem d_Jd_asserts_134 : decode b_Jd_asserts 134 = .ok (.aload_n 0, 1) := by decide +kernel
theorem d_Jd_asserts_135 : decode b_Jd_asserts 135 = .ok (.getfield 23, 3) := by decide +kernel
theorem d_Jd_asserts_138 : decode b_Jd_asserts 138 = .ok (.iload_n 3, 1) := by decide +kernel
theorem d_Jd_asserts_139 : decode b_Jd_asserts 139 = .ok (.invokevirtual 263, 3) := by decide +kernel
theorem d_Jd_asserts_142 : decode b_Jd_asserts 142 = .ok (.ireturn, 1) := by decide +kernel
theorem d_Jd_asserts_143 : decode b_Jd_asserts 143 = .ok (.aload_n 0, 1) := by decide +kernel
theorem d_Jd_asserts_144 : decode b_Jd_asserts 144 = .ok (.getfield 23, 3) := by decide +kernel
theorem d_Jd_asserts_147 : decode b_Jd_asserts 147 = .ok (.iload_n 3, 1) := by decide +kernel
theorem d_Jd_asserts_148 : decode b_Jd_asserts 148 = .ok (.aload_n 0, 1) := by decide +kernel
theorem d_Jd_asserts_149 : decode b_Jd_asserts 149 = .ok (.getfield 15, 3) := by decide +kernel
theorem d_Jd_asserts_152 : decode b_Jd_asserts 152 = .ok (.iload_n 2, 1) := by decide +kernel
theorem d_Jd_asserts_153 : decode b_Jd_asserts 153 = .ok (.invokestatic 267, 3) := by decide +kernel
theorem d_Jd_asserts_156 : decode b_Jd_asserts 156 = .ok (.ifCond .gt 7, 3) := by decide +kernel
theorem d_Jd_asserts_159 : decode b_Jd_asserts 159 = .ok (.iconst 1, 1) := by decide +kernel
theorem d_Jd_asserts_160 : decode b_Jd_asserts 160 = .ok (.goto 4, 3) := by decide +kernel
theorem d_Jd_asserts_163 : decode b_Jd_asserts 163 = .ok (.iconst 0, 1) := by decide +kernel
theorem d_Jd_asserts_164 : decode b_Jd_asserts 164 = .ok (.ireturn, 1) := by decide +kernel
theorem d_Jd_asserts_165 : decode b_Jd_asserts 165 = .ok (.aload_n 0, 1) := by decide +kernel
theorem d_Jd_asserts_166 : decode b_Jd_asserts 166 = .ok (.getfield 23, 3) := by decide +kernel
theorem d_Jd_asserts_169 : decode b_Jd_asserts 169 = .ok (.iload_n 3, 1) := by decide +kernel
theorem d_Jd_asserts_170 : decode b_Jd_asserts 170 = .ok (.aload_n 0, 1) := by decide +kernel
theorem d_Jd_asserts_171 : decode b_Jd_asserts 171 = .ok (.getfield 15, 3) := by decide +kernel
theorem d_Jd_asserts_174 : decode b_Jd_asserts 174 = .ok (.iload_n 2, 1) := by decide +kernel
theorem d_Jd_asserts_175 : decode b_Jd_asserts 175 = .ok (.invokestatic 267, 3) := by decide +kernel
theorem d_Jd_asserts_178 : decode b_Jd_asserts 178 = .ok (.ifCond .ge 7, 3) := by decide +kernel
theorem d_Jd_asserts_181 : decode b_Jd_asserts 181 = .ok (.iconst 1, 1) := by decide +kernel
theorem d_Jd_asserts_182 : decode b_Jd_asserts 182 = .ok (.goto 4, 3) := by decide +kernel
theorem d_Jd_asserts_185 : decode b_Jd_asserts 185 = .ok (.iconst 0, 1) := by decide +kernel
theorem d_Jd_asserts_186 : decode b_Jd_asserts 186 = .ok (.ireturn, 1) := by decide +kernel
theorem d_Jd_asserts_187 : decode b_Jd_asserts 187 = .ok (.aload_n 0, 1) := by decide +kernel
theorem d_Jd_asserts_188 : decode b_Jd_asserts 188 = .ok (.getfield 23, 3) := by decide +kernel
theorem d_Jd_asserts_191 : decode b_Jd_asserts 191 = .ok (.iload_n 3, 1) := by decide +kernel
theorem d_Jd_asserts_192 : decode b_Jd_asserts 192 = .ok (.aload_n 0, 1) := by decide +kernel
theorem d_Jd_asserts_193 : decode b_Jd_asserts 193 = .ok (.getfield 15, 3) := by decide +kernel
theorem d_Jd_asserts_196 : decode b_Jd_asserts 196 = .ok (.iload_n 2, 1) := by decide +kernel
theorem d_Jd_asserts_197 : decode b_Jd_asserts 197 = .ok (.invokestatic 267, 3) := by decide +kernel
theorem d_Jd_asserts_200 : decode b_Jd_asserts 200 = .ok (.ifCond .lt 7, 3) := by decide +kernel
theorem d_Jd_asserts_203 : decode b_Jd_asserts 203 = .ok (.iconst 1, 1) := by decide +kernel
theorem d_Jd_asserts_204 : decode b_Jd_asserts 204 = .ok (.goto 4, 3) := by decide +kernel
theorem d_Jd_asserts_207 : decode b_Jd_asserts 207 = .ok (.iconst 0, 1) := by decide +kernel
theorem d_Jd_asserts_208 : decode b_Jd_asserts 208 = .ok (.ireturn, 1) := by decide +kernel
theorem d_Jd_asserts_209 : decode b_Jd_asserts 209 = .ok (.aload_n 0, 1) := by decide +kernel
theorem d_Jd_asserts_210 : decode b_Jd_asserts 210 = .ok (.getfield 23, 3) := by decide +kernel
theorem d_Jd_asserts_213 : decode b_Jd_asserts 213 = .ok (.iload_n 3, 1) := by decide +kernel
theorem d_Jd_asserts_214 : decode b_Jd_asserts 214 = .ok (.aload_n 0, 1) := by decide +kernel
theorem d_Jd_asserts_215 : decode b_Jd_asserts 215 = .ok (.getfield 15, 3) := by decide +kernel
theorem d_Jd_asserts_218 : decode b_Jd_asserts 218 = .ok (.iload_n 2, 1) := by decide +kernel
theorem d_Jd_asserts_219 : decode b_Jd_asserts 219 = .ok (.invokestatic 267, 3) := by decide +kernel
theorem d_Jd_asserts_222 : decode b_Jd_asserts 222 = .ok (.ifCond .le 7, 3) := by decide +kernel
theorem d_Jd_asserts_225 : decode b_Jd_asserts 225 = .ok (.iconst 1, 1) := by decide +kernel
theorem d_Jd_asserts_226 : decode b_Jd_asserts 226 = .ok (.goto 4, 3) := by decide +kernel
theorem d_Jd_asserts_229 : decode b_Jd_asserts 229 = .ok (.iconst 0, 1) := by decide +kernel
theorem d_Jd_asserts_230 : decode b_Jd_asserts 230 = .ok (.ireturn, 1) := by decide +kernel
theorem d_Jd_asserts_231 : decode b_Jd_asserts 231 = .ok (.aload_n 0, 1) := by decide +kernel
theorem d_Jd_asserts_232 : decode b_Jd_asserts 232 = .ok (.getfield 23, 3) := by decide +kernel
theorem d_Jd_asserts_235 : decode b_Jd_asserts 235 = .ok (.iload_n 3, 1) := by decide +kernel
theorem d_Jd_asserts_236 : decode b_Jd_asserts 236 = .ok (.invokevirtual 103, 3) := by decide +kernel
theorem d_Jd_asserts_239 : decode b_Jd_asserts 239 = .ok (.aload_n 0, 1) := by decide +kernel
theorem d_Jd_asserts_240 : decode b_Jd_asserts 240 = .ok (.getfield 15, 3) := by decide +kernel
theorem d_Jd_asserts_243 : decode b_Jd_asserts 243 = .ok (.iload_n 2, 1) := by decide +kernel
theorem d_Jd_asserts_244 : decode b_Jd_asserts 244 = .ok (.invokevirtual 249, 3) := by decide +kernel
theorem d_Jd_asserts_247 : decode b_Jd_asserts 247 = .ok (.if_icmp .gt 7, 3) := by decide +kernel
theorem d_Jd_asserts_250 : decode b_Jd_asserts 250 = .ok (.iconst 1, 1) := by decide +kernel
theorem d_Jd_asserts_251 : decode b_Jd_asserts 251 = .ok (.goto 4, 3) := by decide +kernel
theorem d_Jd_asserts_254 : decode b_Jd_asserts 254 = .ok (.iconst 0, 1) := by decide +kernel
theorem d_Jd_asserts_255 : decode b_Jd_asserts 255 = .ok (.ireturn, 1) := by decide +kernel
theorem d_Jd_asserts_256 : decode b_Jd_asserts 256 = .ok (.aload_n 0, 1) := by decide +kernel
theorem d_Jd_asserts_257 : decode b_Jd_asserts 257 = .ok (.getfield 23, 3) := by decide +kernel
theorem d_Jd_asserts_260 : decode b_Jd_asserts 260 = .ok (.iload_n 3, 1) := by decide +kernel
theorem d_Jd_asserts_261 : decode b_Jd_asserts 261 = .ok (.invokevirtual 103, 3) := by decide +kernel
theorem d_Jd_asserts_264 : decode b_Jd_asserts 264 = .ok (.aload_n 0, 1) := by decide +kernel
theorem d_Jd_asserts_265 : decode b_Jd_asserts 265 = .ok (.getfield 15, 3) := by decide +kernel
theorem d_Jd_asserts_268 : decode b_Jd_asserts 268 = .ok (.iload_n 2, 1) := by decide +kernel
theorem d_Jd_asserts_269 : decode b_Jd_asserts 269 = .ok (.invokevirtual 249, 3) := by decide +kernel
theorem d_Jd_asserts_272 : decode b_Jd_asserts 272 = .ok (.if_icmp .lt 7, 3) := by decide +kernel
theorem d_Jd_asserts_275 : decode b_Jd_asserts 275 = .ok (.iconst 1, 1) := by decide +kernel
theorem d_Jd_asserts_276 : decode b_Jd_asserts 276 = .ok (.goto 4, 3) := by decide +kernel
theorem d_Jd_asserts_279 : decode b_Jd_asserts 279 = .ok (.iconst 0, 1) := by decide +kernel
theorem d_Jd_asserts_280 : decode b_Jd_asserts 280 = .ok (.ireturn, 1) := by decide +kernel
theorem d_Jd_asserts_281 : decode b_Jd_asserts 281 = .ok (.aload_n 0, 1) := by decide +kernel
theorem d_Jd_asserts_282 : decode b_Jd_asserts 282 = .ok (.getfield 26, 3) := by decide +kernel
theorem d_Jd_asserts_285 : decode b_Jd_asserts 285 = .ok (.aload_n 0, 1) := by decide +kernel
theorem d_Jd_asserts_286 : decode b_Jd_asserts 286 = .ok (.getfield 15, 3) := by decide +kernel
theorem d_Jd_asserts_289 : decode b_Jd_asserts 289 = .ok (.iload_n 2, 1) := by decide +kernel
theorem d_Jd_asserts_290 : decode b_Jd_asserts 290 = .ok (.invokevirtual 223, 3) := by decide +kernel
theorem d_Jd_asserts_293 : decode b_Jd_asserts 293 = .ok (.ifCond .eq 32, 3) := by decide +kernel
theorem d_Jd_asserts_296 : decode b_Jd_asserts 296 = .ok (.aload_n 0, 1) := by decide +kernel
theorem d_Jd_asserts_297 : decode b_Jd_asserts 297 = .ok (.getfield 26, 3) := by decide +kernel
theorem d_Jd_asserts_300 : decode b_Jd_asserts 300 = .ok (.invokevirtual 229, 3) := by decide +kernel
theorem d_Jd_asserts_303 : decode b_Jd_asserts 303 = .ok (.ifCond .eq 22, 3) := by decide +kernel
theorem d_Jd_asserts_306 : decode b_Jd_asserts 306 = .ok (.aload_n 0, 1) := by decide +kernel
theorem d_Jd_asserts_307 : decode b_Jd_asserts 307 = .ok (.getfield 30, 3) := by decide +kernel
theorem d_Jd_asserts_310 : decode b_Jd_asserts 310 = .ok (.aload_n 0, 1) := by decide +kernel
theorem d_Jd_asserts_311 : decode b_Jd_asserts 311 = .ok (.getfield 23, 3) := by decide +kernel
theorem d_Jd_asserts_314 : decode b_Jd_asserts 314 = .ok (.iload_n 3, 1) := by decide +kernel
theorem d_Jd_asserts_315 : decode b_Jd_asserts 315 = .ok (.invokevirtual 232, 3) := by decide +kernel
theorem d_Jd_asserts_318 : decode b_Jd_asserts 318 = .ok (.ifCond .eq 7, 3) := by decide +kernel
theorem d_Jd_asserts_321 : decode b_Jd_asserts 321 = .ok (.iconst 1, 1) := by decide +kernel
theorem d_Jd_asserts_322 : decode b_Jd_asserts 322 = .ok (.goto 4, 3) := by decide +kernel
theorem d_Jd_asserts_325 : decode b_Jd_asserts 325 = .ok (.iconst 0, 1) := by decide +kernel
theorem d_Jd_asserts_326 : decode b_Jd_asserts 326 = .ok (.ireturn, 1) := by decide +kernel
theorem d_Jd_asserts_327 : decode b_Jd_asserts 327 = .ok (.aload_n 0, 1) := by decide +kernel
theorem d_Jd_asserts_328 : decode b_Jd_asserts 328 = .ok (.getfield 15, 3) := by decide +kernel
theorem d_Jd_asserts_331 : decode b_Jd_asserts 331 = .ok (.iload_n 2, 1) := by decide +kernel
theorem d_Jd_asserts_332 : decode b_Jd_asserts 332 = .ok (.invokevirtual 91, 3) := by decide +kernel
theorem d_Jd_asserts_335 : decode b_Jd_asserts 335 = .ok (.iconst 1, 1) := by decide +kernel
theorem d_Jd_asserts_336 : decode b_Jd_asserts 336 = .ok (.if_icmp .eq 11, 3) := by decide +kernel
theorem d_Jd_asserts_339 : decode b_Jd_asserts 339 = .ok (.aload_n 0, 1) := by decide +kernel
theorem d_Jd_asserts_340 : decode b_Jd_asserts 340 = .ok (.iload_n 3, 1) := by decide +kernel
theorem d_Jd_asserts_341 : decode b_Jd_asserts 341 = .ok (.invokevirtual 271, 3) := by decide +kernel
theorem d_Jd_asserts_344 : decode b_Jd_asserts 344 = .ok (.ifCond .eq 7, 3) := by decide +kernel
theorem d_Jd_asserts_347 : decode b_Jd_asserts 347 = .ok (.iconst 1, 1) := by decide +kernel
theorem d_Jd_asserts_348 : decode b_Jd_asserts 348 = .ok (.goto 4, 3) := by decide +kernel
theorem d_Jd_asserts_351 : decode b_Jd_asserts 351 = .ok (.iconst 0, 1) := by decide +kernel
theorem d_Jd_asserts_352 : decode b_Jd_asserts 352 = .ok (.ireturn, 1) := by decide +kernel
theorem d_Jd_asserts_353 : decode b_Jd_asserts 353 = .ok (.aload_n 0, 1) := by decide +kernel
theorem d_Jd_asserts_354 : decode b_Jd_asserts 354 = .ok (.iload_n 2, 1) := by decide +kernel
theorem d_Jd_asserts_355 : decode b_Jd_asserts 355 = .ok (.iload_n 3, 1) := by decide +kernel
theorem d_Jd_asserts_356 : decode b_Jd_asserts 356 = .ok (.invokevirtual 274, 3) := by decide +kernel
theorem d_Jd_asserts_359 : decode b_Jd_asserts 359 = .ok (.ireturn, 1) := by decide +kernel
theorem d_Jd_asserts_360 : decode b_Jd_asserts 360 = .ok (.aload_n 0, 1) := by decide +kernel
theorem d_Jd_asserts_361 : decode b_Jd_asserts 361 = .ok (.iload_n 2, 1) := by decide +kernel
theorem d_Jd_asserts_362 : decode b_Jd_asserts 362 = .ok (.iload_n 3, 1) := by decide +kernel
theorem d_Jd_asserts_363 : decode b_Jd_asserts 363 = .ok (.invokevirtual 277, 3) := by decide +kernel
theorem d_Jd_asserts_366 : decode b_Jd_asserts 366 = .ok (.ireturn, 1) := by decide +kernel
theorem d_Jd_asserts_367 : decode b_Jd_asserts 367 = .ok (.iconst 1, 1) := by decide +kernel
theorem d_Jd_asserts_368 : decode b_Jd_asserts 368 = .ok (.ireturn, 1) := by decide +kernel
theorem d_Jd_apply_0 : decode b_Jd_apply 0 = .ok (.aload_n 0, 1) := by decide +kernel
theorem d_Jd_apply_1 : decode b_Jd_apply 1 = .ok (.getfield 44, 3) := by decide +kernel
theorem d_Jd_apply_4 : decode b_Jd_apply 4 = .ok (.invokevirtual 69, 3) := by decide +kernel
theorem d_Jd_apply_7 : decode b_Jd_apply 7 = .ok (.istore 5, 2) := by decide +kernel
theorem d_Jd_apply_9 : decode b_Jd_apply 9 = .ok (.iconst 0, 1) := by decide +kernel
theorem d_Jd_apply_10 : decode b_Jd_apply 10 = .ok (.istore 6, 2) := by decide +kernel
theorem d_Jd_apply_12 : decode b_Jd_apply 12 = .ok (.iconst 0, 1) := by decide +kernel
theorem d_Jd_apply_13 : decode b_Jd_apply 13 = .ok (.istore 7, 2) := by decide +kernel
theorem d_Jd_apply_15 : decode b_Jd_apply 15 = .ok (.aload_n 0, 1) := by decide +kernel
theorem d_Jd_apply_16 : decode b_Jd_apply 16 = .ok (.dup, 1) := by decide +kernel
theorem d_Jd_apply_17 : decode b_Jd_apply 17 = .ok (.getfield 52, 3) := by decide +kernel
theorem d_Jd_apply_20 : decode b_Jd_apply 20 = .ok (.aload_n 1, 1) := by decide +kernel
theorem d_Jd_apply_21 : decode b_Jd_apply 21 = .ok (.invokevirtual 148, 3) := by decide +kernel
theorem d_Jd_apply_24 : decode b_Jd_apply 24 = .ok (.ifCond .eq 7, 3) := by decide +kernel
theorem d_Jd_apply_27 : decode b_Jd_apply 27 = .ok (.iconst 1, 1) := by decide +kernel
theorem d_Jd_apply_28 : decode b_Jd_apply 28 = .ok (.goto 4, 3) := by decide +kernel
theorem d_Jd_apply_31 : decode b_Jd_apply 31 = .ok (.iconst 0, 1) := by decide +kernel
theorem d_Jd_apply_32 : decode b_Jd_apply 32 = .ok (.iadd, 1) := by decide +kernel
theorem d_Jd_apply_33 : decode b_Jd_apply 33 = .ok (.putfield 52, 3) := by decide +kernel
theorem d_Jd_apply_36 : decode b_Jd_apply 36 = .ok (.aload_n 0, 1) := by decide +kernel
theorem d_Jd_apply_37 : decode b_Jd_apply 37 = .ok (.getfield 19, 3) := by decide +kernel
theorem d_Jd_apply_40 : decode b_Jd_apply 40 = .ok (.aload_n 1, 1) := by decide +kernel
theorem d_Jd_apply_41 : decode b_Jd_apply 41 = .ok (.iload_n 2, 1) := by decide +kernel
theorem d_Jd_apply_42 : decode b_Jd_apply 42 = .ok (.invokevirtual 151, 3) := by decide +kernel
theorem d_Jd_apply_45 : decode b_Jd_apply 45 = .ok (.istore 8, 2) := by decide +kernel
theorem d_Jd_apply_47 : decode b_Jd_apply 47 = .ok (.aload_n 0, 1) := by decide +kernel
theorem d_Jd_apply_48 : decode b_Jd_apply 48 = .ok (.getfield 19, 3) := by decide +kernel
theorem d_Jd_apply_51 : decode b_Jd_apply 51 = .ok (.aload_n 1, 1) := by decide +kernel
theorem d_Jd_apply_52 : decode b_Jd_apply 52 = .ok (.iload_n 2, 1) := by decide +kernel
theorem d_Jd_apply_53 : decode b_Jd_apply 53 = .ok (.invokevirtual 155, 3) := by decide +kernel
theorem d_Jd_apply_56 : decode b_Jd_apply 56 = .ok (.istore 9, 2) := by decide +kernel
theorem d_Jd_apply_58 : decode b_Jd_apply 58 = .ok (.iconst 0, 1) := by decide +kernel
theorem d_Jd_apply_59 : decode b_Jd_apply 59 = .ok (.istore 10, 2) := by decide +kernel
theorem d_Jd_apply_61 : decode b_Jd_apply 61 = .ok (.iload 10, 2) := by decide +kernel
theorem d_Jd_apply_63 : decode b_Jd_apply 63 = .ok (.iload 8, 2) := by decide +kernel
theorem d_Jd_apply_65 : decode b_Jd_apply 65 = .ok (.if_icmp .ge 200, 3) := by decide +kernel
theorem d_Jd_apply_68 : decode b_Jd_apply 68 = .ok (.aload_n 0, 1) := by decide +kernel
theorem d_Jd_apply_69 : decode b_Jd_apply 69 = .ok (.getfield 56, 3) := by decide +kernel
theorem d_Jd_apply_72 : decode b_Jd_apply 72 = .ok (.ifCond .ne 193, 3) := by decide +kernel
theorem d_Jd_apply_75 : decode b_Jd_apply 75 = .ok (.aload_n 0, 1) := by decide +kernel
theorem d_Jd_apply_76 : decode b_Jd_apply 76 = .ok (.aload_n 1, 1) := by decide +kernel
theorem d_Jd_apply_77 : decode b_Jd_apply 77 = .ok (.iload_n 2, 1) := by decide +kernel
theorem d_Jd_apply_78 : decode b_Jd_apply 78 = .ok (.iload 9, 2) := by decide +kernel
theorem d_Jd_apply_80 : decode b_Jd_apply 80 = .ok (.iload_n 3, 1) := by decide +kernel
theorem d_Jd_apply_81 : decode b_Jd_apply 81 = .ok (.iload 4, 2) := by decide +kernel
theorem d_Jd_apply_83 : decode b_Jd_apply 83 = .ok (.invokevirtual 158, 3) := by decide +kernel
theorem d_Jd_apply_86 : decode b_Jd_apply 86 = .ok (.lstore 11, 2) := by decide +kernel
theorem d_Jd_apply_88 : decode b_Jd_apply 88 = .ok (.aload_n 0, 1) := by decide +kernel
theorem d_Jd_apply_89 : decode b_Jd_apply 89 = .ok (.aload_n 1, 1) := by decide +kernel
theorem d_Jd_apply_90 : decode b_Jd_apply 90 = .ok (.iload 9, 2) := by decide +kernel
theorem d_Jd_apply_92 : decode b_Jd_apply 92 = .ok (.iload_n 3, 1) := by decide +kernel
theorem d_Jd_apply_93 : decode b_Jd_apply 93 = .ok (.invokevirtual 162, 3) := by decide +kernel
theorem d_Jd_apply_96 : decode b_Jd_apply 96 = .ok (.istore 13, 2) := by decide +kernel
theorem d_Jd_apply_98 : decode b_Jd_apply 98 = .ok (.aload_n 1, 1) := by decide +kernel
theorem d_Jd_apply_99 : decode b_Jd_apply 99 = .ok (.getfield 138, 3) := by decide +kernel
theorem d_Jd_apply_102 : decode b_Jd_apply 102 = .ok (.iconst 4, 1) := by decide +kernel
theorem d_Jd_apply_103 : decode b_Jd_apply 103 = .ok (.if_icmp .ne 14, 3) := by decide +kernel
theorem d_Jd_apply_106 : decode b_Jd_apply 106 = .ok (.aload_n 0, 1) := by decide +kernel
theorem d_Jd_apply_107 : decode b_Jd_apply 107 = .ok (.getfield 23, 3) := by decide +kernel
theorem d_Jd_apply_110 : decode b_Jd_apply 110 = .ok (.iload_n 3, 1) := by decide +kernel
theorem d_Jd_apply_111 : decode b_Jd_apply 111 = .ok (.invokevirtual 103, 3) := by decide +kernel
theorem d_Jd_apply_114 : decode b_Jd_apply 114 = .ok (.goto 4, 3) := by decide +kernel
theorem d_Jd_apply_117 : decode b_Jd_apply 117 = .ok (.iconst 1, 1) := by decide +kernel
theorem d_Jd_apply_118 : decode b_Jd_apply 118 = .ok (.istore 14, 2) := by decide +kernel
theorem d_Jd_apply_120 : decode b_Jd_apply 120 = .ok (.iconst 0, 1) := by decide +kernel
theorem d_Jd_apply_121 : decode b_Jd_apply 121 = .ok (.istore 15, 2) := by decide +kernel
theorem d_Jd_apply_123 : decode b_Jd_apply 123 = .ok (.iload 15, 2) := by decide +kernel
theorem d_Jd_apply_125 : decode b_Jd_apply 125 = .ok (.iload 14, 2) := by decide +kernel
theorem d_Jd_apply_127 : decode b_Jd_apply 127 = .ok (.if_icmp .ge 121, 3) := by decide +kernel
theorem d_Jd_apply_130 : decode b_Jd_apply 130 = .ok (.iload 13, 2) := by decide +kernel
theorem d_Jd_apply_132 : decode b_Jd_apply 132 = .ok (.iconst (-1), 1) := by decide +kernel
theorem d_Jd_apply_133 : decode b_Jd_apply 133 = .ok (.if_icmp .eq 115, 3) := by decide +kernel
theorem d_Jd_apply_136 : decode b_Jd_apply 136 = .ok (.aload_n 0, 1) := by decide +kernel
theorem d_Jd_apply_137 : decode b_Jd_apply 137 = .ok (.getfield 56, 3) := by decide +kernel
theorem d_Jd_apply_140 : decode b_Jd_apply 140 = .ok (.ifCond .ne 108, 3) := by decide +kernel
theorem d_Jd_apply_143 : decode b_Jd_apply 143 = .ok (.lload 11, 2) := by decide +kernel
theorem d_Jd_apply_145 : decode b_Jd_apply 145 = .ok (.iload 15, 2) := by decide +kernel
theorem d_Jd_apply_147 : decode b_Jd_apply 147 = .ok (.lshr, 1) := by decide +kernel
theorem d_Jd_apply_148 : decode b_Jd_apply 148 = .ok (.lconst 1, 1) := by decide +kernel
theorem d_Jd_apply_149 : decode b_Jd_apply 149 = .ok (.land, 1) := by decide +kernel
theorem d_Jd_apply_150 : decode b_Jd_apply 150 = .ok (.lconst 0, 1) := by decide +kernel
theorem d_Jd_apply_151 : decode b_Jd_apply 151 = .ok (.lcmp, 1) := by decide +kernel
theorem d_Jd_apply_152 : decode b_Jd_apply 152 = .ok (.ifCond .ne 79, 3) := by decide +kernel
theorem d_Jd_apply_155 : decode b_Jd_apply 155 = .ok (.aload_n 0, 1) := by decide +kernel
theorem d_Jd_apply_156 : decode b_Jd_apply 156 = .ok (.iload 9, 2) := by decide +kernel
theorem d_Jd_apply_158 : decode b_Jd_apply 158 = .ok (.aload_n 1, 1) := by decide +kernel
theorem d_Jd_apply_159 : decode b_Jd_apply 159 = .ok (.getstatic 166, 3) := by decide +kernel
theorem d_Jd_apply_162 : decode b_Jd_apply 162 = .ok (.if_acmp .ne 10, 3) := by decide +kernel
theorem d_Jd_apply_165 : decode b_Jd_apply 165 = .ok (.iload 13, 2) := by decide +kernel
theorem d_Jd_apply_167 : decode b_Jd_apply 167 = .ok (.iconst 1, 1) := by decide +kernel
theorem d_Jd_apply_168 : decode b_Jd_apply 168 = .ok (.isub, 1) := by decide +kernel
theorem d_Jd_apply_169 : decode b_Jd_apply 169 = .ok (.goto 5, 3) := by decide +kernel
theorem d_Jd_apply_172 : decode b_Jd_apply 172 = .ok (.iload 13, 2) := by decide +kernel
theorem d_Jd_apply_174 : decode b_Jd_apply 174 = .ok (.iload 4, 2) := by decide +kernel
theorem d_Jd_apply_176 : decode b_Jd_apply 176 = .ok (.iconst 1, 1) := by decide +kernel
theorem d_Jd_apply_177 : decode b_Jd_apply 177 = .ok (.iadd, 1) := by decide +kernel
theorem d_Jd_apply_178 : decode b_Jd_apply 178 = .ok (.invokevirtual 169, 3) := by decide +kernel
theorem d_Jd_apply_181 : decode b_Jd_apply 181 = .ok (.istore 16, 2) := by decide +kernel
theorem d_Jd_apply_183 : decode b_Jd_apply 183 = .ok (.iload 6, 2) := by decide +kernel
theorem d_Jd_apply_185 : decode b_Jd_apply 185 = .ok (.iload 16, 2) := by decide +kernel
theorem d_Jd_apply_187 : decode b_Jd_apply 187 = .ok (.ifCond .eq 7, 3) := by decide +kernel
theorem d_Jd_apply_190 : decode b_Jd_apply 190 = .ok (.iconst 1, 1) := by decide +kernel
theorem d_Jd_apply_191 : decode b_Jd_apply 191 = .ok (.goto 4, 3) := by decide +kernel
theorem d_Jd_apply_194 : decode b_Jd_apply 194 = .ok (.iconst 0, 1) := by decide +kernel
theorem d_Jd_apply_195 : decode b_Jd_apply 195 = .ok (.iadd, 1) := by decide +kernel
theorem d_Jd_apply_196 : decode b_Jd_apply 196 = .ok (.istore 6, 2) := by decide +kernel
theorem d_Jd_apply_198 : decode b_Jd_apply 198 = .ok (.iload 7, 2) := by decide +kernel
theorem d_Jd_apply_200 : decode b_Jd_apply 200 = .ok (.iload 16, 2) := by decide +kernel
theorem d_Jd_apply_202 : decode b_Jd_apply 202 = .ok (.ifCond .eq 7, 3) := by decide +kernel
theorem d_Jd_apply_205 : decode b_Jd_apply 205 = .ok (.iconst 0, 1) := by decide +kernel
theorem d_Jd_apply_206 : decode b_Jd_apply 206 = .ok (.goto 4, 3) := by decide +kernel
theorem d_Jd_apply_209 : decode b_Jd_apply 209 = .ok (.iconst 1, 1) := by decide +kernel
theorem d_Jd_apply_210 : decode b_Jd_apply 210 = .ok (.iadd, 1) := by decide +kernel
theorem d_Jd_apply_211 : decode b_Jd_apply 211 = .ok (.istore 7, 2) := by decide +kernel
theorem d_Jd_apply_213 : decode b_Jd_apply 213 = .ok (.aload_n 0, 1) := by decide +kernel
theorem d_Jd_apply_214 : decode b_Jd_apply 214 = .ok (.aload_n 1, 1) := by decide +kernel
theorem d_Jd_apply_215 : decode b_Jd_apply 215 = .ok (.iload 16, 2) := by decide +kernel
theorem d_Jd_apply_217 : decode b_Jd_apply 217 = .ok (.aload_n 0, 1) := by decide +kernel
theorem d_Jd_apply_218 : decode b_Jd_apply 218 = .ok (.getfield 23, 3) := by decide +kernel
theorem d_Jd_apply_221 : decode b_Jd_apply 221 = .ok (.iload 13, 2) := by decide +kernel
theorem d_Jd_apply_223 : decode b_Jd_apply 223 = .ok (.invokevirtual 173, 3) := by decide +kernel
theorem d_Jd_apply_226 : decode b_Jd_apply 226 = .ok (.iload 4, 2) := by decide +kernel
theorem d_Jd_apply_228 : decode b_Jd_apply 228 = .ok (.invokevirtual 176, 3) := by decide +kernel
theorem d_Jd_apply_231 : decode b_Jd_apply 231 = .ok (.aload_n 0, 1) := by decide +kernel
theorem d_Jd_apply_232 : decode b_Jd_apply 232 = .ok (.getfield 23, 3) := by decide +kernel
theorem d_Jd_apply_235 : decode b_Jd_apply 235 = .ok (.iload 13, 2) := by decide +kernel
theorem d_Jd_apply_237 : decode b_Jd_apply 237 = .ok (.invokevirtual 111, 3) := by decide +kernel
theorem d_Jd_apply_240 : decode b_Jd_apply 240 = .ok (.istore 13, 2) := by decide +kernel
theorem d_Jd_apply_242 : decode b_Jd_apply 242 = .ok (.iinc 15 1, 3) := by decide +kernel
theorem d_Jd_apply_245 : decode b_Jd_apply 245 = .ok (.goto (-122), 3) := by decide +kernel
theorem d_Jd_apply_248 : decode b_Jd_apply 248 = .ok (.aload_n 0, 1) := by decide +kernel
theorem d_Jd_apply_249 : decode b_Jd_apply 249 = .ok (.getfield 15, 3) := by decide +kernel
theorem d_Jd_apply_252 : decode b_Jd_apply 252 = .ok (.iload 9, 2) := by decide +kernel
theorem d_Jd_apply_254 : decode b_Jd_apply 254 = .ok (.invokevirtual 111, 3) := by decide +kernel
theorem d_Jd_apply_257 : decode b_Jd_apply 257 = .ok (.istore 9, 2) := by decide +kernel
theorem d_Jd_apply_259 : decode b_Jd_apply 259 = .ok (.iinc 10 1, 3) := by decide +kernel
theorem d_Jd_apply_262 : decode b_Jd_apply 262 = .ok (.goto (-201), 3) := by decide +kernel
theorem d_Jd_apply_265 : decode b_Jd_apply 265 = .ok (.aload_n 0, 1) := by decide +kernel
theorem d_Jd_apply_266 : decode b_Jd_apply 266 = .ok (.dup, 1) := by decide +kernel
theorem d_Jd_apply_267 : decode b_Jd_apply 267 = .ok (.getfield 52, 3) := by decide +kernel
theorem d_Jd_apply_270 : decode b_Jd_apply 270 = .ok (.aload_n 1, 1) := by decide +kernel
theorem d_Jd_apply_271 : decode b_Jd_apply 271 = .ok (.invokevirtual 148, 3) := by decide +kernel
theorem d_Jd_apply_274 : decode b_Jd_apply 274 = .ok (.ifCond .eq 7, 3) := by decide +kernel
theorem d_Jd_apply_277 : decode b_Jd_apply 277 = .ok (.iconst 1, 1) := by decide +kernel
theorem d_Jd_apply_278 : decode b_Jd_apply 278 = .ok (.goto 4, 3) := by decide +kernel
theorem d_Jd_apply_281 : decode b_Jd_apply 281 = .ok (.iconst 0, 1) := by decide +kernel
theorem d_Jd_apply_282 : decode b_Jd_apply 282 = .ok (.isub, 1) := by decide +kernel
theorem d_Jd_apply_283 : decode b_Jd_apply 283 = .ok (.putfield 52, 3) := by decide +kernel
theorem d_Jd_apply_286 : decode b_Jd_apply 286 = .ok (.aload_n 0, 1) := by decide +kernel
theorem d_Jd_apply_287 : decode b_Jd_apply 287 = .ok (.aload_n 1, 1) := by decide +kernel
theorem d_Jd_apply_288 : decode b_Jd_apply 288 = .ok (.iload_n 2, 1) := by decide +kernel
theorem d_Jd_apply_289 : decode b_Jd_apply 289 = .ok (.iload 6, 2) := by decide +kernel
theorem d_Jd_apply_291 : decode b_Jd_apply 291 = .ok (.iload 7, 2) := by decide +kernel
theorem d_Jd_apply_293 : decode b_Jd_apply 293 = .ok (.invokevirtual 180, 3) := by decide +kernel
theorem d_Jd_apply_296 : decode b_Jd_apply 296 = .ok (.istore 10, 2) := by decide +kernel
theorem d_Jd_apply_298 : decode b_Jd_apply 298 = .ok (.iload 10, 2) := by decide +kernel
theorem d_Jd_apply_300 : decode b_Jd_apply 300 = .ok (.ifCond .eq 19, 3) := by decide +kernel
theorem d_Jd_apply_303 : decode b_Jd_apply 303 = .ok (.aload_n 1, 1) := by decide +kernel
theorem d_Jd_apply_304 : decode b_Jd_apply 304 = .ok (.invokevirtual 183, 3) := by decide +kernel
theorem d_Jd_apply_307 : decode b_Jd_apply 307 = .ok (.ifCond .eq 12, 3) := by decide +kernel
theorem d_Jd_apply_310 : decode b_Jd_apply 310 = .ok (.aload_n 0, 1) := by decide +kernel
theorem d_Jd_apply_311 : decode b_Jd_apply 311 = .ok (.getfield 44, 3) := by decide +kernel
theorem d_Jd_apply_314 : decode b_Jd_apply 314 = .ok (.iload 5, 2) := by decide +kernel
theorem d_Jd_apply_316 : decode b_Jd_apply 316 = .ok (.invokevirtual 48, 3) := by decide +kernel
theorem d_Jd_apply_319 : decode b_Jd_apply 319 = .ok (.iload 10, 2) := by decide +kernel
theorem d_Jd_apply_321 : decode b_Jd_apply 321 = .ok (.ireturn, 1) := by decide +kernel
theorem d_Jd_evaluate_0 : decode b_Jd_evaluate 0 = .ok (.aload_n 0, 1) := by decide +kernel
theorem d_Jd_evaluate_1 : decode b_Jd_evaluate 1 = .ok (.iload_n 3, 1) := by decide +kernel
theorem d_Jd_evaluate_2 : decode b_Jd_evaluate 2 = .ok (.invokevirtual 87, 3) := by decide +kernel
theorem d_Jd_evaluate_5 : decode b_Jd_evaluate 5 = .ok (.ifCond .ne 5, 3) := by decide +kernel
theorem d_Jd_evaluate_8 : decode b_Jd_evaluate 8 = .ok (.iconst 0, 1) := by decide +kernel
theorem d_Jd_evaluate_9 : decode b_Jd_evaluate 9 = .ok (.ireturn, 1) := by decide +kernel
theorem d_Jd_evaluate_10 : decode b_Jd_evaluate 10 = .ok (.aload_n 0, 1) := by decide +kernel
theorem d_Jd_evaluate_11 : decode b_Jd_evaluate 11 = .ok (.getfield 15, 3) := by decide +kernel
theorem d_Jd_evaluate_14 : decode b_Jd_evaluate 14 = .ok (.iload_n 1, 1) := by decide +kernel
theorem d_Jd_evaluate_15 : decode b_Jd_evaluate 15 = .ok (.invokevirtual 91, 3) := by decide +kernel
theorem d_Jd_evaluate_18 : decode b_Jd_evaluate 18 = .ok (.iconst 1, 1) := by decide +kernel
theorem d_Jd_evaluate_19 : decode b_Jd_evaluate 19 = .ok (.if_icmp .ne 11, 3) := by decide +kernel
theorem d_Jd_evaluate_22 : decode b_Jd_evaluate 22 = .ok (.aload_n 0, 1) := by decide +kernel
theorem d_Jd_evaluate_23 : decode b_Jd_evaluate 23 = .ok (.iload_n 2, 1) := by decide +kernel
theorem d_Jd_evaluate_24 : decode b_Jd_evaluate 24 = .ok (.iload_n 1, 1) := by decide +kernel
theorem d_Jd_evaluate_25 : decode b_Jd_evaluate 25 = .ok (.invokevirtual 97, 3) := by decide +kernel
theorem d_Jd_evaluate_28 : decode b_Jd_evaluate 28 = .ok (.iconst 0, 1) := by decide +kernel
theorem d_Jd_evaluate_29 : decode b_Jd_evaluate 29 = .ok (.ireturn, 1) := by decide +kernel
theorem d_Jd_evaluate_30 : decode b_Jd_evaluate 30 = .ok (.iconst 1, 1) := by decide +kernel
theorem d_Jd_evaluate_31 : decode b_Jd_evaluate 31 = .ok (.istore 4, 2) := by decide +kernel
theorem d_Jd_evaluate_33 : decode b_Jd_evaluate 33 = .ok (.iconst 0, 1) := by decide +kernel
theorem d_Jd_evaluate_34 : decode b_Jd_evaluate 34 = .ok (.istore 5, 2) := by decide +kernel
theorem d_Jd_evaluate_36 : decode b_Jd_evaluate 36 = .ok (.iload 5, 2) := by decide +kernel
theorem d_Jd_evaluate_38 : decode b_Jd_evaluate 38 = .ok (.iconst 2, 1) := by decide +kernel
theorem d_Jd_evaluate_39 : decode b_Jd_evaluate 39 = .ok (.if_icmp .ge 242, 3) := by decide +kernel
theorem d_Jd_evaluate_42 : decode b_Jd_evaluate 42 = .ok (.aload_n 0, 1) := by decide +kernel
theorem d_Jd_evaluate_43 : decode b_Jd_evaluate 43 = .ok (.getfield 15, 3) := by decide +kernel
theorem d_Jd_evaluate_46 : decode b_Jd_evaluate 46 = .ok (.iload_n 1, 1) := by decide +kernel
theorem d_Jd_evaluate_47 : decode b_Jd_evaluate 47 = .ok (.invokevirtual 100, 3) := by decide +kernel
theorem d_Jd_evaluate_50 : decode b_Jd_evaluate 50 = .ok (.istore 6, 2) := by decide +kernel
theorem d_Jd_evaluate_52 : decode b_Jd_evaluate 52 = .ok (.iconst 0, 1) := by decide +kernel
theorem d_Jd_evaluate_53 : decode b_Jd_evaluate 53 = .ok (.istore 7, 2) := by decide +kernel
theorem d_Jd_evaluate_55 : decode b_Jd_evaluate 55 = .ok (.iload 7, 2) := by decide +kernel
theorem d_Jd_evaluate_57 : decode b_Jd_evaluate 57 = .ok (.aload_n 0, 1) := by decide +kernel
theorem d_Jd_evaluate_58 : decode b_Jd_evaluate 58 = .ok (.getfield 15, 3) := by decide +kernel
theorem d_Jd_evaluate_61 : decode b_Jd_evaluate 61 = .ok (.iload_n 1, 1) := by decide +kernel
theorem d_Jd_evaluate_62 : decode b_Jd_evaluate 62 = .ok (.invokevirtual 103, 3) := by decide +kernel
theorem d_Jd_evaluate_65 : decode b_Jd_evaluate 65 = .ok (.if_icmp .ge 210, 3) := by decide +kernel
theorem d_Jd_evaluate_68 : decode b_Jd_evaluate 68 = .ok (.aload_n 0, 1) := by decide +kernel
theorem d_Jd_evaluate_69 : decode b_Jd_evaluate 69 = .ok (.getfield 56, 3) := by decide +kernel
theorem d_Jd_evaluate_72 : decode b_Jd_evaluate 72 = .ok (.ifCond .ne 203, 3) := by decide +kernel
theorem d_Jd_evaluate_75 : decode b_Jd_evaluate 75 = .ok (.iload 6, 2) := by decide +kernel
theorem d_Jd_evaluate_77 : decode b_Jd_evaluate 77 = .ok (.istore 8, 2) := by decide +kernel
theorem d_Jd_evaluate_79 : decode b_Jd_evaluate 79 = .ok (.aload_n 0, 1) := by decide +kernel
theorem d_Jd_evaluate_80 : decode b_Jd_evaluate 80 = .ok (.getfield 19, 3) := by decide +kernel
theorem d_Jd_evaluate_83 : decode b_Jd_evaluate 83 = .ok (.iload 6, 2) := by decide +kernel
theorem d_Jd_evaluate_85 : decode b_Jd_evaluate 85 = .ok (.invokevirtual 105, 3) := by decide +kernel
theorem d_Jd_evaluate_88 : decode b_Jd_evaluate 88 = .ok (.astore 9, 2) := by decide +kernel
theorem d_Jd_evaluate_90 : decode b_Jd_evaluate 90 = .ok (.aload_n 0, 1) := by decide +kernel
theorem d_Jd_evaluate_91 : decode b_Jd_evaluate 91 = .ok (.getfield 15, 3) := by decide +kernel
theorem d_Jd_evaluate_94 : decode b_Jd_evaluate 94 = .ok (.iload 6, 2) := by decide +kernel
theorem d_Jd_evaluate_96 : decode b_Jd_evaluate 96 = .ok (.invokevirtual 111, 3) := by decide +kernel
theorem d_Jd_evaluate_99 : decode b_Jd_evaluate 99 = .ok (.istore 6, 2) := by decide +kernel
theorem d_Jd_evaluate_101 : decode b_Jd_evaluate 101 = .ok (.aload 9, 2) := by decide +kernel
theorem d_Jd_evaluate_103 : decode b_Jd_evaluate 103 = .ok (.invokevirtual 114, 3) := by decide +kernel
theorem d_Jd_evaluate_106 : decode b_Jd_evaluate 106 = .ok (.iload 5, 2) := by decide +kernel
theorem d_Jd_evaluate_108 : decode b_Jd_evaluate 108 = .ok (.iconst 1, 1) := by decide +kernel
theorem d_Jd_evaluate_109 : decode b_Jd_evaluate 109 = .ok (.if_icmp .ne 7, 3) := by decide +kernel
theorem d_Jd_evaluate_112 : decode b_Jd_evaluate 112 = .ok (.iconst 1, 1) := by decide +kernel
theorem d_Jd_evaluate_113 : decode b_Jd_evaluate 113 = .ok (.goto 4, 3) := by decide +kernel
theorem d_Jd_evaluate_116 : decode b_Jd_evaluate 116 = .ok (.iconst 0, 1) := by decide +kernel
theorem d_Jd_evaluate_117 : decode b_Jd_evaluate 117 = .ok (.if_icmp .ne 152, 3) := by decide +kernel
theorem d_Jd_evaluate_120 : decode b_Jd_evaluate 120 = .ok (.aload 9, 2) := by decide +kernel
theorem d_Jd_evaluate_122 : decode b_Jd_evaluate 122 = .ok (.getstatic 120, 3) := by decide +kernel
theorem d_Jd_evaluate_125 : decode b_Jd_evaluate 125 = .ok (.if_acmp .eq 144, 3) := by decide +kernel
theorem d_Jd_evaluate_128 : decode b_Jd_evaluate 128 = .ok (.aload 9, 2) := by decide +kernel
theorem d_Jd_evaluate_130 : decode b_Jd_evaluate 130 = .ok (.getstatic 124, 3) := by decide +kernel
theorem d_Jd_evaluate_133 : decode b_Jd_evaluate 133 = .ok (.if_acmp .ne 6, 3) := by decide +kernel
theorem d_Jd_evaluate_136 : decode b_Jd_evaluate 136 = .ok (.goto 133, 3) := by decide +kernel
theorem d_Jd_evaluate_139 : decode b_Jd_evaluate 139 = .ok (.aload 9, 2) := by decide +kernel
theorem d_Jd_evaluate_141 : decode b_Jd_evaluate 141 = .ok (.getstatic 127, 3) := by decide +kernel
theorem d_Jd_evaluate_144 : decode b_Jd_evaluate 144 = .ok (.if_acmp .ne 50, 3) := by decide +kernel
theorem d_Jd_evaluate_147 : decode b_Jd_evaluate 147 = .ok (.aload_n 0, 1) := by decide +kernel
theorem d_Jd_evaluate_148 : decode b_Jd_evaluate 148 = .ok (.aload 9, 2) := by decide +kernel
theorem d_Jd_evaluate_150 : decode b_Jd_evaluate 150 = .ok (.iload 8, 2) := by decide +kernel
theorem d_Jd_evaluate_152 : decode b_Jd_evaluate 152 = .ok (.iload_n 2, 1) := by decide +kernel
theorem d_Jd_evaluate_153 : decode b_Jd_evaluate 153 = .ok (.iload_n 3, 1) := by decide +kernel
theorem d_Jd_evaluate_154 : decode b_Jd_evaluate 154 = .ok (.invokevirtual 130, 3) := by decide +kernel
theorem d_Jd_evaluate_157 : decode b_Jd_evaluate 157 = .ok (.istore 10, 2) := by decide +kernel
theorem d_Jd_evaluate_159 : decode b_Jd_evaluate 159 = .ok (.aload_n 0, 1) := by decide +kernel
theorem d_Jd_evaluate_160 : decode b_Jd_evaluate 160 = .ok (.getfield 19, 3) := by decide +kernel
theorem d_Jd_evaluate_163 : decode b_Jd_evaluate 163 = .ok (.iload_n 1, 1) := by decide +kernel
theorem d_Jd_evaluate_164 : decode b_Jd_evaluate 164 = .ok (.iload 10, 2) := by decide +kernel
theorem d_Jd_evaluate_166 : decode b_Jd_evaluate 166 = .ok (.ifCond .eq 9, 3) := by decide +kernel
theorem d_Jd_evaluate_169 : decode b_Jd_evaluate 169 = .ok (.getstatic 120, 3) := by decide +kernel
theorem d_Jd_evaluate_172 : decode b_Jd_evaluate 172 = .ok (.goto 6, 3) := by decide +kernel
theorem d_Jd_evaluate_175 : decode b_Jd_evaluate 175 = .ok (.getstatic 124, 3) := by decide +kernel
theorem d_Jd_evaluate_178 : decode b_Jd_evaluate 178 = .ok (.invokevirtual 134, 3) := by decide +kernel
theorem d_Jd_evaluate_181 : decode b_Jd_evaluate 181 = .ok (.istore 8, 2) := by decide +kernel
theorem d_Jd_evaluate_183 : decode b_Jd_evaluate 183 = .ok (.aload_n 0, 1) := by decide +kernel
theorem d_Jd_evaluate_184 : decode b_Jd_evaluate 184 = .ok (.getfield 19, 3) := by decide +kernel
theorem d_Jd_evaluate_187 : decode b_Jd_evaluate 187 = .ok (.iload 8, 2) := by decide +kernel
theorem d_Jd_evaluate_189 : decode b_Jd_evaluate 189 = .ok (.invokevirtual 105, 3) := by decide +kernel
theorem d_Jd_evaluate_192 : decode b_Jd_evaluate 192 = .ok (.astore 9, 2) := by decide +kernel
theorem d_Jd_evaluate_194 : decode b_Jd_evaluate 194 = .ok (.aload 9, 2) := by decide +kernel
theorem d_Jd_evaluate_196 : decode b_Jd_evaluate 196 = .ok (.getfield 138, 3) := by decide +kernel
theorem d_Jd_evaluate_199 : decode b_Jd_evaluate 199 = .ok (.ifCond .eq 70, 3) := by decide +kernel
theorem d_Jd_evaluate_202 : decode b_Jd_evaluate 202 = .ok (.aload 9, 2) := by decide +kernel
theorem d_Jd_evaluate_204 : decode b_Jd_evaluate 204 = .ok (.aload_n 0, 1) := by decide +kernel
theorem d_Jd_evaluate_205 : decode b_Jd_evaluate 205 = .ok (.getfield 23, 3) := by decide +kernel
theorem d_Jd_evaluate_208 : decode b_Jd_evaluate 208 = .ok (.iload_n 2, 1) := by decide +kernel
theorem d_Jd_evaluate_209 : decode b_Jd_evaluate 209 = .ok (.invokevirtual 91, 3) := by decide +kernel
theorem d_Jd_evaluate_212 : decode b_Jd_evaluate 212 = .ok (.invokevirtual 141, 3) := by decide +kernel
theorem d_Jd_evaluate_215 : decode b_Jd_evaluate 215 = .ok (.ifCond .ne 6, 3) := by decide +kernel
theorem d_Jd_evaluate_218 : decode b_Jd_evaluate 218 = .ok (.goto 51, 3) := by decide +kernel
theorem d_Jd_evaluate_221 : decode b_Jd_evaluate 221 = .ok (.aload 9, 2) := by decide +kernel
theorem d_Jd_evaluate_223 : decode b_Jd_evaluate 223 = .ok (.getfield 138, 3) := by decide +kernel
theorem d_Jd_evaluate_226 : decode b_Jd_evaluate 226 = .ok (.iconst 1, 1) := by decide +kernel
theorem d_Jd_evaluate_227 : decode b_Jd_evaluate 227 = .ok (.if_icmp .ne 15, 3) := by decide +kernel
theorem d_Jd_evaluate_230 : decode b_Jd_evaluate 230 = .ok (.aload_n 0, 1) := by decide +kernel
theorem d_Jd_evaluate_231 : decode b_Jd_evaluate 231 = .ok (.aload 9, 2) := by decide +kernel
theorem d_Jd_evaluate_233 : decode b_Jd_evaluate 233 = .ok (.iload 8, 2) := by decide +kernel
theorem d_Jd_evaluate_235 : decode b_Jd_evaluate 235 = .ok (.iload_n 2, 1) := by decide +kernel
theorem d_Jd_evaluate_236 : decode b_Jd_evaluate 236 = .ok (.invokevirtual 144, 3) := by decide +kernel
theorem d_Jd_evaluate_239 : decode b_Jd_evaluate 239 = .ok (.goto 13, 3) := by decide +kernel
theorem d_Jd_evaluate_242 : decode b_Jd_evaluate 242 = .ok (.aload_n 0, 1) := by decide +kernel
theorem d_Jd_evaluate_243 : decode b_Jd_evaluate 243 = .ok (.aload 9, 2) := by decide +kernel
theorem d_Jd_evaluate_245 : decode b_Jd_evaluate 245 = .ok (.iload 8, 2) := by decide +kernel
theorem d_Jd_evaluate_247 : decode b_Jd_evaluate 247 = .ok (.iload_n 2, 1) := by decide +kernel
theorem d_Jd_evaluate_248 : decode b_Jd_evaluate 248 = .ok (.iload_n 3, 1) := by decide +kernel
theorem d_Jd_evaluate_249 : decode b_Jd_evaluate 249 = .ok (.invokevirtual 130, 3) := by decide +kernel
theorem d_Jd_evaluate_252 : decode b_Jd_evaluate 252 = .ok (.istore 10, 2) := by decide +kernel
theorem d_Jd_evaluate_254 : decode b_Jd_evaluate 254 = .ok (.iload 10, 2) := by decide +kernel
theorem d_Jd_evaluate_256 : decode b_Jd_evaluate 256 = .ok (.ifCond .ne 13, 3) := by decide +kernel
theorem d_Jd_evaluate_259 : decode b_Jd_evaluate 259 = .ok (.aload_n 0, 1) := by decide +kernel
theorem d_Jd_evaluate_260 : decode b_Jd_evaluate 260 = .ok (.iload_n 2, 1) := by decide +kernel
theorem d_Jd_evaluate_261 : decode b_Jd_evaluate 261 = .ok (.iload 8, 2) := by decide +kernel
theorem d_Jd_evaluate_263 : decode b_Jd_evaluate 263 = .ok (.invokevirtual 97, 3) := by decide +kernel
theorem d_Jd_evaluate_266 : decode b_Jd_evaluate 266 = .ok (.iconst 0, 1) := by decide +kernel
theorem d_Jd_evaluate_267 : decode b_Jd_evaluate 267 = .ok (.istore 4, 2) := by decide +kernel
theorem d_Jd_evaluate_269 : decode b_Jd_evaluate 269 = .ok (.iinc 7 1, 3) := by decide +kernel
theorem d_Jd_evaluate_272 : decode b_Jd_evaluate 272 = .ok (.goto (-217), 3) := by decide +kernel
theorem d_Jd_evaluate_275 : decode b_Jd_evaluate 275 = .ok (.iinc 5 1, 3) := by decide +kernel
theorem d_Jd_evaluate_278 : decode b_Jd_evaluate 278 = .ok (.goto (-242), 3) := by decide +kernel
theorem d_Jd_evaluate_281 : decode b_Jd_evaluate 281 = .ok (.iload 4, 2) := by decide +kernel
theorem d_Jd_evaluate_283 : decode b_Jd_evaluate 283 = .ok (.ireturn, 1) := by decide +kernel
theorem d_Pr_sort_0 : decode b_Pr_sort 0 = .ok (.iconst 1, 1) := by decide +kernel
theorem d_Pr_sort_1 : decode b_Pr_sort 1 = .ok (.istore_n 1, 1) := by decide +kernel
theorem d_Pr_sort_2 : decode b_Pr_sort 2 = .ok (.iload_n 1, 1) := by decide +kernel
theorem d_Pr_sort_3 : decode b_Pr_sort 3 = .ok (.aload_n 0, 1) := by decide +kernel
theorem d_Pr_sort_4 : decode b_Pr_sort 4 = .ok (.getfield 18, 3) := by decide +kernel
theorem d_Pr_sort_7 : decode b_Pr_sort 7 = .ok (.if_icmp .ge 124, 3) := by decide +kernel
theorem d_Pr_sort_10 : decode b_Pr_sort 10 = .ok (.aload_n 0, 1) := by decide +kernel
theorem d_Pr_sort_11 : decode b_Pr_sort 11 = .ok (.getfield 9, 3) := by decide +kernel
theorem d_Pr_sort_14 : decode b_Pr_sort 14 = .ok (.iload_n 1, 1) := by decide +kernel
theorem d_Pr_sort_15 : decode b_Pr_sort 15 = .ok (.iaload, 1) := by decide +kernel
theorem d_Pr_sort_16 : decode b_Pr_sort 16 = .ok (.istore_n 2, 1) := by decide +kernel
theorem d_Pr_sort_17 : decode b_Pr_sort 17 = .ok (.aload_n 0, 1) := by decide +kernel
theorem d_Pr_sort_18 : decode b_Pr_sort 18 = .ok (.getfield 15, 3) := by decide +kernel
theorem d_Pr_sort_21 : decode b_Pr_sort 21 = .ok (.iload_n 1, 1) := by decide +kernel
theorem d_Pr_sort_22 : decode b_Pr_sort 22 = .ok (.iaload, 1) := by decide +kernel
theorem d_Pr_sort_23 : decode b_Pr_sort 23 = .ok (.istore_n 3, 1) := by decide +kernel
theorem d_Pr_sort_24 : decode b_Pr_sort 24 = .ok (.iload_n 1, 1) := by decide +kernel
theorem d_Pr_sort_25 : decode b_Pr_sort 25 = .ok (.istore 4, 2) := by decide +kernel
theorem d_Pr_sort_27 : decode b_Pr_sort 27 = .ok (.iload 4, 2) := by decide +kernel
theorem d_Pr_sort_29 : decode b_Pr_sort 29 = .ok (.ifCond .le 80, 3) := by decide +kernel
theorem d_Pr_sort_32 : decode b_Pr_sort 32 = .ok (.aload_n 0, 1) := by decide +kernel
theorem d_Pr_sort_33 : decode b_Pr_sort 33 = .ok (.getfield 9, 3) := by decide +kernel
theorem d_Pr_sort_36 : decode b_Pr_sort 36 = .ok (.iload 4, 2) := by decide +kernel
theorem d_Pr_sort_38 : decode b_Pr_sort 38 = .ok (.iconst 1, 1) := by decide +kernel
theorem d_Pr_sort_39 : decode b_Pr_sort 39 = .ok (.isub, 1) := by decide +kernel
theorem d_Pr_sort_40 : decode b_Pr_sort 40 = .ok (.iaload, 1) := by decide +kernel
theorem d_Pr_sort_41 : decode b_Pr_sort 41 = .ok (.iload_n 2, 1) := by decide +kernel
theorem d_Pr_sort_42 : decode b_Pr_sort 42 = .ok (.if_icmp .gt 29, 3) := by decide +kernel
theorem d_Pr_sort_45 : decode b_Pr_sort 45 = .ok (.aload_n 0, 1) := by decide +kernel
theorem d_Pr_sort_46 : decode b_Pr_sort 46 = .ok (.getfield 9, 3) := by decide +kernel
theorem d_Pr_sort_49 : decode b_Pr_sort 49 = .ok (.iload 4, 2) := by decide +kernel
theorem d_Pr_sort_51 : decode b_Pr_sort 51 = .ok (.iconst 1, 1) := by decide +kernel
theorem d_Pr_sort_52 : decode b_Pr_sort 52 = .ok (.isub, 1) := by decide +kernel
theorem d_Pr_sort_53 : decode b_Pr_sort 53 = .ok (.iaload, 1) := by decide +kernel
theorem d_Pr_sort_54 : decode b_Pr_sort 54 = .ok (.iload_n 2, 1) := by decide +kernel
theorem d_Pr_sort_55 : decode b_Pr_sort 55 = .ok (.if_icmp .ne 54, 3) := by decide +kernel
theorem d_Pr_sort_58 : decode b_Pr_sort 58 = .ok (.aload_n 0, 1) := by decide +kernel
theorem d_Pr_sort_59 : decode b_Pr_sort 59 = .ok (.getfield 15, 3) := by decide +kernel
theorem d_Pr_sort_62 : decode b_Pr_sort 62 = .ok (.iload 4, 2) := by decide +kernel
theorem d_Pr_sort_64 : decode b_Pr_sort 64 = .ok (.iconst 1, 1) := by decide +kernel
theorem d_Pr_sort_65 : decode b_Pr_sort 65 = .ok (.isub, 1) := by decide +kernel
theorem d_Pr_sort_66 : decode b_Pr_sort 66 = .ok (.iaload, 1) := by decide +kernel
theorem d_Pr_sort_67 : decode b_Pr_sort 67 = .ok (.iload_n 3, 1) := by decide +kernel
theorem d_Pr_sort_68 : decode b_Pr_sort 68 = .ok (.if_icmp .le 41, 3) := by decide +kernel
theorem d_Pr_sort_71 : decode b_Pr_sort 71 = .ok (.aload_n 0, 1) := by decide +kernel
theorem d_Pr_sort_72 : decode b_Pr_sort 72 = .ok (.getfield 9, 3) := by decide +kernel
theorem d_Pr_sort_75 : decode b_Pr_sort 75 = .ok (.iload 4, 2) := by decide +kernel
theorem d_Pr_sort_77 : decode b_Pr_sort 77 = .ok (.aload_n 0, 1) := by decide +kernel
theorem d_Pr_sort_78 : decode b_Pr_sort 78 = .ok (.getfield 9, 3) := by decide +kernel
theorem d_Pr_sort_81 : decode b_Pr_sort 81 = .ok (.iload 4, 2) := by decide +kernel
theorem d_Pr_sort_83 : decode b_Pr_sort 83 = .ok (.iconst 1, 1) := by decide +kernel
theorem d_Pr_sort_84 : decode b_Pr_sort 84 = .ok (.isub, 1) := by decide +kernel
theorem d_Pr_sort_85 : decode b_Pr_sort 85 = .ok (.iaload, 1) := by decide +kernel
theorem d_Pr_sort_86 : decode b_Pr_sort 86 = .ok (.iastore, 1) := by decide +kernel
theorem d_Pr_sort_87 : decode b_Pr_sort 87 = .ok (.aload_n 0, 1) := by decide +kernel
theorem d_Pr_sort_88 : decode b_Pr_sort 88 = .ok (.getfield 15, 3) := by decide +kernel
theorem d_Pr_sort_91 : decode b_Pr_sort 91 = .ok (.iload 4, 2) := by decide +kernel
theorem d_Pr_sort_93 : decode b_Pr_sort 93 = .ok (.aload_n 0, 1) := by decide +kernel
theorem d_Pr_sort_94 : decode b_Pr_sort 94 = .ok (.getfield 15, 3) := by decide +kernel
theorem d_Pr_sort_97 : decode b_Pr_sort 97 = .ok (.iload 4, 2) := by decide +kernel
theorem d_Pr_sort_99 : decode b_Pr_sort 99 = .ok (.iconst 1, 1) := by decide +kernel
theorem d_Pr_sort_100 : decode b_Pr_sort 100 = .ok (.isub, 1) := by decide +kernel
theorem d_Pr_sort_101 : decode b_Pr_sort 101 = .ok (.iaload, 1) := by decide +kernel
theorem d_Pr_sort_102 : decode b_Pr_sort 102 = .ok (.iastore, 1) := by decide +kernel
theorem d_Pr_sort_103 : decode b_Pr_sort 103 = .ok (.iinc 4 (-1), 3) := by decide +kernel
theorem d_Pr_sort_106 : decode b_Pr_sort 106 = .ok (.goto (-79), 3) := by decide +kernel
theorem d_Pr_sort_109 : decode b_Pr_sort 109 = .ok (.aload_n 0, 1) := by decide +kernel
theorem d_Pr_sort_110 : decode b_Pr_sort 110 = .ok (.getfield 9, 3) := by decide +kernel
theorem d_Pr_sort_113 : decode b_Pr_sort 113 = .ok (.iload 4, 2) := by decide +kernel
theorem d_Pr_sort_115 : decode b_Pr_sort 115 = .ok (.iload_n 2, 1) := by decide +kernel
theorem d_Pr_sort_116 : decode b_Pr_sort 116 = .ok (.iastore, 1) := by decide +kernel
theorem d_Pr_sort_117 : decode b_Pr_sort 117 = .ok (.aload_n 0, 1) := by decide +kernel
theorem d_Pr_sort_118 : decode b_Pr_sort 118 = .ok (.getfield 15, 3) := by decide +kernel
theorem d_Pr_sort_121 : decode b_Pr_sort 121 = .ok (.iload 4, 2) := by decide +kernel
theorem d_Pr_sort_123 : decode b_Pr_sort 123 = .ok (.iload_n 3, 1) := by decide +kernel
theorem d_Pr_sort_124 : decode b_Pr_sort 124 = .ok (.iastore, 1) := by decide +kernel
theorem d_Pr_sort_125 : decode b_Pr_sort 125 = .ok (.iinc 1 1, 3) := by decide +kernel
theorem d_Pr_sort_128 : decode b_Pr_sort 128 = .ok (.goto (-126), 3) := by decide +kernel
theorem d_Pr_sort_131 : decode b_Pr_sort 131 = .ok (.return_, 1) := by decide +kernel
