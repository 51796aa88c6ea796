theorem d_SJ_utf8Follows_0 : decode b_SJ_utf8Follows 0 = .ok (.iload_n 0, 1) := by decide +kernel
theorem d_SJ_utf8Follows_1 : decode b_SJ_utf8Follows 1 = .ok (.sipush 128, 3) := by decide +kernel
theorem d_SJ_utf8Follows_4 : decode b_SJ_utf8Follows 4 = .ok (.if_icmp .lt 14, 3) := by decide +kernel
theorem d_SJ_utf8Follows_7 : decode b_SJ_utf8Follows 7 = .ok (.iload_n 0, 1) := by decide +kernel
theorem d_SJ_utf8Follows_8 : decode b_SJ_utf8Follows 8 = .ok (.sipush 191, 3) := by decide +kernel
theorem d_SJ_utf8Follows_11 : decode b_SJ_utf8Follows 11 = .ok (.if_icmp .gt 7, 3) := by decide +kernel
theorem d_SJ_utf8Follows_14 : decode b_SJ_utf8Follows 14 = .ok (.iconst 1, 1) := by decide +kernel
theorem d_SJ_utf8Follows_15 : decode b_SJ_utf8Follows 15 = .ok (.goto 4, 3) := by decide +kernel
theorem d_SJ_utf8Follows_18 : decode b_SJ_utf8Follows 18 = .ok (.iconst 0, 1) := by decide +kernel
theorem d_SJ_utf8Follows_19 : decode b_SJ_utf8Follows 19 = .ok (.ireturn, 1) := by decide +kernel
theorem d_SJ_utf8Legal_0 : decode b_SJ_utf8Legal 0 = .ok (.iload_n 1, 1) := by decide +kernel
theorem d_SJ_utf8Legal_1 : decode b_SJ_utf8Legal 1 = .ok (.ifCond .ne 5, 3) := by decide +kernel
theorem d_SJ_utf8Legal_4 : decode b_SJ_utf8Legal 4 = .ok (.iconst 1, 1) := by decide +kernel
theorem d_SJ_utf8Legal_5 : decode b_SJ_utf8Legal 5 = .ok (.ireturn, 1) := by decide +kernel
theorem d_SJ_utf8Legal_6 : decode b_SJ_utf8Legal 6 = .ok (.iload_n 1, 1) := by decide +kernel
theorem d_SJ_utf8Legal_7 : decode b_SJ_utf8Legal 7 = .ok (.iconst 1, 1) := by decide +kernel
theorem d_SJ_utf8Legal_8 : decode b_SJ_utf8Legal 8 = .ok (.if_icmp .ne 9, 3) := by decide +kernel
theorem d_SJ_utf8Legal_11 : decode b_SJ_utf8Legal 11 = .ok (.sipush 128, 3) := by decide +kernel
theorem d_SJ_utf8Legal_14 : decode b_SJ_utf8Legal 14 = .ok (.goto 16, 3) := by decide +kernel
theorem d_SJ_utf8Legal_17 : decode b_SJ_utf8Legal 17 = .ok (.iload_n 1, 1) := by decide +kernel
theorem d_SJ_utf8Legal_18 : decode b_SJ_utf8Legal 18 = .ok (.iconst 2, 1) := by decide +kernel
theorem d_SJ_utf8Legal_19 : decode b_SJ_utf8Legal 19 = .ok (.if_icmp .ne 9, 3) := by decide +kernel
theorem d_SJ_utf8Legal_22 : decode b_SJ_utf8Legal 22 = .ok (.sipush 2048, 3) := by decide +kernel
theorem d_SJ_utf8Legal_25 : decode b_SJ_utf8Legal 25 = .ok (.goto 5, 3) := by decide +kernel
theorem d_SJ_utf8Legal_28 : decode b_SJ_utf8Legal 28 = .ok (.ldc 200, 2) := by decide +kernel
theorem d_SJ_utf8Legal_30 : decode b_SJ_utf8Legal 30 = .ok (.istore_n 2, 1) := by decide +kernel
theorem d_SJ_utf8Legal_31 : decode b_SJ_utf8Legal 31 = .ok (.iload_n 0, 1) := by decide +kernel
theorem d_SJ_utf8Legal_32 : decode b_SJ_utf8Legal 32 = .ok (.iload_n 2, 1) := by decide +kernel
theorem d_SJ_utf8Legal_33 : decode b_SJ_utf8Legal 33 = .ok (.if_icmp .lt 20, 3) := by decide +kernel
theorem d_SJ_utf8Legal_36 : decode b_SJ_utf8Legal 36 = .ok (.iload_n 0, 1) := by decide +kernel
theorem d_SJ_utf8Legal_37 : decode b_SJ_utf8Legal 37 = .ok (.ldc 201, 2) := by decide +kernel
theorem d_SJ_utf8Legal_39 : decode b_SJ_utf8Legal 39 = .ok (.if_icmp .gt 14, 3) := by decide +kernel
theorem d_SJ_utf8Legal_42 : decode b_SJ_utf8Legal 42 = .ok (.iload_n 0, 1) := by decide +kernel
theorem d_SJ_utf8Legal_43 : decode b_SJ_utf8Legal 43 = .ok (.invokestatic 202, 3) := by decide +kernel
theorem d_SJ_utf8Legal_46 : decode b_SJ_utf8Legal 46 = .ok (.ifCond .ne 7, 3) := by decide +kernel
theorem d_SJ_utf8Legal_49 : decode b_SJ_utf8Legal 49 = .ok (.iconst 1, 1) := by decide +kernel
theorem d_SJ_utf8Legal_50 : decode b_SJ_utf8Legal 50 = .ok (.goto 4, 3) := by decide +kernel
theorem d_SJ_utf8Legal_53 : decode b_SJ_utf8Legal 53 = .ok (.iconst 0, 1) := by decide +kernel
theorem d_SJ_utf8Legal_54 : decode b_SJ_utf8Legal 54 = .ok (.ireturn, 1) := by decide +kernel
theorem d_Rd_readCharacter_0 : decode b_Rd_readCharacter 0 = .ok (.aload_n 0, 1) := by decide +kernel
theorem d_Rd_readCharacter_1 : decode b_Rd_readCharacter 1 = .ok (.getfield 28, 3) := by decide +kernel
theorem d_Rd_readCharacter_4 : decode b_Rd_readCharacter 4 = .ok (.istore_n 1, 1) := by decide +kernel
theorem d_Rd_readCharacter_5 : decode b_Rd_readCharacter 5 = .ok (.aload_n 0, 1) := by decide +kernel
theorem d_Rd_readCharacter_6 : decode b_Rd_readCharacter 6 = .ok (.invokevirtual 48, 3) := by decide +kernel
theorem d_Rd_readCharacter_9 : decode b_Rd_readCharacter 9 = .ok (.istore_n 2, 1) := by decide +kernel
theorem d_Rd_readCharacter_10 : decode b_Rd_readCharacter 10 = .ok (.iload_n 2, 1) := by decide +kernel
theorem d_Rd_readCharacter_11 : decode b_Rd_readCharacter 11 = .ok (.invokestatic 139, 3) := by decide +kernel
theorem d_Rd_readCharacter_14 : decode b_Rd_readCharacter 14 = .ok (.istore_n 3, 1) := by decide +kernel
theorem d_Rd_readCharacter_15 : decode b_Rd_readCharacter 15 = .ok (.iload_n 2, 1) := by decide +kernel
theorem d_Rd_readCharacter_16 : decode b_Rd_readCharacter 16 = .ok (.bipush 32, 2) := by decide +kernel
theorem d_Rd_readCharacter_18 : decode b_Rd_readCharacter 18 = .ok (.if_icmp .lt 8, 3) := by decide +kernel
theorem d_Rd_readCharacter_21 : decode b_Rd_readCharacter 21 = .ok (.iload_n 3, 1) := by decide +kernel
theorem d_Rd_readCharacter_22 : decode b_Rd_readCharacter 22 = .ok (.iconst (-1), 1) := by decide +kernel
theorem d_Rd_readCharacter_23 : decode b_Rd_readCharacter 23 = .ok (.if_icmp .ne 11, 3) := by decide +kernel
theorem d_Rd_readCharacter_26 : decode b_Rd_readCharacter 26 = .ok (.aload_n 0, 1) := by decide +kernel
theorem d_Rd_readCharacter_27 : decode b_Rd_readCharacter 27 = .ok (.iload_n 1, 1) := by decide +kernel
theorem d_Rd_readCharacter_28 : decode b_Rd_readCharacter 28 = .ok (.invokevirtual 44, 3) := by decide +kernel
theorem d_Rd_readCharacter_31 : decode b_Rd_readCharacter 31 = .ok (.pop, 1) := by decide +kernel
theorem d_Rd_readCharacter_32 : decode b_Rd_readCharacter 32 = .ok (.iconst (-1), 1) := by decide +kernel
theorem d_Rd_readCharacter_33 : decode b_Rd_readCharacter 33 = .ok (.ireturn, 1) := by decide +kernel
theorem d_Rd_readCharacter_34 : decode b_Rd_readCharacter 34 = .ok (.iload_n 2, 1) := by decide +kernel
theorem d_Rd_readCharacter_35 : decode b_Rd_readCharacter 35 = .ok (.iload_n 3, 1) := by decide +kernel
theorem d_Rd_readCharacter_36 : decode b_Rd_readCharacter 36 = .ok (.invokestatic 142, 3) := by decide +kernel
theorem d_Rd_readCharacter_39 : decode b_Rd_readCharacter 39 = .ok (.istore 4, 2) := by decide +kernel
theorem d_Rd_readCharacter_41 : decode b_Rd_readCharacter 41 = .ok (.aload_n 0, 1) := by decide +kernel
theorem d_Rd_readCharacter_42 : decode b_Rd_readCharacter 42 = .ok (.dup, 1) := by decide +kernel
theorem d_Rd_readCharacter_43 : decode b_Rd_readCharacter 43 = .ok (.getfield 28, 3) := by decide +kernel
theorem d_Rd_readCharacter_46 : decode b_Rd_readCharacter 46 = .ok (.iconst 1, 1) := by decide +kernel
theorem d_Rd_readCharacter_47 : decode b_Rd_readCharacter 47 = .ok (.iadd, 1) := by decide +kernel
theorem d_Rd_readCharacter_48 : decode b_Rd_readCharacter 48 = .ok (.putfield 28, 3) := by decide +kernel
theorem d_Rd_readCharacter_51 : decode b_Rd_readCharacter 51 = .ok (.iconst 0, 1) := by decide +kernel
theorem d_Rd_readCharacter_52 : decode b_Rd_readCharacter 52 = .ok (.istore 5, 2) := by decide +kernel
theorem d_Rd_readCharacter_54 : decode b_Rd_readCharacter 54 = .ok (.iload 5, 2) := by decide +kernel
theorem d_Rd_readCharacter_56 : decode b_Rd_readCharacter 56 = .ok (.iload_n 3, 1) := by decide +kernel
theorem d_Rd_readCharacter_57 : decode b_Rd_readCharacter 57 = .ok (.if_icmp .ge 54, 3) := by decide +kernel
theorem d_Rd_readCharacter_60 : decode b_Rd_readCharacter 60 = .ok (.aload_n 0, 1) := by decide +kernel
theorem d_Rd_readCharacter_61 : decode b_Rd_readCharacter 61 = .ok (.invokevirtual 48, 3) := by decide +kernel
theorem d_Rd_readCharacter_64 : decode b_Rd_readCharacter 64 = .ok (.istore 6, 2) := by decide +kernel
theorem d_Rd_readCharacter_66 : decode b_Rd_readCharacter 66 = .ok (.iload 6, 2) := by decide +kernel
theorem d_Rd_readCharacter_68 : decode b_Rd_readCharacter 68 = .ok (.invokestatic 145, 3) := by decide +kernel
theorem d_Rd_readCharacter_71 : decode b_Rd_readCharacter 71 = .ok (.ifCond .ne 11, 3) := by decide +kernel
theorem d_Rd_readCharacter_74 : decode b_Rd_readCharacter 74 = .ok (.aload_n 0, 1) := by decide +kernel
theorem d_Rd_readCharacter_75 : decode b_Rd_readCharacter 75 = .ok (.iload_n 1, 1) := by decide +kernel
theorem d_Rd_readCharacter_76 : decode b_Rd_readCharacter 76 = .ok (.invokevirtual 44, 3) := by decide +kernel
theorem d_Rd_readCharacter_79 : decode b_Rd_readCharacter 79 = .ok (.pop, 1) := by decide +kernel
theorem d_Rd_readCharacter_80 : decode b_Rd_readCharacter 80 = .ok (.iconst (-1), 1) := by decide +kernel
theorem d_Rd_readCharacter_81 : decode b_Rd_readCharacter 81 = .ok (.ireturn, 1) := by decide +kernel
theorem d_Rd_readCharacter_82 : decode b_Rd_readCharacter 82 = .ok (.iload 4, 2) := by decide +kernel
theorem d_Rd_readCharacter_84 : decode b_Rd_readCharacter 84 = .ok (.bipush 6, 2) := by decide +kernel
theorem d_Rd_readCharacter_86 : decode b_Rd_readCharacter 86 = .ok (.ishl, 1) := by decide +kernel
theorem d_Rd_readCharacter_87 : decode b_Rd_readCharacter 87 = .ok (.iload 6, 2) := by decide +kernel
theorem d_Rd_readCharacter_89 : decode b_Rd_readCharacter 89 = .ok (.bipush 63, 2) := by decide +kernel
theorem d_Rd_readCharacter_91 : decode b_Rd_readCharacter 91 = .ok (.iand, 1) := by decide +kernel
theorem d_Rd_readCharacter_92 : decode b_Rd_readCharacter 92 = .ok (.ior, 1) := by decide +kernel
theorem d_Rd_readCharacter_93 : decode b_Rd_readCharacter 93 = .ok (.istore 4, 2) := by decide +kernel
theorem d_Rd_readCharacter_95 : decode b_Rd_readCharacter 95 = .ok (.aload_n 0, 1) := by decide +kernel
theorem d_Rd_readCharacter_96 : decode b_Rd_readCharacter 96 = .ok (.dup, 1) := by decide +kernel
theorem d_Rd_readCharacter_97 : decode b_Rd_readCharacter 97 = .ok (.getfield 28, 3) := by decide +kernel
theorem d_Rd_readCharacter_100 : decode b_Rd_readCharacter 100 = .ok (.iconst 1, 1) := by decide +kernel
theorem d_Rd_readCharacter_101 : decode b_Rd_readCharacter 101 = .ok (.iadd, 1) := by decide +kernel
theorem d_Rd_readCharacter_102 : decode b_Rd_readCharacter 102 = .ok (.putfield 28, 3) := by decide +kernel
theorem d_Rd_readCharacter_105 : decode b_Rd_readCharacter 105 = .ok (.iinc 5 1, 3) := by decide +kernel
theorem d_Rd_readCharacter_108 : decode b_Rd_readCharacter 108 = .ok (.goto (-54), 3) := by decide +kernel
theorem d_Rd_readCharacter_111 : decode b_Rd_readCharacter 111 = .ok (.iload 4, 2) := by decide +kernel
theorem d_Rd_readCharacter_113 : decode b_Rd_readCharacter 113 = .ok (.iload_n 3, 1) := by decide +kernel
theorem d_Rd_readCharacter_114 : decode b_Rd_readCharacter 114 = .ok (.invokestatic 148, 3) := by decide +kernel
theorem d_Rd_readCharacter_117 : decode b_Rd_readCharacter 117 = .ok (.ifCond .ne 11, 3) := by decide +kernel
theorem d_Rd_readCharacter_120 : decode b_Rd_readCharacter 120 = .ok (.aload_n 0, 1) := by decide +kernel
theorem d_Rd_readCharacter_121 : decode b_Rd_readCharacter 121 = .ok (.iload_n 1, 1) := by decide +kernel
theorem d_Rd_readCharacter_122 : decode b_Rd_readCharacter 122 = .ok (.invokevirtual 44, 3) := by decide +kernel
theorem d_Rd_readCharacter_125 : decode b_Rd_readCharacter 125 = .ok (.pop, 1) := by decide +kernel
theorem d_Rd_readCharacter_126 : decode b_Rd_readCharacter 126 = .ok (.iconst (-1), 1) := by decide +kernel
theorem d_Rd_readCharacter_127 : decode b_Rd_readCharacter 127 = .ok (.ireturn, 1) := by decide +kernel
theorem d_Rd_readCharacter_128 : decode b_Rd_readCharacter 128 = .ok (.iload 4, 2) := by decide +kernel
theorem d_Rd_readCharacter_130 : decode b_Rd_readCharacter 130 = .ok (.ireturn, 1) := by decide +kernel
theorem d_Tx_addCharacter_0 : decode b_Tx_addCharacter 0 = .ok (.aload_n 0, 1) := by decide +kernel
theorem d_Tx_addCharacter_1 : decode b_Tx_addCharacter 1 = .ok (.getfield 50, 3) := by decide +kernel
theorem d_Tx_addCharacter_4 : decode b_Tx_addCharacter 4 = .ok (.sipush 4000, 3) := by decide +kernel
theorem d_Tx_addCharacter_7 : decode b_Tx_addCharacter 7 = .ok (.if_icmp .ge 15, 3) := by decide +kernel
theorem d_Tx_addCharacter_10 : decode b_Tx_addCharacter 10 = .ok (.aload_n 0, 1) := by decide +kernel
theorem d_Tx_addCharacter_11 : decode b_Tx_addCharacter 11 = .ok (.getfield 47, 3) := by decide +kernel
theorem d_Tx_addCharacter_14 : decode b_Tx_addCharacter 14 = .ok (.aload_n 0, 1) := by decide +kernel
theorem d_Tx_addCharacter_15 : decode b_Tx_addCharacter 15 = .ok (.getfield 40, 3) := by decide +kernel
theorem d_Tx_addCharacter_18 : decode b_Tx_addCharacter 18 = .ok (.arraylength, 1) := by decide +kernel
theorem d_Tx_addCharacter_19 : decode b_Tx_addCharacter 19 = .ok (.if_icmp .lt 5, 3) := by decide +kernel
theorem d_Tx_addCharacter_22 : decode b_Tx_addCharacter 22 = .ok (.iconst 0, 1) := by decide +kernel
theorem d_Tx_addCharacter_23 : decode b_Tx_addCharacter 23 = .ok (.ireturn, 1) := by decide +kernel
theorem d_Tx_addCharacter_24 : decode b_Tx_addCharacter 24 = .ok (.aload_n 0, 1) := by decide +kernel
theorem d_Tx_addCharacter_25 : decode b_Tx_addCharacter 25 = .ok (.dup, 1) := by decide +kernel
theorem d_Tx_addCharacter_26 : decode b_Tx_addCharacter 26 = .ok (.getfield 50, 3) := by decide +kernel
theorem d_Tx_addCharacter_29 : decode b_Tx_addCharacter 29 = .ok (.iconst 1, 1) := by decide +kernel
theorem d_Tx_addCharacter_30 : decode b_Tx_addCharacter 30 = .ok (.iadd, 1) := by decide +kernel
theorem d_Tx_addCharacter_31 : decode b_Tx_addCharacter 31 = .ok (.putfield 50, 3) := by decide +kernel
theorem d_Tx_addCharacter_34 : decode b_Tx_addCharacter 34 = .ok (.aload_n 0, 1) := by decide +kernel
theorem d_Tx_addCharacter_35 : decode b_Tx_addCharacter 35 = .ok (.getfield 40, 3) := by decide +kernel
theorem d_Tx_addCharacter_38 : decode b_Tx_addCharacter 38 = .ok (.aload_n 0, 1) := by decide +kernel
theorem d_Tx_addCharacter_39 : decode b_Tx_addCharacter 39 = .ok (.getfield 47, 3) := by decide +kernel
theorem d_Tx_addCharacter_42 : decode b_Tx_addCharacter 42 = .ok (.iload_n 1, 1) := by decide +kernel
theorem d_Tx_addCharacter_43 : decode b_Tx_addCharacter 43 = .ok (.iastore, 1) := by decide +kernel
theorem d_Tx_addCharacter_44 : decode b_Tx_addCharacter 44 = .ok (.aload_n 0, 1) := by decide +kernel
theorem d_Tx_addCharacter_45 : decode b_Tx_addCharacter 45 = .ok (.dup, 1) := by decide +kernel
theorem d_Tx_addCharacter_46 : decode b_Tx_addCharacter 46 = .ok (.getfield 47, 3) := by decide +kernel
theorem d_Tx_addCharacter_49 : decode b_Tx_addCharacter 49 = .ok (.iconst 1, 1) := by decide +kernel
theorem d_Tx_addCharacter_50 : decode b_Tx_addCharacter 50 = .ok (.iadd, 1) := by decide +kernel
theorem d_Tx_addCharacter_51 : decode b_Tx_addCharacter 51 = .ok (.putfield 47, 3) := by decide +kernel
theorem d_Tx_addCharacter_54 : decode b_Tx_addCharacter 54 = .ok (.iconst 1, 1) := by decide +kernel
theorem d_Tx_addCharacter_55 : decode b_Tx_addCharacter 55 = .ok (.ireturn, 1) := by decide +kernel
theorem d_Rd_readString_0 : decode b_Rd_readString 0 = .ok (.aload_n 0, 1) := by decide +kernel
theorem d_Rd_readString_1 : decode b_Rd_readString 1 = .ok (.dup, 1) := by decide +kernel
theorem d_Rd_readString_2 : decode b_Rd_readString 2 = .ok (.getfield 28, 3) := by decide +kernel
theorem d_Rd_readString_5 : decode b_Rd_readString 5 = .ok (.iconst 1, 1) := by decide +kernel
theorem d_Rd_readString_6 : decode b_Rd_readString 6 = .ok (.iadd, 1) := by decide +kernel
theorem d_Rd_readString_7 : decode b_Rd_readString 7 = .ok (.putfield 28, 3) := by decide +kernel
theorem d_Rd_readString_10 : decode b_Rd_readString 10 = .ok (.iconst 0, 1) := by decide +kernel
theorem d_Rd_readString_11 : decode b_Rd_readString 11 = .ok (.istore_n 2, 1) := by decide +kernel
theorem d_Rd_readString_12 : decode b_Rd_readString 12 = .ok (.iload_n 2, 1) := by decide +kernel
theorem d_Rd_readString_13 : decode b_Rd_readString 13 = .ok (.sipush 8192, 3) := by decide +kernel
theorem d_Rd_readString_16 : decode b_Rd_readString 16 = .ok (.if_icmp .gt 92, 3) := by decide +kernel
theorem d_Rd_readString_19 : decode b_Rd_readString 19 = .ok (.aload_n 0, 1) := by decide +kernel
theorem d_Rd_readString_20 : decode b_Rd_readString 20 = .ok (.invokevirtual 48, 3) := by decide +kernel
theorem d_Rd_readString_23 : decode b_Rd_readString 23 = .ok (.istore_n 3, 1) := by decide +kernel
theorem d_Rd_readString_24 : decode b_Rd_readString 24 = .ok (.iload_n 3, 1) := by decide +kernel
theorem d_Rd_readString_25 : decode b_Rd_readString 25 = .ok (.bipush 34, 2) := by decide +kernel
theorem d_Rd_readString_27 : decode b_Rd_readString 27 = .ok (.if_icmp .ne 23, 3) := by decide +kernel
theorem d_Rd_readString_30 : decode b_Rd_readString 30 = .ok (.aload_n 0, 1) := by decide +kernel
theorem d_Rd_readString_31 : decode b_Rd_readString 31 = .ok (.dup, 1) := by decide +kernel
theorem d_Rd_readString_32 : decode b_Rd_readString 32 = .ok (.getfield 28, 3) := by decide +kernel
theorem d_Rd_readString_35 : decode b_Rd_readString 35 = .ok (.iconst 1, 1) := by decide +kernel
theorem d_Rd_readString_36 : decode b_Rd_readString 36 = .ok (.iadd, 1) := by decide +kernel
theorem d_Rd_readString_37 : decode b_Rd_readString 37 = .ok (.putfield 28, 3) := by decide +kernel
theorem d_Rd_readString_40 : decode b_Rd_readString 40 = .ok (.aload_n 0, 1) := by decide +kernel
theorem d_Rd_readString_41 : decode b_Rd_readString 41 = .ok (.getfield 15, 3) := by decide +kernel
theorem d_Rd_readString_44 : decode b_Rd_readString 44 = .ok (.iload_n 1, 1) := by decide +kernel
theorem d_Rd_readString_45 : decode b_Rd_readString 45 = .ok (.invokevirtual 127, 3) := by decide +kernel
theorem d_Rd_readString_48 : decode b_Rd_readString 48 = .ok (.iconst 1, 1) := by decide +kernel
theorem d_Rd_readString_49 : decode b_Rd_readString 49 = .ok (.ireturn, 1) := by decide +kernel
theorem d_Rd_readString_50 : decode b_Rd_readString 50 = .ok (.aload_n 0, 1) := by decide +kernel
theorem d_Rd_readString_51 : decode b_Rd_readString 51 = .ok (.getfield 28, 3) := by decide +kernel
theorem d_Rd_readString_54 : decode b_Rd_readString 54 = .ok (.istore 4, 2) := by decide +kernel
theorem d_Rd_readString_56 : decode b_Rd_readString 56 = .ok (.iload_n 3, 1) := by decide +kernel
theorem d_Rd_readString_57 : decode b_Rd_readString 57 = .ok (.bipush 92, 2) := by decide +kernel
theorem d_Rd_readString_59 : decode b_Rd_readString 59 = .ok (.if_icmp .ne 10, 3) := by decide +kernel
theorem d_Rd_readString_62 : decode b_Rd_readString 62 = .ok (.aload_n 0, 1) := by decide +kernel
theorem d_Rd_readString_63 : decode b_Rd_readString 63 = .ok (.invokevirtual 130, 3) := by decide +kernel
theorem d_Rd_readString_66 : decode b_Rd_readString 66 = .ok (.goto 7, 3) := by decide +kernel
theorem d_Rd_readString_69 : decode b_Rd_readString 69 = .ok (.aload_n 0, 1) := by decide +kernel
theorem d_Rd_readString_70 : decode b_Rd_readString 70 = .ok (.invokevirtual 133, 3) := by decide +kernel
theorem d_Rd_readString_73 : decode b_Rd_readString 73 = .ok (.istore 5, 2) := by decide +kernel
theorem d_Rd_readString_75 : decode b_Rd_readString 75 = .ok (.iload 5, 2) := by decide +kernel
theorem d_Rd_readString_77 : decode b_Rd_readString 77 = .ok (.iconst (-1), 1) := by decide +kernel
theorem d_Rd_readString_78 : decode b_Rd_readString 78 = .ok (.if_icmp .ne 5, 3) := by decide +kernel
theorem d_Rd_readString_81 : decode b_Rd_readString 81 = .ok (.iconst 0, 1) := by decide +kernel
theorem d_Rd_readString_82 : decode b_Rd_readString 82 = .ok (.ireturn, 1) := by decide +kernel
theorem d_Rd_readString_83 : decode b_Rd_readString 83 = .ok (.aload_n 0, 1) := by decide +kernel
theorem d_Rd_readString_84 : decode b_Rd_readString 84 = .ok (.getfield 15, 3) := by decide +kernel
theorem d_Rd_readString_87 : decode b_Rd_readString 87 = .ok (.iload 5, 2) := by decide +kernel
theorem d_Rd_readString_89 : decode b_Rd_readString 89 = .ok (.invokevirtual 136, 3) := by decide +kernel
theorem d_Rd_readString_92 : decode b_Rd_readString 92 = .ok (.ifCond .ne 10, 3) := by decide +kernel
theorem d_Rd_readString_95 : decode b_Rd_readString 95 = .ok (.aload_n 0, 1) := by decide +kernel
theorem d_Rd_readString_96 : decode b_Rd_readString 96 = .ok (.iload 4, 2) := by decide +kernel
theorem d_Rd_readString_98 : decode b_Rd_readString 98 = .ok (.invokevirtual 44, 3) := by decide +kernel
theorem d_Rd_readString_101 : decode b_Rd_readString 101 = .ok (.ireturn, 1) := by decide +kernel
theorem d_Rd_readString_102 : decode b_Rd_readString 102 = .ok (.iinc 2 1, 3) := by decide +kernel
theorem d_Rd_readString_105 : decode b_Rd_readString 105 = .ok (.goto (-93), 3) := by decide +kernel
theorem d_Rd_readString_108 : decode b_Rd_readString 108 = .ok (.aload_n 0, 1) := by decide +kernel
theorem d_Rd_readString_109 : decode b_Rd_readString 109 = .ok (.aload_n 0, 1) := by decide +kernel
theorem d_Rd_readString_110 : decode b_Rd_readString 110 = .ok (.getfield 28, 3) := by decide +kernel
theorem d_Rd_readString_113 : decode b_Rd_readString 113 = .ok (.invokevirtual 44, 3) := by decide +kernel
theorem d_Rd_readString_116 : decode b_Rd_readString 116 = .ok (.ireturn, 1) := by decide +kernel
theorem d_Tx_endParent_0 : decode b_Tx_endParent 0 = .ok (.iload_n 1, 1) := by decide +kernel
theorem d_Tx_endParent_1 : decode b_Tx_endParent 1 = .ok (.ifCond .lt 28, 3) := by decide +kernel
theorem d_Tx_endParent_4 : decode b_Tx_endParent 4 = .ok (.iload_n 1, 1) := by decide +kernel
theorem d_Tx_endParent_5 : decode b_Tx_endParent 5 = .ok (.aload_n 0, 1) := by decide +kernel
theorem d_Tx_endParent_6 : decode b_Tx_endParent 6 = .ok (.getfield 43, 3) := by decide +kernel
theorem d_Tx_endParent_9 : decode b_Tx_endParent 9 = .ok (.if_icmp .ge 20, 3) := by decide +kernel
theorem d_Tx_endParent_12 : decode b_Tx_endParent 12 = .ok (.aload_n 0, 1) := by decide +kernel
theorem d_Tx_endParent_13 : decode b_Tx_endParent 13 = .ok (.getfield 18, 3) := by decide +kernel
theorem d_Tx_endParent_16 : decode b_Tx_endParent 16 = .ok (.iload_n 1, 1) := by decide +kernel
theorem d_Tx_endParent_17 : decode b_Tx_endParent 17 = .ok (.iload_n 2, 1) := by decide +kernel
theorem d_Tx_endParent_18 : decode b_Tx_endParent 18 = .ok (.iastore, 1) := by decide +kernel
theorem d_Tx_endParent_19 : decode b_Tx_endParent 19 = .ok (.aload_n 0, 1) := by decide +kernel
theorem d_Tx_endParent_20 : decode b_Tx_endParent 20 = .ok (.getfield 30, 3) := by decide +kernel
theorem d_Tx_endParent_23 : decode b_Tx_endParent 23 = .ok (.iload_n 1, 1) := by decide +kernel
theorem d_Tx_endParent_24 : decode b_Tx_endParent 24 = .ok (.aload_n 0, 1) := by decide +kernel
theorem d_Tx_endParent_25 : decode b_Tx_endParent 25 = .ok (.getfield 43, 3) := by decide +kernel
theorem d_Tx_endParent_28 : decode b_Tx_endParent 28 = .ok (.iastore, 1) := by decide +kernel
theorem d_Tx_endParent_29 : decode b_Tx_endParent 29 = .ok (.return_, 1) := by decide +kernel
theorem d_Rd_beginName_0 : decode b_Rd_beginName 0 = .ok (.aload_n 0, 1) := by decide +kernel
theorem d_Rd_beginName_1 : decode b_Rd_beginName 1 = .ok (.invokevirtual 41, 3) := by decide +kernel
theorem d_Rd_beginName_4 : decode b_Rd_beginName 4 = .ok (.aload_n 0, 1) := by decide +kernel
theorem d_Rd_beginName_5 : decode b_Rd_beginName 5 = .ok (.invokevirtual 48, 3) := by decide +kernel
theorem d_Rd_beginName_8 : decode b_Rd_beginName 8 = .ok (.bipush 34, 2) := by decide +kernel
theorem d_Rd_beginName_10 : decode b_Rd_beginName 10 = .ok (.if_icmp .ne 20, 3) := by decide +kernel
theorem d_Rd_beginName_13 : decode b_Rd_beginName 13 = .ok (.aload_n 0, 1) := by decide +kernel
theorem d_Rd_beginName_14 : decode b_Rd_beginName 14 = .ok (.getfield 15, 3) := by decide +kernel
theorem d_Rd_beginName_17 : decode b_Rd_beginName 17 = .ok (.iconst 4, 1) := by decide +kernel
theorem d_Rd_beginName_18 : decode b_Rd_beginName 18 = .ok (.aload_n 0, 1) := by decide +kernel
theorem d_Rd_beginName_19 : decode b_Rd_beginName 19 = .ok (.getfield 28, 3) := by decide +kernel
theorem d_Rd_beginName_22 : decode b_Rd_beginName 22 = .ok (.iload_n 1, 1) := by decide +kernel
theorem d_Rd_beginName_23 : decode b_Rd_beginName 23 = .ok (.iload_n 2, 1) := by decide +kernel
theorem d_Rd_beginName_24 : decode b_Rd_beginName 24 = .ok (.invokevirtual 59, 3) := by decide +kernel
theorem d_Rd_beginName_27 : decode b_Rd_beginName 27 = .ok (.goto 4, 3) := by decide +kernel
theorem d_Rd_beginName_30 : decode b_Rd_beginName 30 = .ok (.iconst (-1), 1) := by decide +kernel
theorem d_Rd_beginName_31 : decode b_Rd_beginName 31 = .ok (.istore_n 3, 1) := by decide +kernel
theorem d_Rd_beginName_32 : decode b_Rd_beginName 32 = .ok (.iload_n 3, 1) := by decide +kernel
theorem d_Rd_beginName_33 : decode b_Rd_beginName 33 = .ok (.iconst (-1), 1) := by decide +kernel
theorem d_Rd_beginName_34 : decode b_Rd_beginName 34 = .ok (.if_icmp .ne 12, 3) := by decide +kernel
theorem d_Rd_beginName_37 : decode b_Rd_beginName 37 = .ok (.aload_n 0, 1) := by decide +kernel
theorem d_Rd_beginName_38 : decode b_Rd_beginName 38 = .ok (.aload_n 0, 1) := by decide +kernel
theorem d_Rd_beginName_39 : decode b_Rd_beginName 39 = .ok (.getfield 28, 3) := by decide +kernel
theorem d_Rd_beginName_42 : decode b_Rd_beginName 42 = .ok (.invokevirtual 44, 3) := by decide +kernel
theorem d_Rd_beginName_45 : decode b_Rd_beginName 45 = .ok (.pop, 1) := by decide +kernel
theorem d_Rd_beginName_46 : decode b_Rd_beginName 46 = .ok (.iload_n 3, 1) := by decide +kernel
theorem d_Rd_beginName_47 : decode b_Rd_beginName 47 = .ok (.ireturn, 1) := by decide +kernel
theorem d_Tx_firstChild_0 : decode b_Tx_firstChild 0 = .ok (.iload_n 1, 1) := by decide +kernel
theorem d_Tx_firstChild_1 : decode b_Tx_firstChild 1 = .ok (.ifCond .lt 30, 3) := by decide +kernel
theorem d_Tx_firstChild_4 : decode b_Tx_firstChild 4 = .ok (.iload_n 1, 1) := by decide +kernel
theorem d_Tx_firstChild_5 : decode b_Tx_firstChild 5 = .ok (.aload_n 0, 1) := by decide +kernel
theorem d_Tx_firstChild_6 : decode b_Tx_firstChild 6 = .ok (.getfield 43, 3) := by decide +kernel
theorem d_Tx_firstChild_9 : decode b_Tx_firstChild 9 = .ok (.if_icmp .ge 22, 3) := by decide +kernel
theorem d_Tx_firstChild_12 : decode b_Tx_firstChild 12 = .ok (.aload_n 0, 1) := by decide +kernel
theorem d_Tx_firstChild_13 : decode b_Tx_firstChild 13 = .ok (.getfield 18, 3) := by decide +kernel
theorem d_Tx_firstChild_16 : decode b_Tx_firstChild 16 = .ok (.iload_n 1, 1) := by decide +kernel
theorem d_Tx_firstChild_17 : decode b_Tx_firstChild 17 = .ok (.iaload, 1) := by decide +kernel
theorem d_Tx_firstChild_18 : decode b_Tx_firstChild 18 = .ok (.ifCond .eq 13, 3) := by decide +kernel
theorem d_Tx_firstChild_21 : decode b_Tx_firstChild 21 = .ok (.aload_n 0, 1) := by decide +kernel
theorem d_Tx_firstChild_22 : decode b_Tx_firstChild 22 = .ok (.getfield 9, 3) := by decide +kernel
theorem d_Tx_firstChild_25 : decode b_Tx_firstChild 25 = .ok (.iload_n 1, 1) := by decide +kernel
theorem d_Tx_firstChild_26 : decode b_Tx_firstChild 26 = .ok (.iaload, 1) := by decide +kernel
theorem d_Tx_firstChild_27 : decode b_Tx_firstChild 27 = .ok (.iconst 5, 1) := by decide +kernel
theorem d_Tx_firstChild_28 : decode b_Tx_firstChild 28 = .ok (.if_icmp .ge 5, 3) := by decide +kernel
theorem d_Tx_firstChild_31 : decode b_Tx_firstChild 31 = .ok (.iconst (-1), 1) := by decide +kernel
theorem d_Tx_firstChild_32 : decode b_Tx_firstChild 32 = .ok (.ireturn, 1) := by decide +kernel
theorem d_Tx_firstChild_33 : decode b_Tx_firstChild 33 = .ok (.aload_n 0, 1) := by decide +kernel
theorem d_Tx_firstChild_34 : decode b_Tx_firstChild 34 = .ok (.getfield 9, 3) := by decide +kernel
theorem d_Tx_firstChild_37 : decode b_Tx_firstChild 37 = .ok (.iload_n 1, 1) := by decide +kernel
theorem d_Tx_firstChild_38 : decode b_Tx_firstChild 38 = .ok (.iaload, 1) := by decide +kernel
theorem d_Tx_firstChild_39 : decode b_Tx_firstChild 39 = .ok (.iconst 5, 1) := by decide +kernel
theorem d_Tx_firstChild_40 : decode b_Tx_firstChild 40 = .ok (.if_icmp .ne 9, 3) := by decide +kernel
theorem d_Tx_firstChild_43 : decode b_Tx_firstChild 43 = .ok (.iload_n 1, 1) := by decide +kernel
theorem d_Tx_firstChild_44 : decode b_Tx_firstChild 44 = .ok (.iconst 1, 1) := by decide +kernel
theorem d_Tx_firstChild_45 : decode b_Tx_firstChild 45 = .ok (.iadd, 1) := by decide +kernel
theorem d_Tx_firstChild_46 : decode b_Tx_firstChild 46 = .ok (.goto 6, 3) := by decide +kernel
theorem d_Tx_firstChild_49 : decode b_Tx_firstChild 49 = .ok (.iload_n 1, 1) := by decide +kernel
theorem d_Tx_firstChild_50 : decode b_Tx_firstChild 50 = .ok (.iconst 2, 1) := by decide +kernel
theorem d_Tx_firstChild_51 : decode b_Tx_firstChild 51 = .ok (.iadd, 1) := by decide +kernel
theorem d_Tx_firstChild_52 : decode b_Tx_firstChild 52 = .ok (.ireturn, 1) := by decide +kernel
theorem d_Tx_size_0 : decode b_Tx_size 0 = .ok (.iload_n 1, 1) := by decide +kernel
theorem d_Tx_size_1 : decode b_Tx_size 1 = .ok (.ifCond .lt 20, 3) := by decide +kernel
theorem d_Tx_size_4 : decode b_Tx_size 4 = .ok (.iload_n 1, 1) := by decide +kernel
theorem d_Tx_size_5 : decode b_Tx_size 5 = .ok (.aload_n 0, 1) := by decide +kernel
theorem d_Tx_size_6 : decode b_Tx_size 6 = .ok (.getfield 43, 3) := by decide +kernel
theorem d_Tx_size_9 : decode b_Tx_size 9 = .ok (.if_icmp .ge 12, 3) := by decide +kernel
theorem d_Tx_size_12 : decode b_Tx_size 12 = .ok (.aload_n 0, 1) := by decide +kernel
theorem d_Tx_size_13 : decode b_Tx_size 13 = .ok (.getfield 18, 3) := by decide +kernel
theorem d_Tx_size_16 : decode b_Tx_size 16 = .ok (.iload_n 1, 1) := by decide +kernel
theorem d_Tx_size_17 : decode b_Tx_size 17 = .ok (.iaload, 1) := by decide +kernel
theorem d_Tx_size_18 : decode b_Tx_size 18 = .ok (.goto 4, 3) := by decide +kernel
theorem d_Tx_size_21 : decode b_Tx_size 21 = .ok (.iconst 0, 1) := by decide +kernel
theorem d_Tx_size_22 : decode b_Tx_size 22 = .ok (.ireturn, 1) := by decide +kernel
theorem d_Tx_sameString_0 : decode b_Tx_sameString 0 = .ok (.iload_n 1, 1) := by decide +kernel
theorem d_Tx_sameString_1 : decode b_Tx_sameString 1 = .ok (.ifCond .lt 38, 3) := by decide +kernel
theorem d_Tx_sameString_4 : decode b_Tx_sameString 4 = .ok (.iload_n 1, 1) := by decide +kernel
theorem d_Tx_sameString_5 : decode b_Tx_sameString 5 = .ok (.aload_n 0, 1) := by decide +kernel
theorem d_Tx_sameString_6 : decode b_Tx_sameString 6 = .ok (.getfield 43, 3) := by decide +kernel
theorem d_Tx_sameString_9 : decode b_Tx_sameString 9 = .ok (.if_icmp .ge 30, 3) := by decide +kernel
theorem d_Tx_sameString_12 : decode b_Tx_sameString 12 = .ok (.iload_n 3, 1) := by decide +kernel
theorem d_Tx_sameString_13 : decode b_Tx_sameString 13 = .ok (.ifCond .lt 26, 3) := by decide +kernel
theorem d_Tx_sameString_16 : decode b_Tx_sameString 16 = .ok (.iload_n 3, 1) := by decide +kernel
theorem d_Tx_sameString_17 : decode b_Tx_sameString 17 = .ok (.aload_n 2, 1) := by decide +kernel
theorem d_Tx_sameString_18 : decode b_Tx_sameString 18 = .ok (.getfield 43, 3) := by decide +kernel
theorem d_Tx_sameString_21 : decode b_Tx_sameString 21 = .ok (.if_icmp .ge 18, 3) := by decide +kernel
theorem d_Tx_sameString_24 : decode b_Tx_sameString 24 = .ok (.aload_n 0, 1) := by decide +kernel
theorem d_Tx_sameString_25 : decode b_Tx_sameString 25 = .ok (.getfield 18, 3) := by decide +kernel
theorem d_Tx_sameString_28 : decode b_Tx_sameString 28 = .ok (.iload_n 1, 1) := by decide +kernel
theorem d_Tx_sameString_29 : decode b_Tx_sameString 29 = .ok (.iaload, 1) := by decide +kernel
theorem d_Tx_sameString_30 : decode b_Tx_sameString 30 = .ok (.aload_n 2, 1) := by decide +kernel
theorem d_Tx_sameString_31 : decode b_Tx_sameString 31 = .ok (.getfield 18, 3) := by decide +kernel
theorem d_Tx_sameString_34 : decode b_Tx_sameString 34 = .ok (.iload_n 3, 1) := by decide +kernel
theorem d_Tx_sameString_35 : decode b_Tx_sameString 35 = .ok (.iaload, 1) := by decide +kernel
theorem d_Tx_sameString_36 : decode b_Tx_sameString 36 = .ok (.if_icmp .eq 5, 3) := by decide +kernel
theorem d_Tx_sameString_39 : decode b_Tx_sameString 39 = .ok (.iconst 0, 1) := by decide +kernel
theorem d_Tx_sameString_40 : decode b_Tx_sameString 40 = .ok (.ireturn, 1) := by decide +kernel
theorem d_Tx_sameString_41 : decode b_Tx_sameString 41 = .ok (.aload_n 0, 1) := by decide +kernel
theorem d_Tx_sameString_42 : decode b_Tx_sameString 42 = .ok (.getfield 27, 3) := by decide +kernel
theorem d_Tx_sameString_45 : decode b_Tx_sameString 45 = .ok (.iload_n 1, 1) := by decide +kernel
theorem d_Tx_sameString_46 : decode b_Tx_sameString 46 = .ok (.iaload, 1) := by decide +kernel
theorem d_Tx_sameString_47 : decode b_Tx_sameString 47 = .ok (.istore 4, 2) := by decide +kernel
theorem d_Tx_sameString_49 : decode b_Tx_sameString 49 = .ok (.aload_n 2, 1) := by decide +kernel
theorem d_Tx_sameString_50 : decode b_Tx_sameString 50 = .ok (.getfield 27, 3) := by decide +kernel
theorem d_Tx_sameString_53 : decode b_Tx_sameString 53 = .ok (.iload_n 3, 1) := by decide +kernel
theorem d_Tx_sameString_54 : decode b_Tx_sameString 54 = .ok (.iaload, 1) := by decide +kernel
theorem d_Tx_sameString_55 : decode b_Tx_sameString 55 = .ok (.istore 5, 2) := by decide +kernel
theorem d_Tx_sameString_57 : decode b_Tx_sameString 57 = .ok (.aload_n 0, 1) := by decide +kernel
theorem d_Tx_sameString_58 : decode b_Tx_sameString 58 = .ok (.getfield 18, 3) := by decide +kernel
theorem d_Tx_sameString_61 : decode b_Tx_sameString 61 = .ok (.iload_n 1, 1) := by decide +kernel
theorem d_Tx_sameString_62 : decode b_Tx_sameString 62 = .ok (.iaload, 1) := by decide +kernel
theorem d_Tx_sameString_63 : decode b_Tx_sameString 63 = .ok (.istore 6, 2) := by decide +kernel
theorem d_Tx_sameString_65 : decode b_Tx_sameString 65 = .ok (.iload 4, 2) := by decide +kernel
theorem d_Tx_sameString_67 : decode b_Tx_sameString 67 = .ok (.ifCond .lt 30, 3) := by decide +kernel
theorem d_Tx_sameString_70 : decode b_Tx_sameString 70 = .ok (.iload 4, 2) := by decide +kernel
theorem d_Tx_sameString_72 : decode b_Tx_sameString 72 = .ok (.iload 6, 2) := by decide +kernel
theorem d_Tx_sameString_74 : decode b_Tx_sameString 74 = .ok (.iadd, 1) := by decide +kernel
theorem d_Tx_sameString_75 : decode b_Tx_sameString 75 = .ok (.sipush 8192, 3) := by decide +kernel
theorem d_Tx_sameString_78 : decode b_Tx_sameString 78 = .ok (.if_icmp .gt 19, 3) := by decide +kernel
theorem d_Tx_sameString_81 : decode b_Tx_sameString 81 = .ok (.iload 5, 2) := by decide +kernel
theorem d_Tx_sameString_83 : decode b_Tx_sameString 83 = .ok (.ifCond .lt 14, 3) := by decide +kernel
theorem d_Tx_sameString_86 : decode b_Tx_sameString 86 = .ok (.iload 5, 2) := by decide +kernel
theorem d_Tx_sameString_88 : decode b_Tx_sameString 88 = .ok (.iload 6, 2) := by decide +kernel
theorem d_Tx_sameString_90 : decode b_Tx_sameString 90 = .ok (.iadd, 1) := by decide +kernel
theorem d_Tx_sameString_91 : decode b_Tx_sameString 91 = .ok (.sipush 8192, 3) := by decide +kernel
theorem d_Tx_sameString_94 : decode b_Tx_sameString 94 = .ok (.if_icmp .le 5, 3) := by decide +kernel
theorem d_Tx_sameString_97 : decode b_Tx_sameString 97 = .ok (.iconst 0, 1) := by decide +kernel
theorem d_Tx_sameString_98 : decode b_Tx_sameString 98 = .ok (.ireturn, 1) := by decide +kernel
theorem d_Tx_sameString_99 : decode b_Tx_sameString 99 = .ok (.iconst 0, 1) := by decide +kernel
theorem d_Tx_sameString_100 : decode b_Tx_sameString 100 = .ok (.istore 7, 2) := by decide +kernel
theorem d_Tx_sameString_102 : decode b_Tx_sameString 102 = .ok (.iload 7, 2) := by decide +kernel
theorem d_Tx_sameString_104 : decode b_Tx_sameString 104 = .ok (.iload 6, 2) := by decide +kernel
theorem d_Tx_sameString_106 : decode b_Tx_sameString 106 = .ok (.if_icmp .ge 34, 3) := by decide +kernel
theorem d_Tx_sameString_109 : decode b_Tx_sameString 109 = .ok (.aload_n 0, 1) := by decide +kernel
theorem d_Tx_sameString_110 : decode b_Tx_sameString 110 = .ok (.getfield 40, 3) := by decide +kernel
theorem d_Tx_sameString_113 : decode b_Tx_sameString 113 = .ok (.iload 4, 2) := by decide +kernel
theorem d_Tx_sameString_115 : decode b_Tx_sameString 115 = .ok (.iload 7, 2) := by decide +kernel
theorem d_Tx_sameString_117 : decode b_Tx_sameString 117 = .ok (.iadd, 1) := by decide +kernel
theorem d_Tx_sameString_118 : decode b_Tx_sameString 118 = .ok (.iaload, 1) := by decide +kernel
theorem d_Tx_sameString_119 : decode b_Tx_sameString 119 = .ok (.aload_n 2, 1) := by decide +kernel
theorem d_Tx_sameString_120 : decode b_Tx_sameString 120 = .ok (.getfield 40, 3) := by decide +kernel
theorem d_Tx_sameString_123 : decode b_Tx_sameString 123 = .ok (.iload 5, 2) := by decide +kernel
theorem d_Tx_sameString_125 : decode b_Tx_sameString 125 = .ok (.iload 7, 2) := by decide +kernel
theorem d_Tx_sameString_127 : decode b_Tx_sameString 127 = .ok (.iadd, 1) := by decide +kernel
theorem d_Tx_sameString_128 : decode b_Tx_sameString 128 = .ok (.iaload, 1) := by decide +kernel
theorem d_Tx_sameString_129 : decode b_Tx_sameString 129 = .ok (.if_icmp .eq 5, 3) := by decide +kernel
theorem d_Tx_sameString_132 : decode b_Tx_sameString 132 = .ok (.iconst 0, 1) := by decide +kernel
theorem d_Tx_sameString_133 : decode b_Tx_sameString 133 = .ok (.ireturn, 1) := by decide +kernel
theorem d_Tx_sameString_134 : decode b_Tx_sameString 134 = .ok (.iinc 7 1, 3) := by decide +kernel
theorem d_Tx_sameString_137 : decode b_Tx_sameString 137 = .ok (.goto (-35), 3) := by decide +kernel
theorem d_Tx_sameString_140 : decode b_Tx_sameString 140 = .ok (.iconst 1, 1) := by decide +kernel
theorem d_Tx_sameString_141 : decode b_Tx_sameString 141 = .ok (.ireturn, 1) := by decide +kernel
theorem d_Tx_nextChild_0 : decode b_Tx_nextChild 0 = .ok (.iload_n 1, 1) := by decide +kernel
theorem d_Tx_nextChild_1 : decode b_Tx_nextChild 1 = .ok (.ifCond .lt 20, 3) := by decide +kernel
theorem d_Tx_nextChild_4 : decode b_Tx_nextChild 4 = .ok (.iload_n 1, 1) := by decide +kernel
theorem d_Tx_nextChild_5 : decode b_Tx_nextChild 5 = .ok (.aload_n 0, 1) := by decide +kernel
theorem d_Tx_nextChild_6 : decode b_Tx_nextChild 6 = .ok (.getfield 43, 3) := by decide +kernel
theorem d_Tx_nextChild_9 : decode b_Tx_nextChild 9 = .ok (.if_icmp .ge 12, 3) := by decide +kernel
theorem d_Tx_nextChild_12 : decode b_Tx_nextChild 12 = .ok (.aload_n 0, 1) := by decide +kernel
theorem d_Tx_nextChild_13 : decode b_Tx_nextChild 13 = .ok (.getfield 21, 3) := by decide +kernel
theorem d_Tx_nextChild_16 : decode b_Tx_nextChild 16 = .ok (.iload_n 1, 1) := by decide +kernel
theorem d_Tx_nextChild_17 : decode b_Tx_nextChild 17 = .ok (.iaload, 1) := by decide +kernel
theorem d_Tx_nextChild_18 : decode b_Tx_nextChild 18 = .ok (.goto 4, 3) := by decide +kernel
theorem d_Tx_nextChild_21 : decode b_Tx_nextChild 21 = .ok (.iconst (-1), 1) := by decide +kernel
theorem d_Tx_nextChild_22 : decode b_Tx_nextChild 22 = .ok (.istore_n 2, 1) := by decide +kernel
theorem d_Tx_nextChild_23 : decode b_Tx_nextChild 23 = .ok (.iload_n 2, 1) := by decide +kernel
theorem d_Tx_nextChild_24 : decode b_Tx_nextChild 24 = .ok (.ifCond .lt 28, 3) := by decide +kernel
theorem d_Tx_nextChild_27 : decode b_Tx_nextChild 27 = .ok (.iload_n 2, 1) := by decide +kernel
theorem d_Tx_nextChild_28 : decode b_Tx_nextChild 28 = .ok (.aload_n 0, 1) := by decide +kernel
theorem d_Tx_nextChild_29 : decode b_Tx_nextChild 29 = .ok (.getfield 43, 3) := by decide +kernel
theorem d_Tx_nextChild_32 : decode b_Tx_nextChild 32 = .ok (.if_icmp .ge 20, 3) := by decide +kernel
theorem d_Tx_nextChild_35 : decode b_Tx_nextChild 35 = .ok (.aload_n 0, 1) := by decide +kernel
theorem d_Tx_nextChild_36 : decode b_Tx_nextChild 36 = .ok (.getfield 33, 3) := by decide +kernel
theorem d_Tx_nextChild_39 : decode b_Tx_nextChild 39 = .ok (.iload_n 1, 1) := by decide +kernel
theorem d_Tx_nextChild_40 : decode b_Tx_nextChild 40 = .ok (.iaload, 1) := by decide +kernel
theorem d_Tx_nextChild_41 : decode b_Tx_nextChild 41 = .ok (.iconst 1, 1) := by decide +kernel
theorem d_Tx_nextChild_42 : decode b_Tx_nextChild 42 = .ok (.iadd, 1) := by decide +kernel
theorem d_Tx_nextChild_43 : decode b_Tx_nextChild 43 = .ok (.aload_n 0, 1) := by decide +kernel
theorem d_Tx_nextChild_44 : decode b_Tx_nextChild 44 = .ok (.getfield 18, 3) := by decide +kernel
theorem d_Tx_nextChild_47 : decode b_Tx_nextChild 47 = .ok (.iload_n 2, 1) := by decide +kernel
theorem d_Tx_nextChild_48 : decode b_Tx_nextChild 48 = .ok (.iaload, 1) := by decide +kernel
theorem d_Tx_nextChild_49 : decode b_Tx_nextChild 49 = .ok (.if_icmp .lt 5, 3) := by decide +kernel
theorem d_Tx_nextChild_52 : decode b_Tx_nextChild 52 = .ok (.iconst (-1), 1) := by decide +kernel
theorem d_Tx_nextChild_53 : decode b_Tx_nextChild 53 = .ok (.ireturn, 1) := by decide +kernel
theorem d_Tx_nextChild_54 : decode b_Tx_nextChild 54 = .ok (.aload_n 0, 1) := by decide +kernel
theorem d_Tx_nextChild_55 : decode b_Tx_nextChild 55 = .ok (.getfield 9, 3) := by decide +kernel
theorem d_Tx_nextChild_58 : decode b_Tx_nextChild 58 = .ok (.iload_n 2, 1) := by decide +kernel
theorem d_Tx_nextChild_59 : decode b_Tx_nextChild 59 = .ok (.iaload, 1) := by decide +kernel
theorem d_Tx_nextChild_60 : decode b_Tx_nextChild 60 = .ok (.iconst 5, 1) := by decide +kernel
theorem d_Tx_nextChild_61 : decode b_Tx_nextChild 61 = .ok (.if_icmp .ne 12, 3) := by decide +kernel
theorem d_Tx_nextChild_64 : decode b_Tx_nextChild 64 = .ok (.aload_n 0, 1) := by decide +kernel
theorem d_Tx_nextChild_65 : decode b_Tx_nextChild 65 = .ok (.getfield 30, 3) := by decide +kernel
theorem d_Tx_nextChild_68 : decode b_Tx_nextChild 68 = .ok (.iload_n 1, 1) := by decide +kernel
theorem d_Tx_nextChild_69 : decode b_Tx_nextChild 69 = .ok (.iaload, 1) := by decide +kernel
theorem d_Tx_nextChild_70 : decode b_Tx_nextChild 70 = .ok (.goto 11, 3) := by decide +kernel
theorem d_Tx_nextChild_73 : decode b_Tx_nextChild 73 = .ok (.aload_n 0, 1) := by decide +kernel
theorem d_Tx_nextChild_74 : decode b_Tx_nextChild 74 = .ok (.getfield 30, 3) := by decide +kernel
theorem d_Tx_nextChild_77 : decode b_Tx_nextChild 77 = .ok (.iload_n 1, 1) := by decide +kernel
theorem d_Tx_nextChild_78 : decode b_Tx_nextChild 78 = .ok (.iaload, 1) := by decide +kernel
theorem d_Tx_nextChild_79 : decode b_Tx_nextChild 79 = .ok (.iconst 1, 1) := by decide +kernel
theorem d_Tx_nextChild_80 : decode b_Tx_nextChild 80 = .ok (.iadd, 1) := by decide +kernel
theorem d_Tx_nextChild_81 : decode b_Tx_nextChild 81 = .ok (.ireturn, 1) := by decide +kernel
theorem d_Tx_member_0 : decode b_Tx_member 0 = .ok (.aload_n 0, 1) := by decide +kernel
theorem d_Tx_member_1 : decode b_Tx_member 1 = .ok (.iload_n 1, 1) := by decide +kernel
theorem d_Tx_member_2 : decode b_Tx_member 2 = .ok (.invokevirtual 53, 3) := by decide +kernel
theorem d_Tx_member_5 : decode b_Tx_member 5 = .ok (.istore 4, 2) := by decide +kernel
theorem d_Tx_member_7 : decode b_Tx_member 7 = .ok (.iconst 0, 1) := by decide +kernel
theorem d_Tx_member_8 : decode b_Tx_member 8 = .ok (.istore 5, 2) := by decide +kernel
theorem d_Tx_member_10 : decode b_Tx_member 10 = .ok (.iload 5, 2) := by decide +kernel
theorem d_Tx_member_12 : decode b_Tx_member 12 = .ok (.aload_n 0, 1) := by decide +kernel
theorem d_Tx_member_13 : decode b_Tx_member 13 = .ok (.iload_n 1, 1) := by decide +kernel
theorem d_Tx_member_14 : decode b_Tx_member 14 = .ok (.invokevirtual 60, 3) := by decide +kernel
theorem d_Tx_member_17 : decode b_Tx_member 17 = .ok (.if_icmp .ge 33, 3) := by decide +kernel
theorem d_Tx_member_20 : decode b_Tx_member 20 = .ok (.aload_n 0, 1) := by decide +kernel
theorem d_Tx_member_21 : decode b_Tx_member 21 = .ok (.iload 4, 2) := by decide +kernel
theorem d_Tx_member_23 : decode b_Tx_member 23 = .ok (.iconst 1, 1) := by decide +kernel
theorem d_Tx_member_24 : decode b_Tx_member 24 = .ok (.isub, 1) := by decide +kernel
theorem d_Tx_member_25 : decode b_Tx_member 25 = .ok (.aload_n 2, 1) := by decide +kernel
theorem d_Tx_member_26 : decode b_Tx_member 26 = .ok (.iload_n 3, 1) := by decide +kernel
theorem d_Tx_member_27 : decode b_Tx_member 27 = .ok (.invokestatic 63, 3) := by decide +kernel
theorem d_Tx_member_30 : decode b_Tx_member 30 = .ok (.ifCond .eq 6, 3) := by decide +kernel
theorem d_Tx_member_33 : decode b_Tx_member 33 = .ok (.iload 4, 2) := by decide +kernel
theorem d_Tx_member_35 : decode b_Tx_member 35 = .ok (.ireturn, 1) := by decide +kernel
theorem d_Tx_member_36 : decode b_Tx_member 36 = .ok (.aload_n 0, 1) := by decide +kernel
theorem d_Tx_member_37 : decode b_Tx_member 37 = .ok (.iload 4, 2) := by decide +kernel
theorem d_Tx_member_39 : decode b_Tx_member 39 = .ok (.invokevirtual 57, 3) := by decide +kernel
theorem d_Tx_member_42 : decode b_Tx_member 42 = .ok (.istore 4, 2) := by decide +kernel
theorem d_Tx_member_44 : decode b_Tx_member 44 = .ok (.iinc 5 1, 3) := by decide +kernel
theorem d_Tx_member_47 : decode b_Tx_member 47 = .ok (.goto (-37), 3) := by decide +kernel
theorem d_Tx_member_50 : decode b_Tx_member 50 = .ok (.iconst (-1), 1) := by decide +kernel
theorem d_Tx_member_51 : decode b_Tx_member 51 = .ok (.ireturn, 1) := by decide +kernel
theorem d_Tx_place_0 : decode b_Tx_place 0 = .ok (.iload_n 1, 1) := by decide +kernel
theorem d_Tx_place_1 : decode b_Tx_place 1 = .ok (.ifCond .lt 20, 3) := by decide +kernel
theorem d_Tx_place_4 : decode b_Tx_place 4 = .ok (.iload_n 1, 1) := by decide +kernel
theorem d_Tx_place_5 : decode b_Tx_place 5 = .ok (.aload_n 0, 1) := by decide +kernel
theorem d_Tx_place_6 : decode b_Tx_place 6 = .ok (.getfield 43, 3) := by decide +kernel
theorem d_Tx_place_9 : decode b_Tx_place 9 = .ok (.if_icmp .ge 12, 3) := by decide +kernel
theorem d_Tx_place_12 : decode b_Tx_place 12 = .ok (.aload_n 0, 1) := by decide +kernel
theorem d_Tx_place_13 : decode b_Tx_place 13 = .ok (.getfield 15, 3) := by decide +kernel
theorem d_Tx_place_16 : decode b_Tx_place 16 = .ok (.iload_n 1, 1) := by decide +kernel
theorem d_Tx_place_17 : decode b_Tx_place 17 = .ok (.iaload, 1) := by decide +kernel
theorem d_Tx_place_18 : decode b_Tx_place 18 = .ok (.goto 4, 3) := by decide +kernel
theorem d_Tx_place_21 : decode b_Tx_place 21 = .ok (.iconst (-1), 1) := by decide +kernel
theorem d_Tx_place_22 : decode b_Tx_place 22 = .ok (.ireturn, 1) := by decide +kernel
theorem d_Rd_endName_0 : decode b_Rd_endName 0 = .ok (.aload_n 0, 1) := by decide +kernel
theorem d_Rd_endName_1 : decode b_Rd_endName 1 = .ok (.getfield 15, 3) := by decide +kernel
theorem d_Rd_endName_4 : decode b_Rd_endName 4 = .ok (.iload_n 1, 1) := by decide +kernel
theorem d_Rd_endName_5 : decode b_Rd_endName 5 = .ok (.aload_n 0, 1) := by decide +kernel
theorem d_Rd_endName_6 : decode b_Rd_endName 6 = .ok (.getfield 15, 3) := by decide +kernel
theorem d_Rd_endName_9 : decode b_Rd_endName 9 = .ok (.iload_n 2, 1) := by decide +kernel
theorem d_Rd_endName_10 : decode b_Rd_endName 10 = .ok (.invokevirtual 106, 3) := by decide +kernel
theorem d_Rd_endName_13 : decode b_Rd_endName 13 = .ok (.iconst (-1), 1) := by decide +kernel
theorem d_Rd_endName_14 : decode b_Rd_endName 14 = .ok (.if_icmp .eq 16, 3) := by decide +kernel
theorem d_Rd_endName_17 : decode b_Rd_endName 17 = .ok (.aload_n 0, 1) := by decide +kernel
theorem d_Rd_endName_18 : decode b_Rd_endName 18 = .ok (.aload_n 0, 1) := by decide +kernel
theorem d_Rd_endName_19 : decode b_Rd_endName 19 = .ok (.getfield 15, 3) := by decide +kernel
theorem d_Rd_endName_22 : decode b_Rd_endName 22 = .ok (.iload_n 2, 1) := by decide +kernel
theorem d_Rd_endName_23 : decode b_Rd_endName 23 = .ok (.invokevirtual 110, 3) := by decide +kernel
theorem d_Rd_endName_26 : decode b_Rd_endName 26 = .ok (.invokevirtual 44, 3) := by decide +kernel
theorem d_Rd_endName_29 : decode b_Rd_endName 29 = .ok (.ireturn, 1) := by decide +kernel
theorem d_Rd_endName_30 : decode b_Rd_endName 30 = .ok (.aload_n 0, 1) := by decide +kernel
theorem d_Rd_endName_31 : decode b_Rd_endName 31 = .ok (.invokevirtual 41, 3) := by decide +kernel
theorem d_Rd_endName_34 : decode b_Rd_endName 34 = .ok (.aload_n 0, 1) := by decide +kernel
theorem d_Rd_endName_35 : decode b_Rd_endName 35 = .ok (.invokevirtual 48, 3) := by decide +kernel
theorem d_Rd_endName_38 : decode b_Rd_endName 38 = .ok (.bipush 58, 2) := by decide +kernel
theorem d_Rd_endName_40 : decode b_Rd_endName 40 = .ok (.if_icmp .eq 12, 3) := by decide +kernel
theorem d_Rd_endName_43 : decode b_Rd_endName 43 = .ok (.aload_n 0, 1) := by decide +kernel
theorem d_Rd_endName_44 : decode b_Rd_endName 44 = .ok (.aload_n 0, 1) := by decide +kernel
theorem d_Rd_endName_45 : decode b_Rd_endName 45 = .ok (.getfield 28, 3) := by decide +kernel
theorem d_Rd_endName_48 : decode b_Rd_endName 48 = .ok (.invokevirtual 44, 3) := by decide +kernel
theorem d_Rd_endName_51 : decode b_Rd_endName 51 = .ok (.ireturn, 1) := by decide +kernel
theorem d_Rd_endName_52 : decode b_Rd_endName 52 = .ok (.aload_n 0, 1) := by decide +kernel
theorem d_Rd_endName_53 : decode b_Rd_endName 53 = .ok (.dup, 1) := by decide +kernel
theorem d_Rd_endName_54 : decode b_Rd_endName 54 = .ok (.getfield 28, 3) := by decide +kernel
theorem d_Rd_endName_57 : decode b_Rd_endName 57 = .ok (.iconst 1, 1) := by decide +kernel
theorem d_Rd_endName_58 : decode b_Rd_endName 58 = .ok (.iadd, 1) := by decide +kernel
theorem d_Rd_endName_59 : decode b_Rd_endName 59 = .ok (.putfield 28, 3) := by decide +kernel
theorem d_Rd_endName_62 : decode b_Rd_endName 62 = .ok (.iconst 1, 1) := by decide +kernel
theorem d_Rd_endName_63 : decode b_Rd_endName 63 = .ok (.ireturn, 1) := by decide +kernel
theorem d_Rd_readObject_0 : decode b_Rd_readObject 0 = .ok (.aload_n 0, 1) := by decide +kernel
theorem d_Rd_readObject_1 : decode b_Rd_readObject 1 = .ok (.dup, 1) := by decide +kernel
theorem d_Rd_readObject_2 : decode b_Rd_readObject 2 = .ok (.getfield 28, 3) := by decide +kernel
theorem d_Rd_readObject_5 : decode b_Rd_readObject 5 = .ok (.iconst 1, 1) := by decide +kernel
theorem d_Rd_readObject_6 : decode b_Rd_readObject 6 = .ok (.iadd, 1) := by decide +kernel
theorem d_Rd_readObject_7 : decode b_Rd_readObject 7 = .ok (.putfield 28, 3) := by decide +kernel
theorem d_Rd_readObject_10 : decode b_Rd_readObject 10 = .ok (.aload_n 0, 1) := by decide +kernel
theorem d_Rd_readObject_11 : decode b_Rd_readObject 11 = .ok (.invokevirtual 41, 3) := by decide +kernel
theorem d_Rd_readObject_14 : decode b_Rd_readObject 14 = .ok (.aload_n 0, 1) := by decide +kernel
theorem d_Rd_readObject_15 : decode b_Rd_readObject 15 = .ok (.invokevirtual 48, 3) := by decide +kernel
theorem d_Rd_readObject_18 : decode b_Rd_readObject 18 = .ok (.bipush 125, 2) := by decide +kernel
theorem d_Rd_readObject_20 : decode b_Rd_readObject 20 = .ok (.if_icmp .ne 15, 3) := by decide +kernel
theorem d_Rd_readObject_23 : decode b_Rd_readObject 23 = .ok (.aload_n 0, 1) := by decide +kernel
theorem d_Rd_readObject_24 : decode b_Rd_readObject 24 = .ok (.dup, 1) := by decide +kernel
theorem d_Rd_readObject_25 : decode b_Rd_readObject 25 = .ok (.getfield 28, 3) := by decide +kernel
theorem d_Rd_readObject_28 : decode b_Rd_readObject 28 = .ok (.iconst 1, 1) := by decide +kernel
theorem d_Rd_readObject_29 : decode b_Rd_readObject 29 = .ok (.iadd, 1) := by decide +kernel
theorem d_Rd_readObject_30 : decode b_Rd_readObject 30 = .ok (.putfield 28, 3) := by decide +kernel
theorem d_Rd_readObject_33 : decode b_Rd_readObject 33 = .ok (.iconst 1, 1) := by decide +kernel
theorem d_Rd_readObject_34 : decode b_Rd_readObject 34 = .ok (.ireturn, 1) := by decide +kernel
theorem d_Rd_readObject_35 : decode b_Rd_readObject 35 = .ok (.iconst 0, 1) := by decide +kernel
theorem d_Rd_readObject_36 : decode b_Rd_readObject 36 = .ok (.istore_n 3, 1) := by decide +kernel
theorem d_Rd_readObject_37 : decode b_Rd_readObject 37 = .ok (.iload_n 3, 1) := by decide +kernel
theorem d_Rd_readObject_38 : decode b_Rd_readObject 38 = .ok (.bipush 60, 2) := by decide +kernel
theorem d_Rd_readObject_40 : decode b_Rd_readObject 40 = .ok (.if_icmp .ge 119, 3) := by decide +kernel
theorem d_Rd_readObject_43 : decode b_Rd_readObject 43 = .ok (.aload_n 0, 1) := by decide +kernel
theorem d_Rd_readObject_44 : decode b_Rd_readObject 44 = .ok (.iload_n 1, 1) := by decide +kernel
theorem d_Rd_readObject_45 : decode b_Rd_readObject 45 = .ok (.iload_n 3, 1) := by decide +kernel
theorem d_Rd_readObject_46 : decode b_Rd_readObject 46 = .ok (.invokevirtual 99, 3) := by decide +kernel
theorem d_Rd_readObject_49 : decode b_Rd_readObject 49 = .ok (.istore 4, 2) := by decide +kernel
theorem d_Rd_readObject_51 : decode b_Rd_readObject 51 = .ok (.iload 4, 2) := by decide +kernel
theorem d_Rd_readObject_53 : decode b_Rd_readObject 53 = .ok (.iconst (-1), 1) := by decide +kernel
theorem d_Rd_readObject_54 : decode b_Rd_readObject 54 = .ok (.if_icmp .eq 34, 3) := by decide +kernel
theorem d_Rd_readObject_57 : decode b_Rd_readObject 57 = .ok (.aload_n 0, 1) := by decide +kernel
theorem d_Rd_readObject_58 : decode b_Rd_readObject 58 = .ok (.iload 4, 2) := by decide +kernel
theorem d_Rd_readObject_60 : decode b_Rd_readObject 60 = .ok (.invokevirtual 76, 3) := by decide +kernel
theorem d_Rd_readObject_63 : decode b_Rd_readObject 63 = .ok (.ifCond .eq 25, 3) := by decide +kernel
theorem d_Rd_readObject_66 : decode b_Rd_readObject 66 = .ok (.aload_n 0, 1) := by decide +kernel
theorem d_Rd_readObject_67 : decode b_Rd_readObject 67 = .ok (.iload_n 1, 1) := by decide +kernel
theorem d_Rd_readObject_68 : decode b_Rd_readObject 68 = .ok (.iload 4, 2) := by decide +kernel
theorem d_Rd_readObject_70 : decode b_Rd_readObject 70 = .ok (.invokevirtual 103, 3) := by decide +kernel
theorem d_Rd_readObject_73 : decode b_Rd_readObject 73 = .ok (.ifCond .eq 15, 3) := by decide +kernel
theorem d_Rd_readObject_76 : decode b_Rd_readObject 76 = .ok (.aload_n 0, 1) := by decide +kernel
theorem d_Rd_readObject_77 : decode b_Rd_readObject 77 = .ok (.iload_n 1, 1) := by decide +kernel
theorem d_Rd_readObject_78 : decode b_Rd_readObject 78 = .ok (.iload_n 3, 1) := by decide +kernel
theorem d_Rd_readObject_79 : decode b_Rd_readObject 79 = .ok (.iload_n 2, 1) := by decide +kernel
theorem d_Rd_readObject_80 : decode b_Rd_readObject 80 = .ok (.iconst 1, 1) := by decide +kernel
theorem d_Rd_readObject_81 : decode b_Rd_readObject 81 = .ok (.iadd, 1) := by decide +kernel
theorem d_Rd_readObject_82 : decode b_Rd_readObject 82 = .ok (.invokevirtual 37, 3) := by decide +kernel
theorem d_Rd_readObject_85 : decode b_Rd_readObject 85 = .ok (.ifCond .ne 5, 3) := by decide +kernel
theorem d_Rd_readObject_88 : decode b_Rd_readObject 88 = .ok (.iconst 0, 1) := by decide +kernel
theorem d_Rd_readObject_89 : decode b_Rd_readObject 89 = .ok (.ireturn, 1) := by decide +kernel
theorem d_Rd_readObject_90 : decode b_Rd_readObject 90 = .ok (.aload_n 0, 1) := by decide +kernel
theorem d_Rd_readObject_91 : decode b_Rd_readObject 91 = .ok (.invokevirtual 41, 3) := by decide +kernel
theorem d_Rd_readObject_94 : decode b_Rd_readObject 94 = .ok (.aload_n 0, 1) := by decide +kernel
theorem d_Rd_readObject_95 : decode b_Rd_readObject 95 = .ok (.invokevirtual 48, 3) := by decide +kernel
theorem d_Rd_readObject_98 : decode b_Rd_readObject 98 = .ok (.istore 5, 2) := by decide +kernel
theorem d_Rd_readObject_100 : decode b_Rd_readObject 100 = .ok (.iload 5, 2) := by decide +kernel
theorem d_Rd_readObject_102 : decode b_Rd_readObject 102 = .ok (.bipush 44, 2) := by decide +kernel
theorem d_Rd_readObject_104 : decode b_Rd_readObject 104 = .ok (.if_icmp .eq 19, 3) := by decide +kernel
theorem d_Rd_readObject_107 : decode b_Rd_readObject 107 = .ok (.iload 5, 2) := by decide +kernel
theorem d_Rd_readObject_109 : decode b_Rd_readObject 109 = .ok (.bipush 125, 2) := by decide +kernel
theorem d_Rd_readObject_111 : decode b_Rd_readObject 111 = .ok (.if_icmp .eq 12, 3) := by decide +kernel
theorem d_Rd_readObject_114 : decode b_Rd_readObject 114 = .ok (.aload_n 0, 1) := by decide +kernel
theorem d_Rd_readObject_115 : decode b_Rd_readObject 115 = .ok (.aload_n 0, 1) := by decide +kernel
theorem d_Rd_readObject_116 : decode b_Rd_readObject 116 = .ok (.getfield 28, 3) := by decide +kernel
theorem d_Rd_readObject_119 : decode b_Rd_readObject 119 = .ok (.invokevirtual 44, 3) := by decide +kernel
theorem d_Rd_readObject_122 : decode b_Rd_readObject 122 = .ok (.ireturn, 1) := by decide +kernel
theorem d_Rd_readObject_123 : decode b_Rd_readObject 123 = .ok (.aload_n 0, 1) := by decide +kernel
theorem d_Rd_readObject_124 : decode b_Rd_readObject 124 = .ok (.dup, 1) := by decide +kernel
theorem d_Rd_readObject_125 : decode b_Rd_readObject 125 = .ok (.getfield 28, 3) := by decide +kernel
theorem d_Rd_readObject_128 : decode b_Rd_readObject 128 = .ok (.iconst 1, 1) := by decide +kernel
theorem d_Rd_readObject_129 : decode b_Rd_readObject 129 = .ok (.iadd, 1) := by decide +kernel
theorem d_Rd_readObject_130 : decode b_Rd_readObject 130 = .ok (.putfield 28, 3) := by decide +kernel
theorem d_Rd_readObject_133 : decode b_Rd_readObject 133 = .ok (.aload_n 0, 1) := by decide +kernel
theorem d_Rd_readObject_134 : decode b_Rd_readObject 134 = .ok (.getfield 15, 3) := by decide +kernel
theorem d_Rd_readObject_137 : decode b_Rd_readObject 137 = .ok (.iload_n 1, 1) := by decide +kernel
theorem d_Rd_readObject_138 : decode b_Rd_readObject 138 = .ok (.iload_n 3, 1) := by decide +kernel
theorem d_Rd_readObject_139 : decode b_Rd_readObject 139 = .ok (.iconst 1, 1) := by decide +kernel
theorem d_Rd_readObject_140 : decode b_Rd_readObject 140 = .ok (.iadd, 1) := by decide +kernel
theorem d_Rd_readObject_141 : decode b_Rd_readObject 141 = .ok (.invokevirtual 95, 3) := by decide +kernel
theorem d_Rd_readObject_144 : decode b_Rd_readObject 144 = .ok (.iload 5, 2) := by decide +kernel
theorem d_Rd_readObject_146 : decode b_Rd_readObject 146 = .ok (.bipush 125, 2) := by decide +kernel
theorem d_Rd_readObject_148 : decode b_Rd_readObject 148 = .ok (.if_icmp .ne 5, 3) := by decide +kernel
theorem d_Rd_readObject_151 : decode b_Rd_readObject 151 = .ok (.iconst 1, 1) := by decide +kernel
theorem d_Rd_readObject_152 : decode b_Rd_readObject 152 = .ok (.ireturn, 1) := by decide +kernel
theorem d_Rd_readObject_153 : decode b_Rd_readObject 153 = .ok (.iinc 3 1, 3) := by decide +kernel
theorem d_Rd_readObject_156 : decode b_Rd_readObject 156 = .ok (.goto (-119), 3) := by decide +kernel
theorem d_Rd_readObject_159 : decode b_Rd_readObject 159 = .ok (.aload_n 0, 1) := by decide +kernel
theorem d_Rd_readObject_160 : decode b_Rd_readObject 160 = .ok (.invokevirtual 41, 3) := by decide +kernel
theorem d_Rd_readObject_163 : decode b_Rd_readObject 163 = .ok (.aload_n 0, 1) := by decide +kernel
theorem d_Rd_readObject_164 : decode b_Rd_readObject 164 = .ok (.aload_n 0, 1) := by decide +kernel
theorem d_Rd_readObject_165 : decode b_Rd_readObject 165 = .ok (.getfield 28, 3) := by decide +kernel
theorem d_Rd_readObject_168 : decode b_Rd_readObject 168 = .ok (.invokevirtual 44, 3) := by decide +kernel
theorem d_Rd_readObject_171 : decode b_Rd_readObject 171 = .ok (.ireturn, 1) := by decide +kernel
theorem d_Rd_readArray_0 : decode b_Rd_readArray 0 = .ok (.aload_n 0, 1) := by decide +kernel
theorem d_Rd_readArray_1 : decode b_Rd_readArray 1 = .ok (.dup, 1) := by decide +kernel
theorem d_Rd_readArray_2 : decode b_Rd_readArray 2 = .ok (.getfield 28, 3) := by decide +kernel
theorem d_Rd_readArray_5 : decode b_Rd_readArray 5 = .ok (.iconst 1, 1) := by decide +kernel
theorem d_Rd_readArray_6 : decode b_Rd_readArray 6 = .ok (.iadd, 1) := by decide +kernel
theorem d_Rd_readArray_7 : decode b_Rd_readArray 7 = .ok (.putfield 28, 3) := by decide +kernel
theorem d_Rd_readArray_10 : decode b_Rd_readArray 10 = .ok (.aload_n 0, 1) := by decide +kernel
theorem d_Rd_readArray_11 : decode b_Rd_readArray 11 = .ok (.invokevirtual 41, 3) := by decide +kernel
theorem d_Rd_readArray_14 : decode b_Rd_readArray 14 = .ok (.aload_n 0, 1) := by decide +kernel
theorem d_Rd_readArray_15 : decode b_Rd_readArray 15 = .ok (.invokevirtual 48, 3) := by decide +kernel
theorem d_Rd_readArray_18 : decode b_Rd_readArray 18 = .ok (.bipush 93, 2) := by decide +kernel
theorem d_Rd_readArray_20 : decode b_Rd_readArray 20 = .ok (.if_icmp .ne 15, 3) := by decide +kernel
theorem d_Rd_readArray_23 : decode b_Rd_readArray 23 = .ok (.aload_n 0, 1) := by decide +kernel
theorem d_Rd_readArray_24 : decode b_Rd_readArray 24 = .ok (.dup, 1) := by decide +kernel
theorem d_Rd_readArray_25 : decode b_Rd_readArray 25 = .ok (.getfield 28, 3) := by decide +kernel
theorem d_Rd_readArray_28 : decode b_Rd_readArray 28 = .ok (.iconst 1, 1) := by decide +kernel
theorem d_Rd_readArray_29 : decode b_Rd_readArray 29 = .ok (.iadd, 1) := by decide +kernel
theorem d_Rd_readArray_30 : decode b_Rd_readArray 30 = .ok (.putfield 28, 3) := by decide +kernel
theorem d_Rd_readArray_33 : decode b_Rd_readArray 33 = .ok (.iconst 1, 1) := by decide +kernel
theorem d_Rd_readArray_34 : decode b_Rd_readArray 34 = .ok (.ireturn, 1) := by decide +kernel
theorem d_Rd_readArray_35 : decode b_Rd_readArray 35 = .ok (.iconst 0, 1) := by decide +kernel
theorem d_Rd_readArray_36 : decode b_Rd_readArray 36 = .ok (.istore_n 3, 1) := by decide +kernel
theorem d_Rd_readArray_37 : decode b_Rd_readArray 37 = .ok (.iload_n 3, 1) := by decide +kernel
theorem d_Rd_readArray_38 : decode b_Rd_readArray 38 = .ok (.bipush 60, 2) := by decide +kernel
theorem d_Rd_readArray_40 : decode b_Rd_readArray 40 = .ok (.if_icmp .ge 86, 3) := by decide +kernel
theorem d_Rd_readArray_43 : decode b_Rd_readArray 43 = .ok (.aload_n 0, 1) := by decide +kernel
theorem d_Rd_readArray_44 : decode b_Rd_readArray 44 = .ok (.iload_n 1, 1) := by decide +kernel
theorem d_Rd_readArray_45 : decode b_Rd_readArray 45 = .ok (.iload_n 3, 1) := by decide +kernel
theorem d_Rd_readArray_46 : decode b_Rd_readArray 46 = .ok (.iload_n 2, 1) := by decide +kernel
theorem d_Rd_readArray_47 : decode b_Rd_readArray 47 = .ok (.iconst 1, 1) := by decide +kernel
theorem d_Rd_readArray_48 : decode b_Rd_readArray 48 = .ok (.iadd, 1) := by decide +kernel
theorem d_Rd_readArray_49 : decode b_Rd_readArray 49 = .ok (.invokevirtual 37, 3) := by decide +kernel
theorem d_Rd_readArray_52 : decode b_Rd_readArray 52 = .ok (.ifCond .ne 5, 3) := by decide +kernel
theorem d_Rd_readArray_55 : decode b_Rd_readArray 55 = .ok (.iconst 0, 1) := by decide +kernel
theorem d_Rd_readArray_56 : decode b_Rd_readArray 56 = .ok (.ireturn, 1) := by decide +kernel
theorem d_Rd_readArray_57 : decode b_Rd_readArray 57 = .ok (.aload_n 0, 1) := by decide +kernel
theorem d_Rd_readArray_58 : decode b_Rd_readArray 58 = .ok (.invokevirtual 41, 3) := by decide +kernel
theorem d_Rd_readArray_61 : decode b_Rd_readArray 61 = .ok (.aload_n 0, 1) := by decide +kernel
theorem d_Rd_readArray_62 : decode b_Rd_readArray 62 = .ok (.invokevirtual 48, 3) := by decide +kernel
theorem d_Rd_readArray_65 : decode b_Rd_readArray 65 = .ok (.istore 4, 2) := by decide +kernel
theorem d_Rd_readArray_67 : decode b_Rd_readArray 67 = .ok (.iload 4, 2) := by decide +kernel
theorem d_Rd_readArray_69 : decode b_Rd_readArray 69 = .ok (.bipush 44, 2) := by decide +kernel
theorem d_Rd_readArray_71 : decode b_Rd_readArray 71 = .ok (.if_icmp .eq 19, 3) := by decide +kernel
theorem d_Rd_readArray_74 : decode b_Rd_readArray 74 = .ok (.iload 4, 2) := by decide +kernel
theorem d_Rd_readArray_76 : decode b_Rd_readArray 76 = .ok (.bipush 93, 2) := by decide +kernel
theorem d_Rd_readArray_78 : decode b_Rd_readArray 78 = .ok (.if_icmp .eq 12, 3) := by decide +kernel
theorem d_Rd_readArray_81 : decode b_Rd_readArray 81 = .ok (.aload_n 0, 1) := by decide +kernel
theorem d_Rd_readArray_82 : decode b_Rd_readArray 82 = .ok (.aload_n 0, 1) := by decide +kernel
theorem d_Rd_readArray_83 : decode b_Rd_readArray 83 = .ok (.getfield 28, 3) := by decide +kernel
theorem d_Rd_readArray_86 : decode b_Rd_readArray 86 = .ok (.invokevirtual 44, 3) := by decide +kernel
theorem d_Rd_readArray_89 : decode b_Rd_readArray 89 = .ok (.ireturn, 1) := by decide +kernel
theorem d_Rd_readArray_90 : decode b_Rd_readArray 90 = .ok (.aload_n 0, 1) := by decide +kernel
theorem d_Rd_readArray_91 : decode b_Rd_readArray 91 = .ok (.dup, 1) := by decide +kernel
theorem d_Rd_readArray_92 : decode b_Rd_readArray 92 = .ok (.getfield 28, 3) := by decide +kernel
theorem d_Rd_readArray_95 : decode b_Rd_readArray 95 = .ok (.iconst 1, 1) := by decide +kernel
theorem d_Rd_readArray_96 : decode b_Rd_readArray 96 = .ok (.iadd, 1) := by decide +kernel
theorem d_Rd_readArray_97 : decode b_Rd_readArray 97 = .ok (.putfield 28, 3) := by decide +kernel
theorem d_Rd_readArray_100 : decode b_Rd_readArray 100 = .ok (.iload 4, 2) := by decide +kernel
theorem d_Rd_readArray_102 : decode b_Rd_readArray 102 = .ok (.bipush 93, 2) := by decide +kernel
theorem d_Rd_readArray_104 : decode b_Rd_readArray 104 = .ok (.if_icmp .ne 16, 3) := by decide +kernel
theorem d_Rd_readArray_107 : decode b_Rd_readArray 107 = .ok (.aload_n 0, 1) := by decide +kernel
theorem d_Rd_readArray_108 : decode b_Rd_readArray 108 = .ok (.getfield 15, 3) := by decide +kernel
theorem d_Rd_readArray_111 : decode b_Rd_readArray 111 = .ok (.iload_n 1, 1) := by decide +kernel
theorem d_Rd_readArray_112 : decode b_Rd_readArray 112 = .ok (.iload_n 3, 1) := by decide +kernel
theorem d_Rd_readArray_113 : decode b_Rd_readArray 113 = .ok (.iconst 1, 1) := by decide +kernel
theorem d_Rd_readArray_114 : decode b_Rd_readArray 114 = .ok (.iadd, 1) := by decide +kernel
theorem d_Rd_readArray_115 : decode b_Rd_readArray 115 = .ok (.invokevirtual 95, 3) := by decide +kernel
theorem d_Rd_readArray_118 : decode b_Rd_readArray 118 = .ok (.iconst 1, 1) := by decide +kernel
theorem d_Rd_readArray_119 : decode b_Rd_readArray 119 = .ok (.ireturn, 1) := by decide +kernel
theorem d_Rd_readArray_120 : decode b_Rd_readArray 120 = .ok (.iinc 3 1, 3) := by decide +kernel
theorem d_Rd_readArray_123 : decode b_Rd_readArray 123 = .ok (.goto (-86), 3) := by decide +kernel
theorem d_Rd_readArray_126 : decode b_Rd_readArray 126 = .ok (.aload_n 0, 1) := by decide +kernel
theorem d_Rd_readArray_127 : decode b_Rd_readArray 127 = .ok (.invokevirtual 41, 3) := by decide +kernel
theorem d_Rd_readArray_130 : decode b_Rd_readArray 130 = .ok (.aload_n 0, 1) := by decide +kernel
theorem d_Rd_readArray_131 : decode b_Rd_readArray 131 = .ok (.aload_n 0, 1) := by decide +kernel
theorem d_Rd_readArray_132 : decode b_Rd_readArray 132 = .ok (.getfield 28, 3) := by decide +kernel
theorem d_Rd_readArray_135 : decode b_Rd_readArray 135 = .ok (.invokevirtual 44, 3) := by decide +kernel
theorem d_Rd_readArray_138 : decode b_Rd_readArray 138 = .ok (.ireturn, 1) := by decide +kernel
theorem d_Rd_readValue_0 : decode b_Rd_readValue 0 = .ok (.aload_n 0, 1) := by decide +kernel
theorem d_Rd_readValue_1 : decode b_Rd_readValue 1 = .ok (.invokevirtual 41, 3) := by decide +kernel
theorem d_Rd_readValue_4 : decode b_Rd_readValue 4 = .ok (.aload_n 0, 1) := by decide +kernel
theorem d_Rd_readValue_5 : decode b_Rd_readValue 5 = .ok (.invokevirtual 48, 3) := by decide +kernel
theorem d_Rd_readValue_8 : decode b_Rd_readValue 8 = .ok (.invokestatic 55, 3) := by decide +kernel
theorem d_Rd_readValue_11 : decode b_Rd_readValue 11 = .ok (.istore 4, 2) := by decide +kernel
theorem d_Rd_readValue_13 : decode b_Rd_readValue 13 = .ok (.iload 4, 2) := by decide +kernel
theorem d_Rd_readValue_15 : decode b_Rd_readValue 15 = .ok (.iconst (-1), 1) := by decide +kernel
theorem d_Rd_readValue_16 : decode b_Rd_readValue 16 = .ok (.if_icmp .eq 15, 3) := by decide +kernel
theorem d_Rd_readValue_19 : decode b_Rd_readValue 19 = .ok (.iload 4, 2) := by decide +kernel
theorem d_Rd_readValue_21 : decode b_Rd_readValue 21 = .ok (.iconst 5, 1) := by decide +kernel
theorem d_Rd_readValue_22 : decode b_Rd_readValue 22 = .ok (.if_icmp .lt 18, 3) := by decide +kernel
theorem d_Rd_readValue_25 : decode b_Rd_readValue 25 = .ok (.iload_n 3, 1) := by decide +kernel
theorem d_Rd_readValue_26 : decode b_Rd_readValue 26 = .ok (.bipush 40, 2) := by decide +kernel
theorem d_Rd_readValue_28 : decode b_Rd_readValue 28 = .ok (.if_icmp .le 12, 3) := by decide +kernel
theorem d_Rd_readValue_31 : decode b_Rd_readValue 31 = .ok (.aload_n 0, 1) := by decide +kernel
theorem d_Rd_readValue_32 : decode b_Rd_readValue 32 = .ok (.aload_n 0, 1) := by decide +kernel
theorem d_Rd_readValue_33 : decode b_Rd_readValue 33 = .ok (.getfield 28, 3) := by decide +kernel
theorem d_Rd_readValue_36 : decode b_Rd_readValue 36 = .ok (.invokevirtual 44, 3) := by decide +kernel
theorem d_Rd_readValue_39 : decode b_Rd_readValue 39 = .ok (.ireturn, 1) := by decide +kernel
theorem d_Rd_readValue_40 : decode b_Rd_readValue 40 = .ok (.aload_n 0, 1) := by decide +kernel
theorem d_Rd_readValue_41 : decode b_Rd_readValue 41 = .ok (.getfield 15, 3) := by decide +kernel
theorem d_Rd_readValue_44 : decode b_Rd_readValue 44 = .ok (.iload 4, 2) := by decide +kernel
theorem d_Rd_readValue_46 : decode b_Rd_readValue 46 = .ok (.aload_n 0, 1) := by decide +kernel
theorem d_Rd_readValue_47 : decode b_Rd_readValue 47 = .ok (.getfield 28, 3) := by decide +kernel
theorem d_Rd_readValue_50 : decode b_Rd_readValue 50 = .ok (.iload_n 1, 1) := by decide +kernel
theorem d_Rd_readValue_51 : decode b_Rd_readValue 51 = .ok (.iload_n 2, 1) := by decide +kernel
theorem d_Rd_readValue_52 : decode b_Rd_readValue 52 = .ok (.invokevirtual 59, 3) := by decide +kernel
theorem d_Rd_readValue_55 : decode b_Rd_readValue 55 = .ok (.istore 5, 2) := by decide +kernel
theorem d_Rd_readValue_57 : decode b_Rd_readValue 57 = .ok (.iload 5, 2) := by decide +kernel
theorem d_Rd_readValue_59 : decode b_Rd_readValue 59 = .ok (.iconst (-1), 1) := by decide +kernel
theorem d_Rd_readValue_60 : decode b_Rd_readValue 60 = .ok (.if_icmp .ne 12, 3) := by decide +kernel
theorem d_Rd_readValue_63 : decode b_Rd_readValue 63 = .ok (.aload_n 0, 1) := by decide +kernel
theorem d_Rd_readValue_64 : decode b_Rd_readValue 64 = .ok (.aload_n 0, 1) := by decide +kernel
theorem d_Rd_readValue_65 : decode b_Rd_readValue 65 = .ok (.getfield 28, 3) := by decide +kernel
theorem d_Rd_readValue_68 : decode b_Rd_readValue 68 = .ok (.invokevirtual 44, 3) := by decide +kernel
theorem d_Rd_readValue_71 : decode b_Rd_readValue 71 = .ok (.ireturn, 1) := by decide +kernel
theorem d_Rd_readValue_72 : decode b_Rd_readValue 72 = .ok (.iload 4, 2) := by decide +kernel
theorem d_Rd_readValue_74 : decode b_Rd_readValue 74 = .ok (.tableswitch 81 0 5 #[38, 45, 52, 59, 66, 73], 38) := by decide +kernel
theorem d_Rd_readValue_112 : decode b_Rd_readValue 112 = .ok (.aload_n 0, 1) := by decide +kernel
theorem d_Rd_readValue_113 : decode b_Rd_readValue 113 = .ok (.ldc 63, 2) := by decide +kernel
theorem d_Rd_readValue_115 : decode b_Rd_readValue 115 = .ok (.invokevirtual 65, 3) := by decide +kernel
theorem d_Rd_readValue_118 : decode b_Rd_readValue 118 = .ok (.ireturn, 1) := by decide +kernel
theorem d_Rd_readValue_119 : decode b_Rd_readValue 119 = .ok (.aload_n 0, 1) := by decide +kernel
theorem d_Rd_readValue_120 : decode b_Rd_readValue 120 = .ok (.ldc 69, 2) := by decide +kernel
theorem d_Rd_readValue_122 : decode b_Rd_readValue 122 = .ok (.invokevirtual 65, 3) := by decide +kernel
theorem d_Rd_readValue_125 : decode b_Rd_readValue 125 = .ok (.ireturn, 1) := by decide +kernel
theorem d_Rd_readValue_126 : decode b_Rd_readValue 126 = .ok (.aload_n 0, 1) := by decide +kernel
theorem d_Rd_readValue_127 : decode b_Rd_readValue 127 = .ok (.ldc 71, 2) := by decide +kernel
theorem d_Rd_readValue_129 : decode b_Rd_readValue 129 = .ok (.invokevirtual 65, 3) := by decide +kernel
theorem d_Rd_readValue_132 : decode b_Rd_readValue 132 = .ok (.ireturn, 1) := by decide +kernel
theorem d_Rd_readValue_133 : decode b_Rd_readValue 133 = .ok (.aload_n 0, 1) := by decide +kernel
theorem d_Rd_readValue_134 : decode b_Rd_readValue 134 = .ok (.iload 5, 2) := by decide +kernel
theorem d_Rd_readValue_136 : decode b_Rd_readValue 136 = .ok (.invokevirtual 73, 3) := by decide +kernel
theorem d_Rd_readValue_139 : decode b_Rd_readValue 139 = .ok (.ireturn, 1) := by decide +kernel
theorem d_Rd_readValue_140 : decode b_Rd_readValue 140 = .ok (.aload_n 0, 1) := by decide +kernel
theorem d_Rd_readValue_141 : decode b_Rd_readValue 141 = .ok (.iload 5, 2) := by decide +kernel
theorem d_Rd_readValue_143 : decode b_Rd_readValue 143 = .ok (.invokevirtual 76, 3) := by decide +kernel
theorem d_Rd_readValue_146 : decode b_Rd_readValue 146 = .ok (.ireturn, 1) := by decide +kernel
theorem d_Rd_readValue_147 : decode b_Rd_readValue 147 = .ok (.aload_n 0, 1) := by decide +kernel
theorem d_Rd_readValue_148 : decode b_Rd_readValue 148 = .ok (.iload 5, 2) := by decide +kernel
theorem d_Rd_readValue_150 : decode b_Rd_readValue 150 = .ok (.iload_n 3, 1) := by decide +kernel
theorem d_Rd_readValue_151 : decode b_Rd_readValue 151 = .ok (.invokevirtual 79, 3) := by decide +kernel
theorem d_Rd_readValue_154 : decode b_Rd_readValue 154 = .ok (.ireturn, 1) := by decide +kernel
theorem d_Rd_readValue_155 : decode b_Rd_readValue 155 = .ok (.aload_n 0, 1) := by decide +kernel
theorem d_Rd_readValue_156 : decode b_Rd_readValue 156 = .ok (.iload 5, 2) := by decide +kernel
theorem d_Rd_readValue_158 : decode b_Rd_readValue 158 = .ok (.iload_n 3, 1) := by decide +kernel
theorem d_Rd_readValue_159 : decode b_Rd_readValue 159 = .ok (.invokevirtual 83, 3) := by decide +kernel
theorem d_Rd_readValue_162 : decode b_Rd_readValue 162 = .ok (.ireturn, 1) := by decide +kernel
theorem d_Rd_read_0 : decode b_Rd_read 0 = .ok (.aload_n 0, 1) := by decide +kernel
theorem d_Rd_read_1 : decode b_Rd_read 1 = .ok (.aload_n 1, 1) := by decide +kernel
theorem d_Rd_read_2 : decode b_Rd_read 2 = .ok (.putfield 15, 3) := by decide +kernel
theorem d_Rd_read_5 : decode b_Rd_read 5 = .ok (.aload_n 0, 1) := by decide +kernel
theorem d_Rd_read_6 : decode b_Rd_read 6 = .ok (.getfield 15, 3) := by decide +kernel
theorem d_Rd_read_9 : decode b_Rd_read 9 = .ok (.invokevirtual 23, 3) := by decide +kernel
theorem d_Rd_read_12 : decode b_Rd_read 12 = .ok (.aload_n 0, 1) := by decide +kernel
theorem d_Rd_read_13 : decode b_Rd_read 13 = .ok (.iconst 0, 1) := by decide +kernel
theorem d_Rd_read_14 : decode b_Rd_read 14 = .ok (.putfield 28, 3) := by decide +kernel
theorem d_Rd_read_17 : decode b_Rd_read 17 = .ok (.aload_n 0, 1) := by decide +kernel
theorem d_Rd_read_18 : decode b_Rd_read 18 = .ok (.iload_n 2, 1) := by decide +kernel
theorem d_Rd_read_19 : decode b_Rd_read 19 = .ok (.putfield 31, 3) := by decide +kernel
theorem d_Rd_read_22 : decode b_Rd_read 22 = .ok (.aload_n 0, 1) := by decide +kernel
theorem d_Rd_read_23 : decode b_Rd_read 23 = .ok (.iconst (-1), 1) := by decide +kernel
theorem d_Rd_read_24 : decode b_Rd_read 24 = .ok (.putfield 34, 3) := by decide +kernel
theorem d_Rd_read_27 : decode b_Rd_read 27 = .ok (.aload_n 0, 1) := by decide +kernel
theorem d_Rd_read_28 : decode b_Rd_read 28 = .ok (.iconst (-1), 1) := by decide +kernel
theorem d_Rd_read_29 : decode b_Rd_read 29 = .ok (.iconst 0, 1) := by decide +kernel
theorem d_Rd_read_30 : decode b_Rd_read 30 = .ok (.iconst 1, 1) := by decide +kernel
theorem d_Rd_read_31 : decode b_Rd_read 31 = .ok (.invokevirtual 37, 3) := by decide +kernel
theorem d_Rd_read_34 : decode b_Rd_read 34 = .ok (.istore_n 3, 1) := by decide +kernel
theorem d_Rd_read_35 : decode b_Rd_read 35 = .ok (.iload_n 3, 1) := by decide +kernel
theorem d_Rd_read_36 : decode b_Rd_read 36 = .ok (.ifCond .eq 27, 3) := by decide +kernel
theorem d_Rd_read_39 : decode b_Rd_read 39 = .ok (.aload_n 0, 1) := by decide +kernel
theorem d_Rd_read_40 : decode b_Rd_read 40 = .ok (.invokevirtual 41, 3) := by decide +kernel
theorem d_Rd_read_43 : decode b_Rd_read 43 = .ok (.aload_n 0, 1) := by decide +kernel
theorem d_Rd_read_44 : decode b_Rd_read 44 = .ok (.getfield 28, 3) := by decide +kernel
theorem d_Rd_read_47 : decode b_Rd_read 47 = .ok (.aload_n 0, 1) := by decide +kernel
theorem d_Rd_read_48 : decode b_Rd_read 48 = .ok (.getfield 31, 3) := by decide +kernel
theorem d_Rd_read_51 : decode b_Rd_read 51 = .ok (.if_icmp .ge 12, 3) := by decide +kernel
theorem d_Rd_read_54 : decode b_Rd_read 54 = .ok (.aload_n 0, 1) := by decide +kernel
theorem d_Rd_read_55 : decode b_Rd_read 55 = .ok (.aload_n 0, 1) := by decide +kernel
theorem d_Rd_read_56 : decode b_Rd_read 56 = .ok (.getfield 28, 3) := by decide +kernel
theorem d_Rd_read_59 : decode b_Rd_read 59 = .ok (.invokevirtual 44, 3) := by decide +kernel
theorem d_Rd_read_62 : decode b_Rd_read 62 = .ok (.pop, 1) := by decide +kernel
theorem d_Rd_read_63 : decode b_Rd_read 63 = .ok (.aload_n 0, 1) := by decide +kernel
theorem d_Rd_read_64 : decode b_Rd_read 64 = .ok (.getfield 34, 3) := by decide +kernel
theorem d_Rd_read_67 : decode b_Rd_read 67 = .ok (.iconst (-1), 1) := by decide +kernel
theorem d_Rd_read_68 : decode b_Rd_read 68 = .ok (.if_icmp .eq 10, 3) := by decide +kernel
theorem d_Rd_read_71 : decode b_Rd_read 71 = .ok (.aload_n 0, 1) := by decide +kernel
theorem d_Rd_read_72 : decode b_Rd_read 72 = .ok (.getfield 15, 3) := by decide +kernel
theorem d_Rd_read_75 : decode b_Rd_read 75 = .ok (.invokevirtual 23, 3) := by decide +kernel
theorem d_Rd_read_78 : decode b_Rd_read 78 = .ok (.aload_n 0, 1) := by decide +kernel
theorem d_Rd_read_79 : decode b_Rd_read 79 = .ok (.iconst 0, 1) := by decide +kernel
theorem d_Rd_read_80 : decode b_Rd_read 80 = .ok (.putfield 19, 3) := by decide +kernel
theorem d_Rd_read_83 : decode b_Rd_read 83 = .ok (.aload_n 0, 1) := by decide +kernel
theorem d_Rd_read_84 : decode b_Rd_read 84 = .ok (.getfield 34, 3) := by decide +kernel
theorem d_Rd_read_87 : decode b_Rd_read 87 = .ok (.ireturn, 1) := by decide +kernel
theorem d_Tx_total_0 : decode b_Tx_total 0 = .ok (.aload_n 0, 1) := by decide +kernel
theorem d_Tx_total_1 : decode b_Tx_total 1 = .ok (.getfield 43, 3) := by decide +kernel
theorem d_Tx_total_4 : decode b_Tx_total 4 = .ok (.ireturn, 1) := by decide +kernel
theorem d_SJ_end_0 : decode b_SJ_end 0 = .ok (.iload_n 2, 1) := by decide +kernel
theorem d_SJ_end_1 : decode b_SJ_end 1 = .ok (.ifCond .lt 21, 3) := by decide +kernel
theorem d_SJ_end_4 : decode b_SJ_end 4 = .ok (.iload_n 2, 1) := by decide +kernel
theorem d_SJ_end_5 : decode b_SJ_end 5 = .ok (.sipush 8192, 3) := by decide +kernel
theorem d_SJ_end_8 : decode b_SJ_end 8 = .ok (.if_icmp .gt 14, 3) := by decide +kernel
theorem d_SJ_end_11 : decode b_SJ_end 11 = .ok (.iload_n 2, 1) := by decide +kernel
theorem d_SJ_end_12 : decode b_SJ_end 12 = .ok (.aload_n 0, 1) := by decide +kernel
theorem d_SJ_end_13 : decode b_SJ_end 13 = .ok (.getfield 24, 3) := by decide +kernel
theorem d_SJ_end_16 : decode b_SJ_end 16 = .ok (.invokevirtual 84, 3) := by decide +kernel
theorem d_SJ_end_19 : decode b_SJ_end 19 = .ok (.if_icmp .le 13, 3) := by decide +kernel
theorem d_SJ_end_22 : decode b_SJ_end 22 = .ok (.new 73, 3) := by decide +kernel
theorem d_SJ_end_25 : decode b_SJ_end 25 = .ok (.dup, 1) := by decide +kernel
theorem d_SJ_end_26 : decode b_SJ_end 26 = .ok (.ldc 88, 2) := by decide +kernel
theorem d_SJ_end_28 : decode b_SJ_end 28 = .ok (.invokespecial 77, 3) := by decide +kernel
theorem d_SJ_end_31 : decode b_SJ_end 31 = .ok (.athrow, 1) := by decide +kernel
theorem d_SJ_end_32 : decode b_SJ_end 32 = .ok (.iload_n 1, 1) := by decide +kernel
theorem d_SJ_end_33 : decode b_SJ_end 33 = .ok (.ifCond .eq 10, 3) := by decide +kernel
theorem d_SJ_end_36 : decode b_SJ_end 36 = .ok (.aload_n 0, 1) := by decide +kernel
theorem d_SJ_end_37 : decode b_SJ_end 37 = .ok (.getfield 52, 3) := by decide +kernel
theorem d_SJ_end_40 : decode b_SJ_end 40 = .ok (.invokevirtual 90, 3) := by decide +kernel
theorem d_SJ_end_43 : decode b_SJ_end 43 = .ok (.iload_n 1, 1) := by decide +kernel
theorem d_SJ_end_44 : decode b_SJ_end 44 = .ok (.ifCond .eq 10, 3) := by decide +kernel
theorem d_SJ_end_47 : decode b_SJ_end 47 = .ok (.aload_n 0, 1) := by decide +kernel
theorem d_SJ_end_48 : decode b_SJ_end 48 = .ok (.getfield 10, 3) := by decide +kernel
theorem d_SJ_end_51 : decode b_SJ_end 51 = .ok (.goto 7, 3) := by decide +kernel
theorem d_SJ_end_54 : decode b_SJ_end 54 = .ok (.aload_n 0, 1) := by decide +kernel
theorem d_SJ_end_55 : decode b_SJ_end 55 = .ok (.getfield 16, 3) := by decide +kernel
theorem d_SJ_end_58 : decode b_SJ_end 58 = .ok (.astore_n 3, 1) := by decide +kernel
theorem d_SJ_end_59 : decode b_SJ_end 59 = .ok (.aload_n 0, 1) := by decide +kernel
theorem d_SJ_end_60 : decode b_SJ_end 60 = .ok (.aload_n 0, 1) := by decide +kernel
theorem d_SJ_end_61 : decode b_SJ_end 61 = .ok (.getfield 24, 3) := by decide +kernel
theorem d_SJ_end_64 : decode b_SJ_end 64 = .ok (.aload_n 3, 1) := by decide +kernel
theorem d_SJ_end_65 : decode b_SJ_end 65 = .ok (.iload_n 2, 1) := by decide +kernel
theorem d_SJ_end_66 : decode b_SJ_end 66 = .ok (.invokevirtual 93, 3) := by decide +kernel
theorem d_SJ_end_69 : decode b_SJ_end 69 = .ok (.putfield 65, 3) := by decide +kernel
theorem d_SJ_end_72 : decode b_SJ_end 72 = .ok (.aload_n 0, 1) := by decide +kernel
theorem d_SJ_end_73 : decode b_SJ_end 73 = .ok (.getfield 65, 3) := by decide +kernel
theorem d_SJ_end_76 : decode b_SJ_end 76 = .ok (.iconst (-1), 1) := by decide +kernel
theorem d_SJ_end_77 : decode b_SJ_end 77 = .ok (.if_icmp .eq 13, 3) := by decide +kernel
theorem d_SJ_end_80 : decode b_SJ_end 80 = .ok (.new 97, 3) := by decide +kernel
theorem d_SJ_end_83 : decode b_SJ_end 83 = .ok (.dup, 1) := by decide +kernel
theorem d_SJ_end_84 : decode b_SJ_end 84 = .ok (.ldc 99, 2) := by decide +kernel
theorem d_SJ_end_86 : decode b_SJ_end 86 = .ok (.invokespecial 101, 3) := by decide +kernel
theorem d_SJ_end_89 : decode b_SJ_end 89 = .ok (.athrow, 1) := by decide +kernel
theorem d_SJ_end_90 : decode b_SJ_end 90 = .ok (.aload_n 3, 1) := by decide +kernel
theorem d_SJ_end_91 : decode b_SJ_end 91 = .ok (.invokevirtual 102, 3) := by decide +kernel
theorem d_SJ_end_94 : decode b_SJ_end 94 = .ok (.ireturn, 1) := by decide +kernel
theorem d_SJ_wrong_0 : decode b_SJ_wrong 0 = .ok (.aload_n 0, 1) := by decide +kernel
theorem d_SJ_wrong_1 : decode b_SJ_wrong 1 = .ok (.getfield 65, 3) := by decide +kernel
theorem d_SJ_wrong_4 : decode b_SJ_wrong 4 = .ok (.ireturn, 1) := by decide +kernel
theorem d_Mk_clear_0 : decode b_Mk_clear 0 = .ok (.iconst 0, 1) := by decide +kernel
theorem d_Mk_clear_1 : decode b_Mk_clear 1 = .ok (.istore_n 1, 1) := by decide +kernel
theorem d_Mk_clear_2 : decode b_Mk_clear 2 = .ok (.iload_n 1, 1) := by decide +kernel
theorem d_Mk_clear_3 : decode b_Mk_clear 3 = .ok (.sipush 1000, 3) := by decide +kernel
theorem d_Mk_clear_6 : decode b_Mk_clear 6 = .ok (.if_icmp .ge 30, 3) := by decide +kernel
theorem d_Mk_clear_9 : decode b_Mk_clear 9 = .ok (.aload_n 0, 1) := by decide +kernel
theorem d_Mk_clear_10 : decode b_Mk_clear 10 = .ok (.getfield 9, 3) := by decide +kernel
theorem d_Mk_clear_13 : decode b_Mk_clear 13 = .ok (.iload_n 1, 1) := by decide +kernel
theorem d_Mk_clear_14 : decode b_Mk_clear 14 = .ok (.iconst 0, 1) := by decide +kernel
theorem d_Mk_clear_15 : decode b_Mk_clear 15 = .ok (.iastore, 1) := by decide +kernel
theorem d_Mk_clear_16 : decode b_Mk_clear 16 = .ok (.aload_n 0, 1) := by decide +kernel
theorem d_Mk_clear_17 : decode b_Mk_clear 17 = .ok (.getfield 15, 3) := by decide +kernel
theorem d_Mk_clear_20 : decode b_Mk_clear 20 = .ok (.iload_n 1, 1) := by decide +kernel
theorem d_Mk_clear_21 : decode b_Mk_clear 21 = .ok (.iconst 0, 1) := by decide +kernel
theorem d_Mk_clear_22 : decode b_Mk_clear 22 = .ok (.bastore, 1) := by decide +kernel
theorem d_Mk_clear_23 : decode b_Mk_clear 23 = .ok (.aload_n 0, 1) := by decide +kernel
theorem d_Mk_clear_24 : decode b_Mk_clear 24 = .ok (.getfield 19, 3) := by decide +kernel
theorem d_Mk_clear_27 : decode b_Mk_clear 27 = .ok (.iload_n 1, 1) := by decide +kernel
theorem d_Mk_clear_28 : decode b_Mk_clear 28 = .ok (.iconst (-1), 1) := by decide +kernel
theorem d_Mk_clear_29 : decode b_Mk_clear 29 = .ok (.iastore, 1) := by decide +kernel
theorem d_Mk_clear_30 : decode b_Mk_clear 30 = .ok (.iinc 1 1, 3) := by decide +kernel
theorem d_Mk_clear_33 : decode b_Mk_clear 33 = .ok (.goto (-31), 3) := by decide +kernel
theorem d_Mk_clear_36 : decode b_Mk_clear 36 = .ok (.return_, 1) := by decide +kernel
theorem d_Tx_kind_0 : decode b_Tx_kind 0 = .ok (.iload_n 1, 1) := by decide +kernel
theorem d_Tx_kind_1 : decode b_Tx_kind 1 = .ok (.ifCond .lt 20, 3) := by decide +kernel
theorem d_Tx_kind_4 : decode b_Tx_kind 4 = .ok (.iload_n 1, 1) := by decide +kernel
theorem d_Tx_kind_5 : decode b_Tx_kind 5 = .ok (.aload_n 0, 1) := by decide +kernel
theorem d_Tx_kind_6 : decode b_Tx_kind 6 = .ok (.getfield 43, 3) := by decide +kernel
theorem d_Tx_kind_9 : decode b_Tx_kind 9 = .ok (.if_icmp .ge 12, 3) := by decide +kernel
theorem d_Tx_kind_12 : decode b_Tx_kind 12 = .ok (.aload_n 0, 1) := by decide +kernel
theorem d_Tx_kind_13 : decode b_Tx_kind 13 = .ok (.getfield 9, 3) := by decide +kernel
theorem d_Tx_kind_16 : decode b_Tx_kind 16 = .ok (.iload_n 1, 1) := by decide +kernel
theorem d_Tx_kind_17 : decode b_Tx_kind 17 = .ok (.iaload, 1) := by decide +kernel
theorem d_Tx_kind_18 : decode b_Tx_kind 18 = .ok (.goto 4, 3) := by decide +kernel
theorem d_Tx_kind_21 : decode b_Tx_kind 21 = .ok (.iconst (-1), 1) := by decide +kernel
theorem d_Tx_kind_22 : decode b_Tx_kind 22 = .ok (.ireturn, 1) := by decide +kernel
theorem d_Mk_markSchema_0 : decode b_Mk_markSchema 0 = .ok (.aload_n 0, 1) := by decide +kernel
theorem d_Mk_markSchema_1 : decode b_Mk_markSchema 1 = .ok (.getfield 22, 3) := by decide +kernel
theorem d_Mk_markSchema_4 : decode b_Mk_markSchema 4 = .ok (.iload_n 1, 1) := by decide +kernel
theorem d_Mk_markSchema_5 : decode b_Mk_markSchema 5 = .ok (.invokevirtual 26, 3) := by decide +kernel
theorem d_Mk_markSchema_8 : decode b_Mk_markSchema 8 = .ok (.istore_n 2, 1) := by decide +kernel
theorem d_Mk_markSchema_9 : decode b_Mk_markSchema 9 = .ok (.iload_n 2, 1) := by decide +kernel
theorem d_Mk_markSchema_10 : decode b_Mk_markSchema 10 = .ok (.bipush 6, 2) := by decide +kernel
theorem d_Mk_markSchema_12 : decode b_Mk_markSchema 12 = .ok (.if_icmp .eq 13, 3) := by decide +kernel
theorem d_Mk_markSchema_15 : decode b_Mk_markSchema 15 = .ok (.iload_n 2, 1) := by decide +kernel
theorem d_Mk_markSchema_16 : decode b_Mk_markSchema 16 = .ok (.iconst 2, 1) := by decide +kernel
theorem d_Mk_markSchema_17 : decode b_Mk_markSchema 17 = .ok (.if_icmp .eq 8, 3) := by decide +kernel
theorem d_Mk_markSchema_20 : decode b_Mk_markSchema 20 = .ok (.iload_n 2, 1) := by decide +kernel
theorem d_Mk_markSchema_21 : decode b_Mk_markSchema 21 = .ok (.iconst 1, 1) := by decide +kernel
theorem d_Mk_markSchema_22 : decode b_Mk_markSchema 22 = .ok (.if_icmp .ne 7, 3) := by decide +kernel
theorem d_Mk_markSchema_25 : decode b_Mk_markSchema 25 = .ok (.iconst 1, 1) := by decide +kernel
theorem d_Mk_markSchema_26 : decode b_Mk_markSchema 26 = .ok (.goto 4, 3) := by decide +kernel
theorem d_Mk_markSchema_29 : decode b_Mk_markSchema 29 = .ok (.iconst 0, 1) := by decide +kernel
theorem d_Mk_markSchema_30 : decode b_Mk_markSchema 30 = .ok (.istore_n 3, 1) := by decide +kernel
theorem d_Mk_markSchema_31 : decode b_Mk_markSchema 31 = .ok (.iload_n 3, 1) := by decide +kernel
theorem d_Mk_markSchema_32 : decode b_Mk_markSchema 32 = .ok (.ifCond .eq 21, 3) := by decide +kernel
theorem d_Mk_markSchema_35 : decode b_Mk_markSchema 35 = .ok (.iload_n 1, 1) := by decide +kernel
theorem d_Mk_markSchema_36 : decode b_Mk_markSchema 36 = .ok (.ifCond .lt 17, 3) := by decide +kernel
theorem d_Mk_markSchema_39 : decode b_Mk_markSchema 39 = .ok (.iload_n 1, 1) := by decide +kernel
theorem d_Mk_markSchema_40 : decode b_Mk_markSchema 40 = .ok (.sipush 1000, 3) := by decide +kernel
theorem d_Mk_markSchema_43 : decode b_Mk_markSchema 43 = .ok (.if_icmp .ge 10, 3) := by decide +kernel
theorem d_Mk_markSchema_46 : decode b_Mk_markSchema 46 = .ok (.aload_n 0, 1) := by decide +kernel
theorem d_Mk_markSchema_47 : decode b_Mk_markSchema 47 = .ok (.getfield 15, 3) := by decide +kernel
theorem d_Mk_markSchema_50 : decode b_Mk_markSchema 50 = .ok (.iload_n 1, 1) := by decide +kernel
theorem d_Mk_markSchema_51 : decode b_Mk_markSchema 51 = .ok (.iconst 1, 1) := by decide +kernel
theorem d_Mk_markSchema_52 : decode b_Mk_markSchema 52 = .ok (.bastore, 1) := by decide +kernel
theorem d_Mk_markSchema_53 : decode b_Mk_markSchema 53 = .ok (.iload_n 3, 1) := by decide +kernel
theorem d_Mk_markSchema_54 : decode b_Mk_markSchema 54 = .ok (.ireturn, 1) := by decide +kernel
