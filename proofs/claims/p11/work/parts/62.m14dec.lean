theorem d_SJ_isLetter_0 : decode b_SJ_isLetter 0 = .ok (.iload_n 0, 1) := by decide +kernel
theorem d_SJ_isLetter_1 : decode b_SJ_isLetter 1 = .ok (.bipush 97, 2) := by decide +kernel
theorem d_SJ_isLetter_3 : decode b_SJ_isLetter 3 = .ok (.if_icmp .lt 9, 3) := by decide +kernel
theorem d_SJ_isLetter_6 : decode b_SJ_isLetter 6 = .ok (.iload_n 0, 1) := by decide +kernel
theorem d_SJ_isLetter_7 : decode b_SJ_isLetter 7 = .ok (.bipush 122, 2) := by decide +kernel
theorem d_SJ_isLetter_9 : decode b_SJ_isLetter 9 = .ok (.if_icmp .le 21, 3) := by decide +kernel
theorem d_SJ_isLetter_12 : decode b_SJ_isLetter 12 = .ok (.iload_n 0, 1) := by decide +kernel
theorem d_SJ_isLetter_13 : decode b_SJ_isLetter 13 = .ok (.bipush 65, 2) := by decide +kernel
theorem d_SJ_isLetter_15 : decode b_SJ_isLetter 15 = .ok (.if_icmp .lt 9, 3) := by decide +kernel
theorem d_SJ_isLetter_18 : decode b_SJ_isLetter 18 = .ok (.iload_n 0, 1) := by decide +kernel
theorem d_SJ_isLetter_19 : decode b_SJ_isLetter 19 = .ok (.bipush 90, 2) := by decide +kernel
theorem d_SJ_isLetter_21 : decode b_SJ_isLetter 21 = .ok (.if_icmp .le 9, 3) := by decide +kernel
theorem d_SJ_isLetter_24 : decode b_SJ_isLetter 24 = .ok (.iload_n 0, 1) := by decide +kernel
theorem d_SJ_isLetter_25 : decode b_SJ_isLetter 25 = .ok (.bipush 95, 2) := by decide +kernel
theorem d_SJ_isLetter_27 : decode b_SJ_isLetter 27 = .ok (.if_icmp .ne 7, 3) := by decide +kernel
theorem d_SJ_isLetter_30 : decode b_SJ_isLetter 30 = .ok (.iconst 1, 1) := by decide +kernel
theorem d_SJ_isLetter_31 : decode b_SJ_isLetter 31 = .ok (.goto 4, 3) := by decide +kernel
theorem d_SJ_isLetter_34 : decode b_SJ_isLetter 34 = .ok (.iconst 0, 1) := by decide +kernel
theorem d_SJ_isLetter_35 : decode b_SJ_isLetter 35 = .ok (.ireturn, 1) := by decide +kernel
theorem d_Ck_isAnchor_0 : decode b_Ck_isAnchor 0 = .ok (.iconst 0, 1) := by decide +kernel
theorem d_Ck_isAnchor_1 : decode b_Ck_isAnchor 1 = .ok (.istore_n 2, 1) := by decide +kernel
theorem d_Ck_isAnchor_2 : decode b_Ck_isAnchor 2 = .ok (.iload_n 2, 1) := by decide +kernel
theorem d_Ck_isAnchor_3 : decode b_Ck_isAnchor 3 = .ok (.aload_n 0, 1) := by decide +kernel
theorem d_Ck_isAnchor_4 : decode b_Ck_isAnchor 4 = .ok (.getfield 22, 3) := by decide +kernel
theorem d_Ck_isAnchor_7 : decode b_Ck_isAnchor 7 = .ok (.iload_n 1, 1) := by decide +kernel
theorem d_Ck_isAnchor_8 : decode b_Ck_isAnchor 8 = .ok (.invokevirtual 96, 3) := by decide +kernel
theorem d_Ck_isAnchor_11 : decode b_Ck_isAnchor 11 = .ok (.if_icmp .ge 63, 3) := by decide +kernel
theorem d_Ck_isAnchor_14 : decode b_Ck_isAnchor 14 = .ok (.aload_n 0, 1) := by decide +kernel
theorem d_Ck_isAnchor_15 : decode b_Ck_isAnchor 15 = .ok (.getfield 22, 3) := by decide +kernel
theorem d_Ck_isAnchor_18 : decode b_Ck_isAnchor 18 = .ok (.iload_n 1, 1) := by decide +kernel
theorem d_Ck_isAnchor_19 : decode b_Ck_isAnchor 19 = .ok (.iload_n 2, 1) := by decide +kernel
theorem d_Ck_isAnchor_20 : decode b_Ck_isAnchor 20 = .ok (.invokevirtual 158, 3) := by decide +kernel
theorem d_Ck_isAnchor_23 : decode b_Ck_isAnchor 23 = .ok (.istore_n 3, 1) := by decide +kernel
theorem d_Ck_isAnchor_24 : decode b_Ck_isAnchor 24 = .ok (.iload_n 2, 1) := by decide +kernel
theorem d_Ck_isAnchor_25 : decode b_Ck_isAnchor 25 = .ok (.ifCond .le 26, 3) := by decide +kernel
theorem d_Ck_isAnchor_28 : decode b_Ck_isAnchor 28 = .ok (.iload_n 3, 1) := by decide +kernel
theorem d_Ck_isAnchor_29 : decode b_Ck_isAnchor 29 = .ok (.invokestatic 162, 3) := by decide +kernel
theorem d_Ck_isAnchor_32 : decode b_Ck_isAnchor 32 = .ok (.ifCond .ne 15, 3) := by decide +kernel
theorem d_Ck_isAnchor_35 : decode b_Ck_isAnchor 35 = .ok (.iload_n 3, 1) := by decide +kernel
theorem d_Ck_isAnchor_36 : decode b_Ck_isAnchor 36 = .ok (.bipush 45, 2) := by decide +kernel
theorem d_Ck_isAnchor_38 : decode b_Ck_isAnchor 38 = .ok (.if_icmp .eq 9, 3) := by decide +kernel
theorem d_Ck_isAnchor_41 : decode b_Ck_isAnchor 41 = .ok (.iload_n 3, 1) := by decide +kernel
theorem d_Ck_isAnchor_42 : decode b_Ck_isAnchor 42 = .ok (.bipush 46, 2) := by decide +kernel
theorem d_Ck_isAnchor_44 : decode b_Ck_isAnchor 44 = .ok (.if_icmp .ne 7, 3) := by decide +kernel
theorem d_Ck_isAnchor_47 : decode b_Ck_isAnchor 47 = .ok (.iconst 1, 1) := by decide +kernel
theorem d_Ck_isAnchor_48 : decode b_Ck_isAnchor 48 = .ok (.goto 4, 3) := by decide +kernel
theorem d_Ck_isAnchor_51 : decode b_Ck_isAnchor 51 = .ok (.iconst 0, 1) := by decide +kernel
theorem d_Ck_isAnchor_52 : decode b_Ck_isAnchor 52 = .ok (.istore 4, 2) := by decide +kernel
theorem d_Ck_isAnchor_54 : decode b_Ck_isAnchor 54 = .ok (.iload_n 3, 1) := by decide +kernel
theorem d_Ck_isAnchor_55 : decode b_Ck_isAnchor 55 = .ok (.invokestatic 165, 3) := by decide +kernel
theorem d_Ck_isAnchor_58 : decode b_Ck_isAnchor 58 = .ok (.ifCond .ne 10, 3) := by decide +kernel
theorem d_Ck_isAnchor_61 : decode b_Ck_isAnchor 61 = .ok (.iload 4, 2) := by decide +kernel
theorem d_Ck_isAnchor_63 : decode b_Ck_isAnchor 63 = .ok (.ifCond .ne 5, 3) := by decide +kernel
theorem d_Ck_isAnchor_66 : decode b_Ck_isAnchor 66 = .ok (.iconst 0, 1) := by decide +kernel
theorem d_Ck_isAnchor_67 : decode b_Ck_isAnchor 67 = .ok (.ireturn, 1) := by decide +kernel
theorem d_Ck_isAnchor_68 : decode b_Ck_isAnchor 68 = .ok (.iinc 2 1, 3) := by decide +kernel
theorem d_Ck_isAnchor_71 : decode b_Ck_isAnchor 71 = .ok (.goto (-69), 3) := by decide +kernel
theorem d_Ck_isAnchor_74 : decode b_Ck_isAnchor 74 = .ok (.aload_n 0, 1) := by decide +kernel
theorem d_Ck_isAnchor_75 : decode b_Ck_isAnchor 75 = .ok (.getfield 22, 3) := by decide +kernel
theorem d_Ck_isAnchor_78 : decode b_Ck_isAnchor 78 = .ok (.iload_n 1, 1) := by decide +kernel
theorem d_Ck_isAnchor_79 : decode b_Ck_isAnchor 79 = .ok (.invokevirtual 96, 3) := by decide +kernel
theorem d_Ck_isAnchor_82 : decode b_Ck_isAnchor 82 = .ok (.ifCond .le 7, 3) := by decide +kernel
theorem d_Ck_isAnchor_85 : decode b_Ck_isAnchor 85 = .ok (.iconst 1, 1) := by decide +kernel
theorem d_Ck_isAnchor_86 : decode b_Ck_isAnchor 86 = .ok (.goto 4, 3) := by decide +kernel
theorem d_Ck_isAnchor_89 : decode b_Ck_isAnchor 89 = .ok (.iconst 0, 1) := by decide +kernel
theorem d_Ck_isAnchor_90 : decode b_Ck_isAnchor 90 = .ok (.ireturn, 1) := by decide +kernel
theorem d_Ck_isType_0 : decode b_Ck_isType 0 = .ok (.aload_n 0, 1) := by decide +kernel
theorem d_Ck_isType_1 : decode b_Ck_isType 1 = .ok (.getfield 22, 3) := by decide +kernel
theorem d_Ck_isType_4 : decode b_Ck_isType 4 = .ok (.iload_n 1, 1) := by decide +kernel
theorem d_Ck_isType_5 : decode b_Ck_isType 5 = .ok (.invokevirtual 110, 3) := by decide +kernel
theorem d_Ck_isType_8 : decode b_Ck_isType 8 = .ok (.iconst 4, 1) := by decide +kernel
theorem d_Ck_isType_9 : decode b_Ck_isType 9 = .ok (.if_icmp .ne 98, 3) := by decide +kernel
theorem d_Ck_isType_12 : decode b_Ck_isType 12 = .ok (.aload_n 0, 1) := by decide +kernel
theorem d_Ck_isType_13 : decode b_Ck_isType 13 = .ok (.getfield 22, 3) := by decide +kernel
theorem d_Ck_isType_16 : decode b_Ck_isType 16 = .ok (.iload_n 1, 1) := by decide +kernel
theorem d_Ck_isType_17 : decode b_Ck_isType 17 = .ok (.ldc 168, 2) := by decide +kernel
theorem d_Ck_isType_19 : decode b_Ck_isType 19 = .ok (.invokevirtual 170, 3) := by decide +kernel
theorem d_Ck_isType_22 : decode b_Ck_isType 22 = .ok (.ifCond .ne 81, 3) := by decide +kernel
theorem d_Ck_isType_25 : decode b_Ck_isType 25 = .ok (.aload_n 0, 1) := by decide +kernel
theorem d_Ck_isType_26 : decode b_Ck_isType 26 = .ok (.getfield 22, 3) := by decide +kernel
theorem d_Ck_isType_29 : decode b_Ck_isType 29 = .ok (.iload_n 1, 1) := by decide +kernel
theorem d_Ck_isType_30 : decode b_Ck_isType 30 = .ok (.ldc 174, 2) := by decide +kernel
theorem d_Ck_isType_32 : decode b_Ck_isType 32 = .ok (.invokevirtual 170, 3) := by decide +kernel
theorem d_Ck_isType_35 : decode b_Ck_isType 35 = .ok (.ifCond .ne 68, 3) := by decide +kernel
theorem d_Ck_isType_38 : decode b_Ck_isType 38 = .ok (.aload_n 0, 1) := by decide +kernel
theorem d_Ck_isType_39 : decode b_Ck_isType 39 = .ok (.getfield 22, 3) := by decide +kernel
theorem d_Ck_isType_42 : decode b_Ck_isType 42 = .ok (.iload_n 1, 1) := by decide +kernel
theorem d_Ck_isType_43 : decode b_Ck_isType 43 = .ok (.ldc 176, 2) := by decide +kernel
theorem d_Ck_isType_45 : decode b_Ck_isType 45 = .ok (.invokevirtual 170, 3) := by decide +kernel
theorem d_Ck_isType_48 : decode b_Ck_isType 48 = .ok (.ifCond .ne 55, 3) := by decide +kernel
theorem d_Ck_isType_51 : decode b_Ck_isType 51 = .ok (.aload_n 0, 1) := by decide +kernel
theorem d_Ck_isType_52 : decode b_Ck_isType 52 = .ok (.getfield 22, 3) := by decide +kernel
theorem d_Ck_isType_55 : decode b_Ck_isType 55 = .ok (.iload_n 1, 1) := by decide +kernel
theorem d_Ck_isType_56 : decode b_Ck_isType 56 = .ok (.ldc 178, 2) := by decide +kernel
theorem d_Ck_isType_58 : decode b_Ck_isType 58 = .ok (.invokevirtual 170, 3) := by decide +kernel
theorem d_Ck_isType_61 : decode b_Ck_isType 61 = .ok (.ifCond .ne 42, 3) := by decide +kernel
theorem d_Ck_isType_64 : decode b_Ck_isType 64 = .ok (.aload_n 0, 1) := by decide +kernel
theorem d_Ck_isType_65 : decode b_Ck_isType 65 = .ok (.getfield 22, 3) := by decide +kernel
theorem d_Ck_isType_68 : decode b_Ck_isType 68 = .ok (.iload_n 1, 1) := by decide +kernel
theorem d_Ck_isType_69 : decode b_Ck_isType 69 = .ok (.ldc 180, 2) := by decide +kernel
theorem d_Ck_isType_71 : decode b_Ck_isType 71 = .ok (.invokevirtual 170, 3) := by decide +kernel
theorem d_Ck_isType_74 : decode b_Ck_isType 74 = .ok (.ifCond .ne 29, 3) := by decide +kernel
theorem d_Ck_isType_77 : decode b_Ck_isType 77 = .ok (.aload_n 0, 1) := by decide +kernel
theorem d_Ck_isType_78 : decode b_Ck_isType 78 = .ok (.getfield 22, 3) := by decide +kernel
theorem d_Ck_isType_81 : decode b_Ck_isType 81 = .ok (.iload_n 1, 1) := by decide +kernel
theorem d_Ck_isType_82 : decode b_Ck_isType 82 = .ok (.ldc 182, 2) := by decide +kernel
theorem d_Ck_isType_84 : decode b_Ck_isType 84 = .ok (.invokevirtual 170, 3) := by decide +kernel
theorem d_Ck_isType_87 : decode b_Ck_isType 87 = .ok (.ifCond .ne 16, 3) := by decide +kernel
theorem d_Ck_isType_90 : decode b_Ck_isType 90 = .ok (.aload_n 0, 1) := by decide +kernel
theorem d_Ck_isType_91 : decode b_Ck_isType 91 = .ok (.getfield 22, 3) := by decide +kernel
theorem d_Ck_isType_94 : decode b_Ck_isType 94 = .ok (.iload_n 1, 1) := by decide +kernel
theorem d_Ck_isType_95 : decode b_Ck_isType 95 = .ok (.ldc 184, 2) := by decide +kernel
theorem d_Ck_isType_97 : decode b_Ck_isType 97 = .ok (.invokevirtual 170, 3) := by decide +kernel
theorem d_Ck_isType_100 : decode b_Ck_isType 100 = .ok (.ifCond .eq 7, 3) := by decide +kernel
theorem d_Ck_isType_103 : decode b_Ck_isType 103 = .ok (.iconst 1, 1) := by decide +kernel
theorem d_Ck_isType_104 : decode b_Ck_isType 104 = .ok (.goto 4, 3) := by decide +kernel
theorem d_Ck_isType_107 : decode b_Ck_isType 107 = .ok (.iconst 0, 1) := by decide +kernel
theorem d_Ck_isType_108 : decode b_Ck_isType 108 = .ok (.ireturn, 1) := by decide +kernel
theorem d_Tx_slot_0 : decode b_Tx_slot 0 = .ok (.iload_n 1, 1) := by decide +kernel
theorem d_Tx_slot_1 : decode b_Tx_slot 1 = .ok (.ifCond .lt 20, 3) := by decide +kernel
theorem d_Tx_slot_4 : decode b_Tx_slot 4 = .ok (.iload_n 1, 1) := by decide +kernel
theorem d_Tx_slot_5 : decode b_Tx_slot 5 = .ok (.aload_n 0, 1) := by decide +kernel
theorem d_Tx_slot_6 : decode b_Tx_slot 6 = .ok (.getfield 43, 3) := by decide +kernel
theorem d_Tx_slot_9 : decode b_Tx_slot 9 = .ok (.if_icmp .ge 12, 3) := by decide +kernel
theorem d_Tx_slot_12 : decode b_Tx_slot 12 = .ok (.aload_n 0, 1) := by decide +kernel
theorem d_Tx_slot_13 : decode b_Tx_slot 13 = .ok (.getfield 33, 3) := by decide +kernel
theorem d_Tx_slot_16 : decode b_Tx_slot 16 = .ok (.iload_n 1, 1) := by decide +kernel
theorem d_Tx_slot_17 : decode b_Tx_slot 17 = .ok (.iaload, 1) := by decide +kernel
theorem d_Tx_slot_18 : decode b_Tx_slot 18 = .ok (.goto 4, 3) := by decide +kernel
theorem d_Tx_slot_21 : decode b_Tx_slot 21 = .ok (.iconst 0, 1) := by decide +kernel
theorem d_Tx_slot_22 : decode b_Tx_slot 22 = .ok (.ireturn, 1) := by decide +kernel
theorem d_Ck_isNew_0 : decode b_Ck_isNew 0 = .ok (.aload_n 0, 1) := by decide +kernel
theorem d_Ck_isNew_1 : decode b_Ck_isNew 1 = .ok (.getfield 22, 3) := by decide +kernel
theorem d_Ck_isNew_4 : decode b_Ck_isNew 4 = .ok (.iload_n 1, 1) := by decide +kernel
theorem d_Ck_isNew_5 : decode b_Ck_isNew 5 = .ok (.invokevirtual 92, 3) := by decide +kernel
theorem d_Ck_isNew_8 : decode b_Ck_isNew 8 = .ok (.istore_n 3, 1) := by decide +kernel
theorem d_Ck_isNew_9 : decode b_Ck_isNew 9 = .ok (.iconst 0, 1) := by decide +kernel
theorem d_Ck_isNew_10 : decode b_Ck_isNew 10 = .ok (.istore 4, 2) := by decide +kernel
theorem d_Ck_isNew_12 : decode b_Ck_isNew 12 = .ok (.iload 4, 2) := by decide +kernel
theorem d_Ck_isNew_14 : decode b_Ck_isNew 14 = .ok (.aload_n 0, 1) := by decide +kernel
theorem d_Ck_isNew_15 : decode b_Ck_isNew 15 = .ok (.getfield 22, 3) := by decide +kernel
theorem d_Ck_isNew_18 : decode b_Ck_isNew 18 = .ok (.iload_n 2, 1) := by decide +kernel
theorem d_Ck_isNew_19 : decode b_Ck_isNew 19 = .ok (.invokevirtual 193, 3) := by decide +kernel
theorem d_Ck_isNew_22 : decode b_Ck_isNew 22 = .ok (.if_icmp .ge 48, 3) := by decide +kernel
theorem d_Ck_isNew_25 : decode b_Ck_isNew 25 = .ok (.aload_n 0, 1) := by decide +kernel
theorem d_Ck_isNew_26 : decode b_Ck_isNew 26 = .ok (.getfield 22, 3) := by decide +kernel
theorem d_Ck_isNew_29 : decode b_Ck_isNew 29 = .ok (.iload_n 3, 1) := by decide +kernel
theorem d_Ck_isNew_30 : decode b_Ck_isNew 30 = .ok (.invokevirtual 110, 3) := by decide +kernel
theorem d_Ck_isNew_33 : decode b_Ck_isNew 33 = .ok (.iconst 4, 1) := by decide +kernel
theorem d_Ck_isNew_34 : decode b_Ck_isNew 34 = .ok (.if_icmp .ne 21, 3) := by decide +kernel
theorem d_Ck_isNew_37 : decode b_Ck_isNew 37 = .ok (.aload_n 0, 1) := by decide +kernel
theorem d_Ck_isNew_38 : decode b_Ck_isNew 38 = .ok (.getfield 22, 3) := by decide +kernel
theorem d_Ck_isNew_41 : decode b_Ck_isNew 41 = .ok (.iload_n 3, 1) := by decide +kernel
theorem d_Ck_isNew_42 : decode b_Ck_isNew 42 = .ok (.aload_n 0, 1) := by decide +kernel
theorem d_Ck_isNew_43 : decode b_Ck_isNew 43 = .ok (.getfield 22, 3) := by decide +kernel
theorem d_Ck_isNew_46 : decode b_Ck_isNew 46 = .ok (.iload_n 2, 1) := by decide +kernel
theorem d_Ck_isNew_47 : decode b_Ck_isNew 47 = .ok (.invokestatic 196, 3) := by decide +kernel
theorem d_Ck_isNew_50 : decode b_Ck_isNew 50 = .ok (.ifCond .eq 5, 3) := by decide +kernel
theorem d_Ck_isNew_53 : decode b_Ck_isNew 53 = .ok (.iconst 0, 1) := by decide +kernel
theorem d_Ck_isNew_54 : decode b_Ck_isNew 54 = .ok (.ireturn, 1) := by decide +kernel
theorem d_Ck_isNew_55 : decode b_Ck_isNew 55 = .ok (.aload_n 0, 1) := by decide +kernel
theorem d_Ck_isNew_56 : decode b_Ck_isNew 56 = .ok (.getfield 22, 3) := by decide +kernel
theorem d_Ck_isNew_59 : decode b_Ck_isNew 59 = .ok (.iload_n 3, 1) := by decide +kernel
theorem d_Ck_isNew_60 : decode b_Ck_isNew 60 = .ok (.invokevirtual 107, 3) := by decide +kernel
theorem d_Ck_isNew_63 : decode b_Ck_isNew 63 = .ok (.istore_n 3, 1) := by decide +kernel
theorem d_Ck_isNew_64 : decode b_Ck_isNew 64 = .ok (.iinc 4 1, 3) := by decide +kernel
theorem d_Ck_isNew_67 : decode b_Ck_isNew 67 = .ok (.goto (-55), 3) := by decide +kernel
theorem d_Ck_isNew_70 : decode b_Ck_isNew 70 = .ok (.iconst 1, 1) := by decide +kernel
theorem d_Ck_isNew_71 : decode b_Ck_isNew 71 = .ok (.ireturn, 1) := by decide +kernel
theorem d_Ck_inspectTypes_0 : decode b_Ck_inspectTypes 0 = .ok (.iload_n 2, 1) := by decide +kernel
theorem d_Ck_inspectTypes_1 : decode b_Ck_inspectTypes 1 = .ok (.iconst 5, 1) := by decide +kernel
theorem d_Ck_inspectTypes_2 : decode b_Ck_inspectTypes 2 = .ok (.if_icmp .eq 14, 3) := by decide +kernel
theorem d_Ck_inspectTypes_5 : decode b_Ck_inspectTypes 5 = .ok (.aload_n 0, 1) := by decide +kernel
theorem d_Ck_inspectTypes_6 : decode b_Ck_inspectTypes 6 = .ok (.aload_n 0, 1) := by decide +kernel
theorem d_Ck_inspectTypes_7 : decode b_Ck_inspectTypes 7 = .ok (.iload_n 1, 1) := by decide +kernel
theorem d_Ck_inspectTypes_8 : decode b_Ck_inspectTypes 8 = .ok (.invokevirtual 186, 3) := by decide +kernel
theorem d_Ck_inspectTypes_11 : decode b_Ck_inspectTypes 11 = .ok (.iload_n 1, 1) := by decide +kernel
theorem d_Ck_inspectTypes_12 : decode b_Ck_inspectTypes 12 = .ok (.invokevirtual 88, 3) := by decide +kernel
theorem d_Ck_inspectTypes_15 : decode b_Ck_inspectTypes 15 = .ok (.return_, 1) := by decide +kernel
theorem d_Ck_inspectTypes_16 : decode b_Ck_inspectTypes 16 = .ok (.aload_n 0, 1) := by decide +kernel
theorem d_Ck_inspectTypes_17 : decode b_Ck_inspectTypes 17 = .ok (.aload_n 0, 1) := by decide +kernel
theorem d_Ck_inspectTypes_18 : decode b_Ck_inspectTypes 18 = .ok (.getfield 22, 3) := by decide +kernel
theorem d_Ck_inspectTypes_21 : decode b_Ck_inspectTypes 21 = .ok (.iload_n 1, 1) := by decide +kernel
theorem d_Ck_inspectTypes_22 : decode b_Ck_inspectTypes 22 = .ok (.invokevirtual 96, 3) := by decide +kernel
theorem d_Ck_inspectTypes_25 : decode b_Ck_inspectTypes 25 = .ok (.ifCond .le 7, 3) := by decide +kernel
theorem d_Ck_inspectTypes_28 : decode b_Ck_inspectTypes 28 = .ok (.iconst 1, 1) := by decide +kernel
theorem d_Ck_inspectTypes_29 : decode b_Ck_inspectTypes 29 = .ok (.goto 4, 3) := by decide +kernel
theorem d_Ck_inspectTypes_32 : decode b_Ck_inspectTypes 32 = .ok (.iconst 0, 1) := by decide +kernel
theorem d_Ck_inspectTypes_33 : decode b_Ck_inspectTypes 33 = .ok (.iload_n 1, 1) := by decide +kernel
theorem d_Ck_inspectTypes_34 : decode b_Ck_inspectTypes 34 = .ok (.invokevirtual 88, 3) := by decide +kernel
theorem d_Ck_inspectTypes_37 : decode b_Ck_inspectTypes 37 = .ok (.aload_n 0, 1) := by decide +kernel
theorem d_Ck_inspectTypes_38 : decode b_Ck_inspectTypes 38 = .ok (.getfield 22, 3) := by decide +kernel
theorem d_Ck_inspectTypes_41 : decode b_Ck_inspectTypes 41 = .ok (.iload_n 1, 1) := by decide +kernel
theorem d_Ck_inspectTypes_42 : decode b_Ck_inspectTypes 42 = .ok (.invokevirtual 92, 3) := by decide +kernel
theorem d_Ck_inspectTypes_45 : decode b_Ck_inspectTypes 45 = .ok (.istore_n 3, 1) := by decide +kernel
theorem d_Ck_inspectTypes_46 : decode b_Ck_inspectTypes 46 = .ok (.iconst 0, 1) := by decide +kernel
theorem d_Ck_inspectTypes_47 : decode b_Ck_inspectTypes 47 = .ok (.istore 4, 2) := by decide +kernel
theorem d_Ck_inspectTypes_49 : decode b_Ck_inspectTypes 49 = .ok (.iload 4, 2) := by decide +kernel
theorem d_Ck_inspectTypes_51 : decode b_Ck_inspectTypes 51 = .ok (.aload_n 0, 1) := by decide +kernel
theorem d_Ck_inspectTypes_52 : decode b_Ck_inspectTypes 52 = .ok (.getfield 22, 3) := by decide +kernel
theorem d_Ck_inspectTypes_55 : decode b_Ck_inspectTypes 55 = .ok (.iload_n 1, 1) := by decide +kernel
theorem d_Ck_inspectTypes_56 : decode b_Ck_inspectTypes 56 = .ok (.invokevirtual 96, 3) := by decide +kernel
theorem d_Ck_inspectTypes_59 : decode b_Ck_inspectTypes 59 = .ok (.if_icmp .ge 45, 3) := by decide +kernel
theorem d_Ck_inspectTypes_62 : decode b_Ck_inspectTypes 62 = .ok (.aload_n 0, 1) := by decide +kernel
theorem d_Ck_inspectTypes_63 : decode b_Ck_inspectTypes 63 = .ok (.aload_n 0, 1) := by decide +kernel
theorem d_Ck_inspectTypes_64 : decode b_Ck_inspectTypes 64 = .ok (.iload_n 3, 1) := by decide +kernel
theorem d_Ck_inspectTypes_65 : decode b_Ck_inspectTypes 65 = .ok (.invokevirtual 186, 3) := by decide +kernel
theorem d_Ck_inspectTypes_68 : decode b_Ck_inspectTypes 68 = .ok (.ifCond .eq 16, 3) := by decide +kernel
theorem d_Ck_inspectTypes_71 : decode b_Ck_inspectTypes 71 = .ok (.aload_n 0, 1) := by decide +kernel
theorem d_Ck_inspectTypes_72 : decode b_Ck_inspectTypes 72 = .ok (.iload_n 1, 1) := by decide +kernel
theorem d_Ck_inspectTypes_73 : decode b_Ck_inspectTypes 73 = .ok (.iload_n 3, 1) := by decide +kernel
theorem d_Ck_inspectTypes_74 : decode b_Ck_inspectTypes 74 = .ok (.invokevirtual 189, 3) := by decide +kernel
theorem d_Ck_inspectTypes_77 : decode b_Ck_inspectTypes 77 = .ok (.ifCond .eq 7, 3) := by decide +kernel
theorem d_Ck_inspectTypes_80 : decode b_Ck_inspectTypes 80 = .ok (.iconst 1, 1) := by decide +kernel
theorem d_Ck_inspectTypes_81 : decode b_Ck_inspectTypes 81 = .ok (.goto 4, 3) := by decide +kernel
theorem d_Ck_inspectTypes_84 : decode b_Ck_inspectTypes 84 = .ok (.iconst 0, 1) := by decide +kernel
theorem d_Ck_inspectTypes_85 : decode b_Ck_inspectTypes 85 = .ok (.iload_n 3, 1) := by decide +kernel
theorem d_Ck_inspectTypes_86 : decode b_Ck_inspectTypes 86 = .ok (.invokevirtual 88, 3) := by decide +kernel
theorem d_Ck_inspectTypes_89 : decode b_Ck_inspectTypes 89 = .ok (.aload_n 0, 1) := by decide +kernel
theorem d_Ck_inspectTypes_90 : decode b_Ck_inspectTypes 90 = .ok (.getfield 22, 3) := by decide +kernel
theorem d_Ck_inspectTypes_93 : decode b_Ck_inspectTypes 93 = .ok (.iload_n 3, 1) := by decide +kernel
theorem d_Ck_inspectTypes_94 : decode b_Ck_inspectTypes 94 = .ok (.invokevirtual 107, 3) := by decide +kernel
theorem d_Ck_inspectTypes_97 : decode b_Ck_inspectTypes 97 = .ok (.istore_n 3, 1) := by decide +kernel
theorem d_Ck_inspectTypes_98 : decode b_Ck_inspectTypes 98 = .ok (.iinc 4 1, 3) := by decide +kernel
theorem d_Ck_inspectTypes_101 : decode b_Ck_inspectTypes 101 = .ok (.goto (-52), 3) := by decide +kernel
theorem d_Ck_inspectTypes_104 : decode b_Ck_inspectTypes 104 = .ok (.return_, 1) := by decide +kernel
theorem d_Ck_inspectNames_0 : decode b_Ck_inspectNames 0 = .ok (.aload_n 0, 1) := by decide +kernel
theorem d_Ck_inspectNames_1 : decode b_Ck_inspectNames 1 = .ok (.getfield 22, 3) := by decide +kernel
theorem d_Ck_inspectNames_4 : decode b_Ck_inspectNames 4 = .ok (.iload_n 1, 1) := by decide +kernel
theorem d_Ck_inspectNames_5 : decode b_Ck_inspectNames 5 = .ok (.invokevirtual 110, 3) := by decide +kernel
theorem d_Ck_inspectNames_8 : decode b_Ck_inspectNames 8 = .ok (.iconst 5, 1) := by decide +kernel
theorem d_Ck_inspectNames_9 : decode b_Ck_inspectNames 9 = .ok (.if_icmp .ne 7, 3) := by decide +kernel
theorem d_Ck_inspectNames_12 : decode b_Ck_inspectNames 12 = .ok (.iconst 1, 1) := by decide +kernel
theorem d_Ck_inspectNames_13 : decode b_Ck_inspectNames 13 = .ok (.goto 4, 3) := by decide +kernel
theorem d_Ck_inspectNames_16 : decode b_Ck_inspectNames 16 = .ok (.iconst 0, 1) := by decide +kernel
theorem d_Ck_inspectNames_17 : decode b_Ck_inspectNames 17 = .ok (.istore_n 2, 1) := by decide +kernel
theorem d_Ck_inspectNames_18 : decode b_Ck_inspectNames 18 = .ok (.aload_n 0, 1) := by decide +kernel
theorem d_Ck_inspectNames_19 : decode b_Ck_inspectNames 19 = .ok (.iload_n 2, 1) := by decide +kernel
theorem d_Ck_inspectNames_20 : decode b_Ck_inspectNames 20 = .ok (.iload_n 1, 1) := by decide +kernel
theorem d_Ck_inspectNames_21 : decode b_Ck_inspectNames 21 = .ok (.invokevirtual 88, 3) := by decide +kernel
theorem d_Ck_inspectNames_24 : decode b_Ck_inspectNames 24 = .ok (.iload_n 2, 1) := by decide +kernel
theorem d_Ck_inspectNames_25 : decode b_Ck_inspectNames 25 = .ok (.ifCond .eq 14, 3) := by decide +kernel
theorem d_Ck_inspectNames_28 : decode b_Ck_inspectNames 28 = .ok (.aload_n 0, 1) := by decide +kernel
theorem d_Ck_inspectNames_29 : decode b_Ck_inspectNames 29 = .ok (.getfield 22, 3) := by decide +kernel
theorem d_Ck_inspectNames_32 : decode b_Ck_inspectNames 32 = .ok (.iload_n 1, 1) := by decide +kernel
theorem d_Ck_inspectNames_33 : decode b_Ck_inspectNames 33 = .ok (.invokevirtual 92, 3) := by decide +kernel
theorem d_Ck_inspectNames_36 : decode b_Ck_inspectNames 36 = .ok (.goto 4, 3) := by decide +kernel
theorem d_Ck_inspectNames_39 : decode b_Ck_inspectNames 39 = .ok (.iconst (-1), 1) := by decide +kernel
theorem d_Ck_inspectNames_40 : decode b_Ck_inspectNames 40 = .ok (.istore_n 3, 1) := by decide +kernel
theorem d_Ck_inspectNames_41 : decode b_Ck_inspectNames 41 = .ok (.iconst 0, 1) := by decide +kernel
theorem d_Ck_inspectNames_42 : decode b_Ck_inspectNames 42 = .ok (.istore 4, 2) := by decide +kernel
theorem d_Ck_inspectNames_44 : decode b_Ck_inspectNames 44 = .ok (.iload 4, 2) := by decide +kernel
theorem d_Ck_inspectNames_46 : decode b_Ck_inspectNames 46 = .ok (.aload_n 0, 1) := by decide +kernel
theorem d_Ck_inspectNames_47 : decode b_Ck_inspectNames 47 = .ok (.getfield 22, 3) := by decide +kernel
theorem d_Ck_inspectNames_50 : decode b_Ck_inspectNames 50 = .ok (.iload_n 1, 1) := by decide +kernel
theorem d_Ck_inspectNames_51 : decode b_Ck_inspectNames 51 = .ok (.invokevirtual 96, 3) := by decide +kernel
theorem d_Ck_inspectNames_54 : decode b_Ck_inspectNames 54 = .ok (.if_icmp .ge 54, 3) := by decide +kernel
theorem d_Ck_inspectNames_57 : decode b_Ck_inspectNames 57 = .ok (.iload_n 3, 1) := by decide +kernel
theorem d_Ck_inspectNames_58 : decode b_Ck_inspectNames 58 = .ok (.iconst (-1), 1) := by decide +kernel
theorem d_Ck_inspectNames_59 : decode b_Ck_inspectNames 59 = .ok (.if_icmp .eq 49, 3) := by decide +kernel
theorem d_Ck_inspectNames_62 : decode b_Ck_inspectNames 62 = .ok (.aload_n 0, 1) := by decide +kernel
theorem d_Ck_inspectNames_63 : decode b_Ck_inspectNames 63 = .ok (.aload_n 0, 1) := by decide +kernel
theorem d_Ck_inspectNames_64 : decode b_Ck_inspectNames 64 = .ok (.getfield 22, 3) := by decide +kernel
theorem d_Ck_inspectNames_67 : decode b_Ck_inspectNames 67 = .ok (.iload_n 3, 1) := by decide +kernel
theorem d_Ck_inspectNames_68 : decode b_Ck_inspectNames 68 = .ok (.invokevirtual 110, 3) := by decide +kernel
theorem d_Ck_inspectNames_71 : decode b_Ck_inspectNames 71 = .ok (.iconst 4, 1) := by decide +kernel
theorem d_Ck_inspectNames_72 : decode b_Ck_inspectNames 72 = .ok (.if_icmp .ne 16, 3) := by decide +kernel
theorem d_Ck_inspectNames_75 : decode b_Ck_inspectNames 75 = .ok (.aload_n 0, 1) := by decide +kernel
theorem d_Ck_inspectNames_76 : decode b_Ck_inspectNames 76 = .ok (.iload_n 1, 1) := by decide +kernel
theorem d_Ck_inspectNames_77 : decode b_Ck_inspectNames 77 = .ok (.iload_n 3, 1) := by decide +kernel
theorem d_Ck_inspectNames_78 : decode b_Ck_inspectNames 78 = .ok (.invokevirtual 189, 3) := by decide +kernel
theorem d_Ck_inspectNames_81 : decode b_Ck_inspectNames 81 = .ok (.ifCond .eq 7, 3) := by decide +kernel
theorem d_Ck_inspectNames_84 : decode b_Ck_inspectNames 84 = .ok (.iconst 1, 1) := by decide +kernel
theorem d_Ck_inspectNames_85 : decode b_Ck_inspectNames 85 = .ok (.goto 4, 3) := by decide +kernel
theorem d_Ck_inspectNames_88 : decode b_Ck_inspectNames 88 = .ok (.iconst 0, 1) := by decide +kernel
theorem d_Ck_inspectNames_89 : decode b_Ck_inspectNames 89 = .ok (.iload_n 3, 1) := by decide +kernel
theorem d_Ck_inspectNames_90 : decode b_Ck_inspectNames 90 = .ok (.invokevirtual 88, 3) := by decide +kernel
theorem d_Ck_inspectNames_93 : decode b_Ck_inspectNames 93 = .ok (.aload_n 0, 1) := by decide +kernel
theorem d_Ck_inspectNames_94 : decode b_Ck_inspectNames 94 = .ok (.getfield 22, 3) := by decide +kernel
theorem d_Ck_inspectNames_97 : decode b_Ck_inspectNames 97 = .ok (.iload_n 3, 1) := by decide +kernel
theorem d_Ck_inspectNames_98 : decode b_Ck_inspectNames 98 = .ok (.invokevirtual 107, 3) := by decide +kernel
theorem d_Ck_inspectNames_101 : decode b_Ck_inspectNames 101 = .ok (.istore_n 3, 1) := by decide +kernel
theorem d_Ck_inspectNames_102 : decode b_Ck_inspectNames 102 = .ok (.iinc 4 1, 3) := by decide +kernel
theorem d_Ck_inspectNames_105 : decode b_Ck_inspectNames 105 = .ok (.goto (-61), 3) := by decide +kernel
theorem d_Ck_inspectNames_108 : decode b_Ck_inspectNames 108 = .ok (.return_, 1) := by decide +kernel
theorem d_Ck_inspectPlain_0 : decode b_Ck_inspectPlain 0 = .ok (.aload_n 1, 1) := by decide +kernel
theorem d_Ck_inspectPlain_1 : decode b_Ck_inspectPlain 1 = .ok (.getfield 113, 3) := by decide +kernel
theorem d_Ck_inspectPlain_4 : decode b_Ck_inspectPlain 4 = .ok (.tableswitch 182 10 15 #[40, 49, 182, 67, 90, 98], 40) := by decide +kernel
theorem d_Ck_inspectPlain_44 : decode b_Ck_inspectPlain 44 = .ok (.aload_n 0, 1) := by decide +kernel
theorem d_Ck_inspectPlain_45 : decode b_Ck_inspectPlain 45 = .ok (.iload_n 2, 1) := by decide +kernel
theorem d_Ck_inspectPlain_46 : decode b_Ck_inspectPlain 46 = .ok (.iload_n 3, 1) := by decide +kernel
theorem d_Ck_inspectPlain_47 : decode b_Ck_inspectPlain 47 = .ok (.invokevirtual 152, 3) := by decide +kernel
theorem d_Ck_inspectPlain_50 : decode b_Ck_inspectPlain 50 = .ok (.goto 136, 3) := by decide +kernel
theorem d_Ck_inspectPlain_53 : decode b_Ck_inspectPlain 53 = .ok (.aload_n 0, 1) := by decide +kernel
theorem d_Ck_inspectPlain_54 : decode b_Ck_inspectPlain 54 = .ok (.iload_n 3, 1) := by decide +kernel
theorem d_Ck_inspectPlain_55 : decode b_Ck_inspectPlain 55 = .ok (.iconst 5, 1) := by decide +kernel
theorem d_Ck_inspectPlain_56 : decode b_Ck_inspectPlain 56 = .ok (.if_icmp .ne 7, 3) := by decide +kernel
theorem d_Ck_inspectPlain_59 : decode b_Ck_inspectPlain 59 = .ok (.iconst 1, 1) := by decide +kernel
theorem d_Ck_inspectPlain_60 : decode b_Ck_inspectPlain 60 = .ok (.goto 4, 3) := by decide +kernel
theorem d_Ck_inspectPlain_63 : decode b_Ck_inspectPlain 63 = .ok (.iconst 0, 1) := by decide +kernel
theorem d_Ck_inspectPlain_64 : decode b_Ck_inspectPlain 64 = .ok (.iload_n 2, 1) := by decide +kernel
theorem d_Ck_inspectPlain_65 : decode b_Ck_inspectPlain 65 = .ok (.invokevirtual 88, 3) := by decide +kernel
theorem d_Ck_inspectPlain_68 : decode b_Ck_inspectPlain 68 = .ok (.goto 118, 3) := by decide +kernel
theorem d_Ck_inspectPlain_71 : decode b_Ck_inspectPlain 71 = .ok (.aload_n 0, 1) := by decide +kernel
theorem d_Ck_inspectPlain_72 : decode b_Ck_inspectPlain 72 = .ok (.iload_n 3, 1) := by decide +kernel
theorem d_Ck_inspectPlain_73 : decode b_Ck_inspectPlain 73 = .ok (.iconst 2, 1) := by decide +kernel
theorem d_Ck_inspectPlain_74 : decode b_Ck_inspectPlain 74 = .ok (.if_icmp .eq 8, 3) := by decide +kernel
theorem d_Ck_inspectPlain_77 : decode b_Ck_inspectPlain 77 = .ok (.iload_n 3, 1) := by decide +kernel
theorem d_Ck_inspectPlain_78 : decode b_Ck_inspectPlain 78 = .ok (.iconst 1, 1) := by decide +kernel
theorem d_Ck_inspectPlain_79 : decode b_Ck_inspectPlain 79 = .ok (.if_icmp .ne 7, 3) := by decide +kernel
theorem d_Ck_inspectPlain_82 : decode b_Ck_inspectPlain 82 = .ok (.iconst 1, 1) := by decide +kernel
theorem d_Ck_inspectPlain_83 : decode b_Ck_inspectPlain 83 = .ok (.goto 4, 3) := by decide +kernel
theorem d_Ck_inspectPlain_86 : decode b_Ck_inspectPlain 86 = .ok (.iconst 0, 1) := by decide +kernel
theorem d_Ck_inspectPlain_87 : decode b_Ck_inspectPlain 87 = .ok (.iload_n 2, 1) := by decide +kernel
theorem d_Ck_inspectPlain_88 : decode b_Ck_inspectPlain 88 = .ok (.invokevirtual 88, 3) := by decide +kernel
theorem d_Ck_inspectPlain_91 : decode b_Ck_inspectPlain 91 = .ok (.goto 95, 3) := by decide +kernel
theorem d_Ck_inspectPlain_94 : decode b_Ck_inspectPlain 94 = .ok (.aload_n 0, 1) := by decide +kernel
theorem d_Ck_inspectPlain_95 : decode b_Ck_inspectPlain 95 = .ok (.iload_n 2, 1) := by decide +kernel
theorem d_Ck_inspectPlain_96 : decode b_Ck_inspectPlain 96 = .ok (.invokevirtual 155, 3) := by decide +kernel
theorem d_Ck_inspectPlain_99 : decode b_Ck_inspectPlain 99 = .ok (.goto 87, 3) := by decide +kernel
theorem d_Ck_inspectPlain_102 : decode b_Ck_inspectPlain 102 = .ok (.aload_n 0, 1) := by decide +kernel
theorem d_Ck_inspectPlain_103 : decode b_Ck_inspectPlain 103 = .ok (.iload_n 3, 1) := by decide +kernel
theorem d_Ck_inspectPlain_104 : decode b_Ck_inspectPlain 104 = .ok (.bipush 6, 2) := by decide +kernel
theorem d_Ck_inspectPlain_106 : decode b_Ck_inspectPlain 106 = .ok (.if_icmp .ne 7, 3) := by decide +kernel
theorem d_Ck_inspectPlain_109 : decode b_Ck_inspectPlain 109 = .ok (.iconst 1, 1) := by decide +kernel
theorem d_Ck_inspectPlain_110 : decode b_Ck_inspectPlain 110 = .ok (.goto 4, 3) := by decide +kernel
theorem d_Ck_inspectPlain_113 : decode b_Ck_inspectPlain 113 = .ok (.iconst 0, 1) := by decide +kernel
theorem d_Ck_inspectPlain_114 : decode b_Ck_inspectPlain 114 = .ok (.iload_n 2, 1) := by decide +kernel
theorem d_Ck_inspectPlain_115 : decode b_Ck_inspectPlain 115 = .ok (.invokevirtual 88, 3) := by decide +kernel
theorem d_Ck_inspectPlain_118 : decode b_Ck_inspectPlain 118 = .ok (.iload_n 3, 1) := by decide +kernel
theorem d_Ck_inspectPlain_119 : decode b_Ck_inspectPlain 119 = .ok (.bipush 6, 2) := by decide +kernel
theorem d_Ck_inspectPlain_121 : decode b_Ck_inspectPlain 121 = .ok (.if_icmp .ne 14, 3) := by decide +kernel
theorem d_Ck_inspectPlain_124 : decode b_Ck_inspectPlain 124 = .ok (.aload_n 0, 1) := by decide +kernel
theorem d_Ck_inspectPlain_125 : decode b_Ck_inspectPlain 125 = .ok (.getfield 22, 3) := by decide +kernel
theorem d_Ck_inspectPlain_128 : decode b_Ck_inspectPlain 128 = .ok (.iload_n 2, 1) := by decide +kernel
theorem d_Ck_inspectPlain_129 : decode b_Ck_inspectPlain 129 = .ok (.invokevirtual 92, 3) := by decide +kernel
theorem d_Ck_inspectPlain_132 : decode b_Ck_inspectPlain 132 = .ok (.goto 4, 3) := by decide +kernel
theorem d_Ck_inspectPlain_135 : decode b_Ck_inspectPlain 135 = .ok (.iconst (-1), 1) := by decide +kernel
theorem d_Ck_inspectPlain_136 : decode b_Ck_inspectPlain 136 = .ok (.istore 4, 2) := by decide +kernel
theorem d_Ck_inspectPlain_138 : decode b_Ck_inspectPlain 138 = .ok (.iconst 0, 1) := by decide +kernel
theorem d_Ck_inspectPlain_139 : decode b_Ck_inspectPlain 139 = .ok (.istore 5, 2) := by decide +kernel
theorem d_Ck_inspectPlain_141 : decode b_Ck_inspectPlain 141 = .ok (.iload 5, 2) := by decide +kernel
theorem d_Ck_inspectPlain_143 : decode b_Ck_inspectPlain 143 = .ok (.aload_n 0, 1) := by decide +kernel
theorem d_Ck_inspectPlain_144 : decode b_Ck_inspectPlain 144 = .ok (.getfield 22, 3) := by decide +kernel
theorem d_Ck_inspectPlain_147 : decode b_Ck_inspectPlain 147 = .ok (.iload_n 2, 1) := by decide +kernel
theorem d_Ck_inspectPlain_148 : decode b_Ck_inspectPlain 148 = .ok (.invokevirtual 96, 3) := by decide +kernel
theorem d_Ck_inspectPlain_151 : decode b_Ck_inspectPlain 151 = .ok (.if_icmp .ge 32, 3) := by decide +kernel
theorem d_Ck_inspectPlain_154 : decode b_Ck_inspectPlain 154 = .ok (.iload 4, 2) := by decide +kernel
theorem d_Ck_inspectPlain_156 : decode b_Ck_inspectPlain 156 = .ok (.iconst (-1), 1) := by decide +kernel
theorem d_Ck_inspectPlain_157 : decode b_Ck_inspectPlain 157 = .ok (.if_icmp .eq 26, 3) := by decide +kernel
theorem d_Ck_inspectPlain_160 : decode b_Ck_inspectPlain 160 = .ok (.aload_n 0, 1) := by decide +kernel
theorem d_Ck_inspectPlain_161 : decode b_Ck_inspectPlain 161 = .ok (.iload 4, 2) := by decide +kernel
theorem d_Ck_inspectPlain_163 : decode b_Ck_inspectPlain 163 = .ok (.invokevirtual 155, 3) := by decide +kernel
theorem d_Ck_inspectPlain_166 : decode b_Ck_inspectPlain 166 = .ok (.aload_n 0, 1) := by decide +kernel
theorem d_Ck_inspectPlain_167 : decode b_Ck_inspectPlain 167 = .ok (.getfield 22, 3) := by decide +kernel
theorem d_Ck_inspectPlain_170 : decode b_Ck_inspectPlain 170 = .ok (.iload 4, 2) := by decide +kernel
theorem d_Ck_inspectPlain_172 : decode b_Ck_inspectPlain 172 = .ok (.invokevirtual 107, 3) := by decide +kernel
theorem d_Ck_inspectPlain_175 : decode b_Ck_inspectPlain 175 = .ok (.istore 4, 2) := by decide +kernel
theorem d_Ck_inspectPlain_177 : decode b_Ck_inspectPlain 177 = .ok (.iinc 5 1, 3) := by decide +kernel
theorem d_Ck_inspectPlain_180 : decode b_Ck_inspectPlain 180 = .ok (.goto (-39), 3) := by decide +kernel
theorem d_Ck_inspectPlain_183 : decode b_Ck_inspectPlain 183 = .ok (.goto 3, 3) := by decide +kernel
theorem d_Ck_inspectPlain_186 : decode b_Ck_inspectPlain 186 = .ok (.return_, 1) := by decide +kernel
theorem d_Ck_inspectKeyword_0 : decode b_Ck_inspectKeyword 0 = .ok (.aload_n 0, 1) := by decide +kernel
theorem d_Ck_inspectKeyword_1 : decode b_Ck_inspectKeyword 1 = .ok (.getfield 22, 3) := by decide +kernel
theorem d_Ck_inspectKeyword_4 : decode b_Ck_inspectKeyword 4 = .ok (.iload_n 2, 1) := by decide +kernel
theorem d_Ck_inspectKeyword_5 : decode b_Ck_inspectKeyword 5 = .ok (.invokevirtual 110, 3) := by decide +kernel
theorem d_Ck_inspectKeyword_8 : decode b_Ck_inspectKeyword 8 = .ok (.istore_n 3, 1) := by decide +kernel
theorem d_Ck_inspectKeyword_9 : decode b_Ck_inspectKeyword 9 = .ok (.aload_n 1, 1) := by decide +kernel
theorem d_Ck_inspectKeyword_10 : decode b_Ck_inspectKeyword 10 = .ok (.getfield 113, 3) := by decide +kernel
theorem d_Ck_inspectKeyword_13 : decode b_Ck_inspectKeyword 13 = .ok (.tableswitch 363 1 16 #[79, 87, 131, 184, 202, 231, 256, 310, 328, 363, 363, 363, 363, 363, 363, 354], 79) := by decide +kernel
theorem d_Ck_inspectKeyword_92 : decode b_Ck_inspectKeyword 92 = .ok (.aload_n 0, 1) := by decide +kernel
theorem d_Ck_inspectKeyword_93 : decode b_Ck_inspectKeyword 93 = .ok (.iload_n 2, 1) := by decide +kernel
theorem d_Ck_inspectKeyword_94 : decode b_Ck_inspectKeyword 94 = .ok (.invokevirtual 55, 3) := by decide +kernel
theorem d_Ck_inspectKeyword_97 : decode b_Ck_inspectKeyword 97 = .ok (.goto 286, 3) := by decide +kernel
theorem d_Ck_inspectKeyword_100 : decode b_Ck_inspectKeyword 100 = .ok (.aload_n 0, 1) := by decide +kernel
theorem d_Ck_inspectKeyword_101 : decode b_Ck_inspectKeyword 101 = .ok (.iload_n 3, 1) := by decide +kernel
theorem d_Ck_inspectKeyword_102 : decode b_Ck_inspectKeyword 102 = .ok (.iconst 5, 1) := by decide +kernel
theorem d_Ck_inspectKeyword_103 : decode b_Ck_inspectKeyword 103 = .ok (.if_icmp .ne 18, 3) := by decide +kernel
theorem d_Ck_inspectKeyword_106 : decode b_Ck_inspectKeyword 106 = .ok (.aload_n 0, 1) := by decide +kernel
theorem d_Ck_inspectKeyword_107 : decode b_Ck_inspectKeyword 107 = .ok (.getfield 22, 3) := by decide +kernel
theorem d_Ck_inspectKeyword_110 : decode b_Ck_inspectKeyword 110 = .ok (.iload_n 2, 1) := by decide +kernel
theorem d_Ck_inspectKeyword_111 : decode b_Ck_inspectKeyword 111 = .ok (.invokevirtual 96, 3) := by decide +kernel
theorem d_Ck_inspectKeyword_114 : decode b_Ck_inspectKeyword 114 = .ok (.ifCond .le 7, 3) := by decide +kernel
theorem d_Ck_inspectKeyword_117 : decode b_Ck_inspectKeyword 117 = .ok (.iconst 1, 1) := by decide +kernel
theorem d_Ck_inspectKeyword_118 : decode b_Ck_inspectKeyword 118 = .ok (.goto 4, 3) := by decide +kernel
theorem d_Ck_inspectKeyword_121 : decode b_Ck_inspectKeyword 121 = .ok (.iconst 0, 1) := by decide +kernel
theorem d_Ck_inspectKeyword_122 : decode b_Ck_inspectKeyword 122 = .ok (.iload_n 2, 1) := by decide +kernel
theorem d_Ck_inspectKeyword_123 : decode b_Ck_inspectKeyword 123 = .ok (.invokevirtual 88, 3) := by decide +kernel
theorem d_Ck_inspectKeyword_126 : decode b_Ck_inspectKeyword 126 = .ok (.aload_n 0, 1) := by decide +kernel
theorem d_Ck_inspectKeyword_127 : decode b_Ck_inspectKeyword 127 = .ok (.iload_n 2, 1) := by decide +kernel
theorem d_Ck_inspectKeyword_128 : decode b_Ck_inspectKeyword 128 = .ok (.iload_n 3, 1) := by decide +kernel
theorem d_Ck_inspectKeyword_129 : decode b_Ck_inspectKeyword 129 = .ok (.iconst 5, 1) := by decide +kernel
theorem d_Ck_inspectKeyword_130 : decode b_Ck_inspectKeyword 130 = .ok (.if_icmp .ne 7, 3) := by decide +kernel
theorem d_Ck_inspectKeyword_133 : decode b_Ck_inspectKeyword 133 = .ok (.iconst 1, 1) := by decide +kernel
theorem d_Ck_inspectKeyword_134 : decode b_Ck_inspectKeyword 134 = .ok (.goto 4, 3) := by decide +kernel
theorem d_Ck_inspectKeyword_137 : decode b_Ck_inspectKeyword 137 = .ok (.iconst 0, 1) := by decide +kernel
theorem d_Ck_inspectKeyword_138 : decode b_Ck_inspectKeyword 138 = .ok (.invokevirtual 118, 3) := by decide +kernel
theorem d_Ck_inspectKeyword_141 : decode b_Ck_inspectKeyword 141 = .ok (.goto 242, 3) := by decide +kernel
theorem d_Ck_inspectKeyword_144 : decode b_Ck_inspectKeyword 144 = .ok (.aload_n 0, 1) := by decide +kernel
theorem d_Ck_inspectKeyword_145 : decode b_Ck_inspectKeyword 145 = .ok (.iload_n 3, 1) := by decide +kernel
theorem d_Ck_inspectKeyword_146 : decode b_Ck_inspectKeyword 146 = .ok (.bipush 6, 2) := by decide +kernel
theorem d_Ck_inspectKeyword_148 : decode b_Ck_inspectKeyword 148 = .ok (.if_icmp .ne 7, 3) := by decide +kernel
theorem d_Ck_inspectKeyword_151 : decode b_Ck_inspectKeyword 151 = .ok (.iconst 1, 1) := by decide +kernel
theorem d_Ck_inspectKeyword_152 : decode b_Ck_inspectKeyword 152 = .ok (.goto 4, 3) := by decide +kernel
theorem d_Ck_inspectKeyword_155 : decode b_Ck_inspectKeyword 155 = .ok (.iconst 0, 1) := by decide +kernel
theorem d_Ck_inspectKeyword_156 : decode b_Ck_inspectKeyword 156 = .ok (.iload_n 2, 1) := by decide +kernel
theorem d_Ck_inspectKeyword_157 : decode b_Ck_inspectKeyword 157 = .ok (.invokevirtual 88, 3) := by decide +kernel
theorem d_Ck_inspectKeyword_160 : decode b_Ck_inspectKeyword 160 = .ok (.aload_n 0, 1) := by decide +kernel
theorem d_Ck_inspectKeyword_161 : decode b_Ck_inspectKeyword 161 = .ok (.iload_n 2, 1) := by decide +kernel
theorem d_Ck_inspectKeyword_162 : decode b_Ck_inspectKeyword 162 = .ok (.iload_n 3, 1) := by decide +kernel
theorem d_Ck_inspectKeyword_163 : decode b_Ck_inspectKeyword 163 = .ok (.bipush 6, 2) := by decide +kernel
theorem d_Ck_inspectKeyword_165 : decode b_Ck_inspectKeyword 165 = .ok (.if_icmp .ne 7, 3) := by decide +kernel
theorem d_Ck_inspectKeyword_168 : decode b_Ck_inspectKeyword 168 = .ok (.iconst 1, 1) := by decide +kernel
theorem d_Ck_inspectKeyword_169 : decode b_Ck_inspectKeyword 169 = .ok (.goto 4, 3) := by decide +kernel
theorem d_Ck_inspectKeyword_172 : decode b_Ck_inspectKeyword 172 = .ok (.iconst 0, 1) := by decide +kernel
theorem d_Ck_inspectKeyword_173 : decode b_Ck_inspectKeyword 173 = .ok (.invokevirtual 118, 3) := by decide +kernel
theorem d_Ck_inspectKeyword_176 : decode b_Ck_inspectKeyword 176 = .ok (.aload_n 1, 1) := by decide +kernel
theorem d_Ck_inspectKeyword_177 : decode b_Ck_inspectKeyword 177 = .ok (.getstatic 122, 3) := by decide +kernel
theorem d_Ck_inspectKeyword_180 : decode b_Ck_inspectKeyword 180 = .ok (.if_acmp .ne 203, 3) := by decide +kernel
theorem d_Ck_inspectKeyword_183 : decode b_Ck_inspectKeyword 183 = .ok (.iload_n 3, 1) := by decide +kernel
theorem d_Ck_inspectKeyword_184 : decode b_Ck_inspectKeyword 184 = .ok (.bipush 6, 2) := by decide +kernel
theorem d_Ck_inspectKeyword_186 : decode b_Ck_inspectKeyword 186 = .ok (.if_icmp .ne 197, 3) := by decide +kernel
theorem d_Ck_inspectKeyword_189 : decode b_Ck_inspectKeyword 189 = .ok (.aload_n 0, 1) := by decide +kernel
theorem d_Ck_inspectKeyword_190 : decode b_Ck_inspectKeyword 190 = .ok (.iload_n 2, 1) := by decide +kernel
theorem d_Ck_inspectKeyword_191 : decode b_Ck_inspectKeyword 191 = .ok (.invokevirtual 126, 3) := by decide +kernel
theorem d_Ck_inspectKeyword_194 : decode b_Ck_inspectKeyword 194 = .ok (.goto 189, 3) := by decide +kernel
theorem d_Ck_inspectKeyword_197 : decode b_Ck_inspectKeyword 197 = .ok (.aload_n 0, 1) := by decide +kernel
theorem d_Ck_inspectKeyword_198 : decode b_Ck_inspectKeyword 198 = .ok (.iload_n 3, 1) := by decide +kernel
theorem d_Ck_inspectKeyword_199 : decode b_Ck_inspectKeyword 199 = .ok (.iconst 3, 1) := by decide +kernel
theorem d_Ck_inspectKeyword_200 : decode b_Ck_inspectKeyword 200 = .ok (.if_icmp .ne 7, 3) := by decide +kernel
theorem d_Ck_inspectKeyword_203 : decode b_Ck_inspectKeyword 203 = .ok (.iconst 1, 1) := by decide +kernel
theorem d_Ck_inspectKeyword_204 : decode b_Ck_inspectKeyword 204 = .ok (.goto 4, 3) := by decide +kernel
theorem d_Ck_inspectKeyword_207 : decode b_Ck_inspectKeyword 207 = .ok (.iconst 0, 1) := by decide +kernel
theorem d_Ck_inspectKeyword_208 : decode b_Ck_inspectKeyword 208 = .ok (.iload_n 2, 1) := by decide +kernel
theorem d_Ck_inspectKeyword_209 : decode b_Ck_inspectKeyword 209 = .ok (.invokevirtual 88, 3) := by decide +kernel
theorem d_Ck_inspectKeyword_212 : decode b_Ck_inspectKeyword 212 = .ok (.goto 171, 3) := by decide +kernel
theorem d_Ck_inspectKeyword_215 : decode b_Ck_inspectKeyword 215 = .ok (.aload_n 0, 1) := by decide +kernel
theorem d_Ck_inspectKeyword_216 : decode b_Ck_inspectKeyword 216 = .ok (.iload_n 3, 1) := by decide +kernel
theorem d_Ck_inspectKeyword_217 : decode b_Ck_inspectKeyword 217 = .ok (.iconst 3, 1) := by decide +kernel
theorem d_Ck_inspectKeyword_218 : decode b_Ck_inspectKeyword 218 = .ok (.if_icmp .ne 18, 3) := by decide +kernel
theorem d_Ck_inspectKeyword_221 : decode b_Ck_inspectKeyword 221 = .ok (.aload_n 0, 1) := by decide +kernel
theorem d_Ck_inspectKeyword_222 : decode b_Ck_inspectKeyword 222 = .ok (.getfield 22, 3) := by decide +kernel
theorem d_Ck_inspectKeyword_225 : decode b_Ck_inspectKeyword 225 = .ok (.iload_n 2, 1) := by decide +kernel
theorem d_Ck_inspectKeyword_226 : decode b_Ck_inspectKeyword 226 = .ok (.invokevirtual 129, 3) := by decide +kernel
theorem d_Ck_inspectKeyword_229 : decode b_Ck_inspectKeyword 229 = .ok (.ifCond .le 7, 3) := by decide +kernel
theorem d_Ck_inspectKeyword_232 : decode b_Ck_inspectKeyword 232 = .ok (.iconst 1, 1) := by decide +kernel
theorem d_Ck_inspectKeyword_233 : decode b_Ck_inspectKeyword 233 = .ok (.goto 4, 3) := by decide +kernel
theorem d_Ck_inspectKeyword_236 : decode b_Ck_inspectKeyword 236 = .ok (.iconst 0, 1) := by decide +kernel
theorem d_Ck_inspectKeyword_237 : decode b_Ck_inspectKeyword 237 = .ok (.iload_n 2, 1) := by decide +kernel
theorem d_Ck_inspectKeyword_238 : decode b_Ck_inspectKeyword 238 = .ok (.invokevirtual 88, 3) := by decide +kernel
theorem d_Ck_inspectKeyword_241 : decode b_Ck_inspectKeyword 241 = .ok (.goto 142, 3) := by decide +kernel
theorem d_Ck_inspectKeyword_244 : decode b_Ck_inspectKeyword 244 = .ok (.aload_n 0, 1) := by decide +kernel
theorem d_Ck_inspectKeyword_245 : decode b_Ck_inspectKeyword 245 = .ok (.aload_n 0, 1) := by decide +kernel
theorem d_Ck_inspectKeyword_246 : decode b_Ck_inspectKeyword 246 = .ok (.getfield 22, 3) := by decide +kernel
theorem d_Ck_inspectKeyword_249 : decode b_Ck_inspectKeyword 249 = .ok (.iload_n 2, 1) := by decide +kernel
theorem d_Ck_inspectKeyword_250 : decode b_Ck_inspectKeyword 250 = .ok (.invokevirtual 132, 3) := by decide +kernel
theorem d_Ck_inspectKeyword_253 : decode b_Ck_inspectKeyword 253 = .ok (.iconst (-1), 1) := by decide +kernel
theorem d_Ck_inspectKeyword_254 : decode b_Ck_inspectKeyword 254 = .ok (.if_icmp .eq 7, 3) := by decide +kernel
theorem d_Ck_inspectKeyword_257 : decode b_Ck_inspectKeyword 257 = .ok (.iconst 1, 1) := by decide +kernel
theorem d_Ck_inspectKeyword_258 : decode b_Ck_inspectKeyword 258 = .ok (.goto 4, 3) := by decide +kernel
theorem d_Ck_inspectKeyword_261 : decode b_Ck_inspectKeyword 261 = .ok (.iconst 0, 1) := by decide +kernel
theorem d_Ck_inspectKeyword_262 : decode b_Ck_inspectKeyword 262 = .ok (.iload_n 2, 1) := by decide +kernel
theorem d_Ck_inspectKeyword_263 : decode b_Ck_inspectKeyword 263 = .ok (.invokevirtual 88, 3) := by decide +kernel
theorem d_Ck_inspectKeyword_266 : decode b_Ck_inspectKeyword 266 = .ok (.goto 117, 3) := by decide +kernel
theorem d_Ck_inspectKeyword_269 : decode b_Ck_inspectKeyword 269 = .ok (.aload_n 0, 1) := by decide +kernel
theorem d_Ck_inspectKeyword_270 : decode b_Ck_inspectKeyword 270 = .ok (.iload_n 3, 1) := by decide +kernel
theorem d_Ck_inspectKeyword_271 : decode b_Ck_inspectKeyword 271 = .ok (.iconst 4, 1) := by decide +kernel
theorem d_Ck_inspectKeyword_272 : decode b_Ck_inspectKeyword 272 = .ok (.if_icmp .ne 7, 3) := by decide +kernel
theorem d_Ck_inspectKeyword_275 : decode b_Ck_inspectKeyword 275 = .ok (.iconst 1, 1) := by decide +kernel
theorem d_Ck_inspectKeyword_276 : decode b_Ck_inspectKeyword 276 = .ok (.goto 4, 3) := by decide +kernel
theorem d_Ck_inspectKeyword_279 : decode b_Ck_inspectKeyword 279 = .ok (.iconst 0, 1) := by decide +kernel
theorem d_Ck_inspectKeyword_280 : decode b_Ck_inspectKeyword 280 = .ok (.iload_n 2, 1) := by decide +kernel
theorem d_Ck_inspectKeyword_281 : decode b_Ck_inspectKeyword 281 = .ok (.invokevirtual 88, 3) := by decide +kernel
theorem d_Ck_inspectKeyword_284 : decode b_Ck_inspectKeyword 284 = .ok (.iload_n 3, 1) := by decide +kernel
theorem d_Ck_inspectKeyword_285 : decode b_Ck_inspectKeyword 285 = .ok (.iconst 4, 1) := by decide +kernel
theorem d_Ck_inspectKeyword_286 : decode b_Ck_inspectKeyword 286 = .ok (.if_icmp .ne 97, 3) := by decide +kernel
theorem d_Ck_inspectKeyword_289 : decode b_Ck_inspectKeyword 289 = .ok (.aload_n 0, 1) := by decide +kernel
theorem d_Ck_inspectKeyword_290 : decode b_Ck_inspectKeyword 290 = .ok (.getfield 30, 3) := by decide +kernel
theorem d_Ck_inspectKeyword_293 : decode b_Ck_inspectKeyword 293 = .ok (.aload_n 0, 1) := by decide +kernel
theorem d_Ck_inspectKeyword_294 : decode b_Ck_inspectKeyword 294 = .ok (.getfield 22, 3) := by decide +kernel
theorem d_Ck_inspectKeyword_297 : decode b_Ck_inspectKeyword 297 = .ok (.iload_n 2, 1) := by decide +kernel
theorem d_Ck_inspectKeyword_298 : decode b_Ck_inspectKeyword 298 = .ok (.invokevirtual 135, 3) := by decide +kernel
theorem d_Ck_inspectKeyword_301 : decode b_Ck_inspectKeyword 301 = .ok (.ifCond .eq 13, 3) := by decide +kernel
theorem d_Ck_inspectKeyword_304 : decode b_Ck_inspectKeyword 304 = .ok (.aload_n 0, 1) := by decide +kernel
theorem d_Ck_inspectKeyword_305 : decode b_Ck_inspectKeyword 305 = .ok (.getfield 30, 3) := by decide +kernel
theorem d_Ck_inspectKeyword_308 : decode b_Ck_inspectKeyword 308 = .ok (.invokevirtual 141, 3) := by decide +kernel
theorem d_Ck_inspectKeyword_311 : decode b_Ck_inspectKeyword 311 = .ok (.ifCond .ne 72, 3) := by decide +kernel
theorem d_Ck_inspectKeyword_314 : decode b_Ck_inspectKeyword 314 = .ok (.aload_n 0, 1) := by decide +kernel
theorem d_Ck_inspectKeyword_315 : decode b_Ck_inspectKeyword 315 = .ok (.iconst 4, 1) := by decide +kernel
theorem d_Ck_inspectKeyword_316 : decode b_Ck_inspectKeyword 316 = .ok (.iload_n 2, 1) := by decide +kernel
theorem d_Ck_inspectKeyword_317 : decode b_Ck_inspectKeyword 317 = .ok (.invokevirtual 81, 3) := by decide +kernel
theorem d_Ck_inspectKeyword_320 : decode b_Ck_inspectKeyword 320 = .ok (.goto 63, 3) := by decide +kernel
theorem d_Ck_inspectKeyword_323 : decode b_Ck_inspectKeyword 323 = .ok (.aload_n 0, 1) := by decide +kernel
theorem d_Ck_inspectKeyword_324 : decode b_Ck_inspectKeyword 324 = .ok (.iload_n 3, 1) := by decide +kernel
theorem d_Ck_inspectKeyword_325 : decode b_Ck_inspectKeyword 325 = .ok (.iconst 4, 1) := by decide +kernel
theorem d_Ck_inspectKeyword_326 : decode b_Ck_inspectKeyword 326 = .ok (.if_icmp .ne 7, 3) := by decide +kernel
theorem d_Ck_inspectKeyword_329 : decode b_Ck_inspectKeyword 329 = .ok (.iconst 1, 1) := by decide +kernel
theorem d_Ck_inspectKeyword_330 : decode b_Ck_inspectKeyword 330 = .ok (.goto 4, 3) := by decide +kernel
theorem d_Ck_inspectKeyword_333 : decode b_Ck_inspectKeyword 333 = .ok (.iconst 0, 1) := by decide +kernel
theorem d_Ck_inspectKeyword_334 : decode b_Ck_inspectKeyword 334 = .ok (.iload_n 2, 1) := by decide +kernel
theorem d_Ck_inspectKeyword_335 : decode b_Ck_inspectKeyword 335 = .ok (.invokevirtual 88, 3) := by decide +kernel
theorem d_Ck_inspectKeyword_338 : decode b_Ck_inspectKeyword 338 = .ok (.goto 45, 3) := by decide +kernel
theorem d_Ck_inspectKeyword_341 : decode b_Ck_inspectKeyword 341 = .ok (.aload_n 0, 1) := by decide +kernel
theorem d_Ck_inspectKeyword_342 : decode b_Ck_inspectKeyword 342 = .ok (.iload_n 3, 1) := by decide +kernel
theorem d_Ck_inspectKeyword_343 : decode b_Ck_inspectKeyword 343 = .ok (.iconst 4, 1) := by decide +kernel
theorem d_Ck_inspectKeyword_344 : decode b_Ck_inspectKeyword 344 = .ok (.if_icmp .ne 15, 3) := by decide +kernel
theorem d_Ck_inspectKeyword_347 : decode b_Ck_inspectKeyword 347 = .ok (.aload_n 0, 1) := by decide +kernel
theorem d_Ck_inspectKeyword_348 : decode b_Ck_inspectKeyword 348 = .ok (.iload_n 2, 1) := by decide +kernel
theorem d_Ck_inspectKeyword_349 : decode b_Ck_inspectKeyword 349 = .ok (.invokevirtual 145, 3) := by decide +kernel
theorem d_Ck_inspectKeyword_352 : decode b_Ck_inspectKeyword 352 = .ok (.ifCond .eq 7, 3) := by decide +kernel
theorem d_Ck_inspectKeyword_355 : decode b_Ck_inspectKeyword 355 = .ok (.iconst 1, 1) := by decide +kernel
theorem d_Ck_inspectKeyword_356 : decode b_Ck_inspectKeyword 356 = .ok (.goto 4, 3) := by decide +kernel
theorem d_Ck_inspectKeyword_359 : decode b_Ck_inspectKeyword 359 = .ok (.iconst 0, 1) := by decide +kernel
theorem d_Ck_inspectKeyword_360 : decode b_Ck_inspectKeyword 360 = .ok (.iload_n 2, 1) := by decide +kernel
theorem d_Ck_inspectKeyword_361 : decode b_Ck_inspectKeyword 361 = .ok (.invokevirtual 88, 3) := by decide +kernel
theorem d_Ck_inspectKeyword_364 : decode b_Ck_inspectKeyword 364 = .ok (.goto 19, 3) := by decide +kernel
theorem d_Ck_inspectKeyword_367 : decode b_Ck_inspectKeyword 367 = .ok (.aload_n 0, 1) := by decide +kernel
theorem d_Ck_inspectKeyword_368 : decode b_Ck_inspectKeyword 368 = .ok (.iconst 2, 1) := by decide +kernel
theorem d_Ck_inspectKeyword_369 : decode b_Ck_inspectKeyword 369 = .ok (.iload_n 2, 1) := by decide +kernel
theorem d_Ck_inspectKeyword_370 : decode b_Ck_inspectKeyword 370 = .ok (.invokevirtual 81, 3) := by decide +kernel
theorem d_Ck_inspectKeyword_373 : decode b_Ck_inspectKeyword 373 = .ok (.goto 10, 3) := by decide +kernel
theorem d_Ck_inspectKeyword_376 : decode b_Ck_inspectKeyword 376 = .ok (.aload_n 0, 1) := by decide +kernel
theorem d_Ck_inspectKeyword_377 : decode b_Ck_inspectKeyword 377 = .ok (.aload_n 1, 1) := by decide +kernel
theorem d_Ck_inspectKeyword_378 : decode b_Ck_inspectKeyword 378 = .ok (.iload_n 2, 1) := by decide +kernel
theorem d_Ck_inspectKeyword_379 : decode b_Ck_inspectKeyword 379 = .ok (.iload_n 3, 1) := by decide +kernel
theorem d_Ck_inspectKeyword_380 : decode b_Ck_inspectKeyword 380 = .ok (.invokevirtual 148, 3) := by decide +kernel
theorem d_Ck_inspectKeyword_383 : decode b_Ck_inspectKeyword 383 = .ok (.return_, 1) := by decide +kernel
theorem d_Ck_inspectSchema_0 : decode b_Ck_inspectSchema 0 = .ok (.aload_n 0, 1) := by decide +kernel
theorem d_Ck_inspectSchema_1 : decode b_Ck_inspectSchema 1 = .ok (.getfield 22, 3) := by decide +kernel
theorem d_Ck_inspectSchema_4 : decode b_Ck_inspectSchema 4 = .ok (.iload_n 1, 1) := by decide +kernel
theorem d_Ck_inspectSchema_5 : decode b_Ck_inspectSchema 5 = .ok (.invokevirtual 92, 3) := by decide +kernel
theorem d_Ck_inspectSchema_8 : decode b_Ck_inspectSchema 8 = .ok (.istore_n 2, 1) := by decide +kernel
theorem d_Ck_inspectSchema_9 : decode b_Ck_inspectSchema 9 = .ok (.iconst 0, 1) := by decide +kernel
theorem d_Ck_inspectSchema_10 : decode b_Ck_inspectSchema 10 = .ok (.istore_n 3, 1) := by decide +kernel
theorem d_Ck_inspectSchema_11 : decode b_Ck_inspectSchema 11 = .ok (.iload_n 3, 1) := by decide +kernel
theorem d_Ck_inspectSchema_12 : decode b_Ck_inspectSchema 12 = .ok (.aload_n 0, 1) := by decide +kernel
theorem d_Ck_inspectSchema_13 : decode b_Ck_inspectSchema 13 = .ok (.getfield 22, 3) := by decide +kernel
theorem d_Ck_inspectSchema_16 : decode b_Ck_inspectSchema 16 = .ok (.iload_n 1, 1) := by decide +kernel
theorem d_Ck_inspectSchema_17 : decode b_Ck_inspectSchema 17 = .ok (.invokevirtual 96, 3) := by decide +kernel
theorem d_Ck_inspectSchema_20 : decode b_Ck_inspectSchema 20 = .ok (.if_icmp .ge 31, 3) := by decide +kernel
theorem d_Ck_inspectSchema_23 : decode b_Ck_inspectSchema 23 = .ok (.aload_n 0, 1) := by decide +kernel
theorem d_Ck_inspectSchema_24 : decode b_Ck_inspectSchema 24 = .ok (.aload_n 0, 1) := by decide +kernel
theorem d_Ck_inspectSchema_25 : decode b_Ck_inspectSchema 25 = .ok (.getfield 26, 3) := by decide +kernel
theorem d_Ck_inspectSchema_28 : decode b_Ck_inspectSchema 28 = .ok (.iload_n 2, 1) := by decide +kernel
theorem d_Ck_inspectSchema_29 : decode b_Ck_inspectSchema 29 = .ok (.invokevirtual 99, 3) := by decide +kernel
theorem d_Ck_inspectSchema_32 : decode b_Ck_inspectSchema 32 = .ok (.iload_n 2, 1) := by decide +kernel
theorem d_Ck_inspectSchema_33 : decode b_Ck_inspectSchema 33 = .ok (.invokevirtual 103, 3) := by decide +kernel
theorem d_Ck_inspectSchema_36 : decode b_Ck_inspectSchema 36 = .ok (.aload_n 0, 1) := by decide +kernel
theorem d_Ck_inspectSchema_37 : decode b_Ck_inspectSchema 37 = .ok (.getfield 22, 3) := by decide +kernel
theorem d_Ck_inspectSchema_40 : decode b_Ck_inspectSchema 40 = .ok (.iload_n 2, 1) := by decide +kernel
theorem d_Ck_inspectSchema_41 : decode b_Ck_inspectSchema 41 = .ok (.invokevirtual 107, 3) := by decide +kernel
theorem d_Ck_inspectSchema_44 : decode b_Ck_inspectSchema 44 = .ok (.istore_n 2, 1) := by decide +kernel
theorem d_Ck_inspectSchema_45 : decode b_Ck_inspectSchema 45 = .ok (.iinc 3 1, 3) := by decide +kernel
theorem d_Ck_inspectSchema_48 : decode b_Ck_inspectSchema 48 = .ok (.goto (-37), 3) := by decide +kernel
theorem d_Ck_inspectSchema_51 : decode b_Ck_inspectSchema 51 = .ok (.return_, 1) := by decide +kernel
theorem d_Mk_keyword_0 : decode b_Mk_keyword 0 = .ok (.iload_n 1, 1) := by decide +kernel
theorem d_Mk_keyword_1 : decode b_Mk_keyword 1 = .ok (.ifCond .lt 19, 3) := by decide +kernel
theorem d_Mk_keyword_4 : decode b_Mk_keyword 4 = .ok (.iload_n 1, 1) := by decide +kernel
theorem d_Mk_keyword_5 : decode b_Mk_keyword 5 = .ok (.sipush 1000, 3) := by decide +kernel
theorem d_Mk_keyword_8 : decode b_Mk_keyword 8 = .ok (.if_icmp .ge 12, 3) := by decide +kernel
theorem d_Mk_keyword_11 : decode b_Mk_keyword 11 = .ok (.aload_n 0, 1) := by decide +kernel
theorem d_Mk_keyword_12 : decode b_Mk_keyword 12 = .ok (.getfield 9, 3) := by decide +kernel
theorem d_Mk_keyword_15 : decode b_Mk_keyword 15 = .ok (.iload_n 1, 1) := by decide +kernel
theorem d_Mk_keyword_16 : decode b_Mk_keyword 16 = .ok (.iaload, 1) := by decide +kernel
theorem d_Mk_keyword_17 : decode b_Mk_keyword 17 = .ok (.goto 4, 3) := by decide +kernel
theorem d_Mk_keyword_20 : decode b_Mk_keyword 20 = .ok (.iconst 0, 1) := by decide +kernel
theorem d_Mk_keyword_21 : decode b_Mk_keyword 21 = .ok (.invokestatic 38, 3) := by decide +kernel
theorem d_Mk_keyword_24 : decode b_Mk_keyword 24 = .ok (.areturn, 1) := by decide +kernel
theorem d_Ck_isAnchorValue_0 : decode b_Ck_isAnchorValue 0 = .ok (.aload_n 0, 1) := by decide +kernel
theorem d_Ck_isAnchorValue_1 : decode b_Ck_isAnchorValue 1 = .ok (.getfield 26, 3) := by decide +kernel
theorem d_Ck_isAnchorValue_4 : decode b_Ck_isAnchorValue 4 = .ok (.iload_n 1, 1) := by decide +kernel
theorem d_Ck_isAnchorValue_5 : decode b_Ck_isAnchorValue 5 = .ok (.invokevirtual 206, 3) := by decide +kernel
theorem d_Ck_isAnchorValue_8 : decode b_Ck_isAnchorValue 8 = .ok (.getstatic 209, 3) := by decide +kernel
theorem d_Ck_isAnchorValue_11 : decode b_Ck_isAnchorValue 11 = .ok (.if_acmp .ne 19, 3) := by decide +kernel
theorem d_Ck_isAnchorValue_14 : decode b_Ck_isAnchorValue 14 = .ok (.aload_n 0, 1) := by decide +kernel
theorem d_Ck_isAnchorValue_15 : decode b_Ck_isAnchorValue 15 = .ok (.getfield 22, 3) := by decide +kernel
theorem d_Ck_isAnchorValue_18 : decode b_Ck_isAnchorValue 18 = .ok (.iload_n 1, 1) := by decide +kernel
theorem d_Ck_isAnchorValue_19 : decode b_Ck_isAnchorValue 19 = .ok (.invokevirtual 110, 3) := by decide +kernel
theorem d_Ck_isAnchorValue_22 : decode b_Ck_isAnchorValue 22 = .ok (.iconst 4, 1) := by decide +kernel
theorem d_Ck_isAnchorValue_23 : decode b_Ck_isAnchorValue 23 = .ok (.if_icmp .ne 7, 3) := by decide +kernel
theorem d_Ck_isAnchorValue_26 : decode b_Ck_isAnchorValue 26 = .ok (.iconst 1, 1) := by decide +kernel
theorem d_Ck_isAnchorValue_27 : decode b_Ck_isAnchorValue 27 = .ok (.goto 4, 3) := by decide +kernel
theorem d_Ck_isAnchorValue_30 : decode b_Ck_isAnchorValue 30 = .ok (.iconst 0, 1) := by decide +kernel
theorem d_Ck_isAnchorValue_31 : decode b_Ck_isAnchorValue 31 = .ok (.ireturn, 1) := by decide +kernel
theorem d_Ck_hasElderAnchor_0 : decode b_Ck_hasElderAnchor 0 = .ok (.iconst 0, 1) := by decide +kernel
theorem d_Ck_hasElderAnchor_1 : decode b_Ck_hasElderAnchor 1 = .ok (.istore_n 2, 1) := by decide +kernel
theorem d_Ck_hasElderAnchor_2 : decode b_Ck_hasElderAnchor 2 = .ok (.iload_n 2, 1) := by decide +kernel
theorem d_Ck_hasElderAnchor_3 : decode b_Ck_hasElderAnchor 3 = .ok (.iload_n 1, 1) := by decide +kernel
theorem d_Ck_hasElderAnchor_4 : decode b_Ck_hasElderAnchor 4 = .ok (.if_icmp .ge 35, 3) := by decide +kernel
theorem d_Ck_hasElderAnchor_7 : decode b_Ck_hasElderAnchor 7 = .ok (.aload_n 0, 1) := by decide +kernel
theorem d_Ck_hasElderAnchor_8 : decode b_Ck_hasElderAnchor 8 = .ok (.iload_n 2, 1) := by decide +kernel
theorem d_Ck_hasElderAnchor_9 : decode b_Ck_hasElderAnchor 9 = .ok (.invokevirtual 200, 3) := by decide +kernel
theorem d_Ck_hasElderAnchor_12 : decode b_Ck_hasElderAnchor 12 = .ok (.ifCond .eq 21, 3) := by decide +kernel
theorem d_Ck_hasElderAnchor_15 : decode b_Ck_hasElderAnchor 15 = .ok (.aload_n 0, 1) := by decide +kernel
theorem d_Ck_hasElderAnchor_16 : decode b_Ck_hasElderAnchor 16 = .ok (.getfield 22, 3) := by decide +kernel
theorem d_Ck_hasElderAnchor_19 : decode b_Ck_hasElderAnchor 19 = .ok (.iload_n 2, 1) := by decide +kernel
theorem d_Ck_hasElderAnchor_20 : decode b_Ck_hasElderAnchor 20 = .ok (.aload_n 0, 1) := by decide +kernel
theorem d_Ck_hasElderAnchor_21 : decode b_Ck_hasElderAnchor 21 = .ok (.getfield 22, 3) := by decide +kernel
theorem d_Ck_hasElderAnchor_24 : decode b_Ck_hasElderAnchor 24 = .ok (.iload_n 1, 1) := by decide +kernel
theorem d_Ck_hasElderAnchor_25 : decode b_Ck_hasElderAnchor 25 = .ok (.invokestatic 196, 3) := by decide +kernel
theorem d_Ck_hasElderAnchor_28 : decode b_Ck_hasElderAnchor 28 = .ok (.ifCond .eq 5, 3) := by decide +kernel
theorem d_Ck_hasElderAnchor_31 : decode b_Ck_hasElderAnchor 31 = .ok (.iconst 1, 1) := by decide +kernel
theorem d_Ck_hasElderAnchor_32 : decode b_Ck_hasElderAnchor 32 = .ok (.ireturn, 1) := by decide +kernel
theorem d_Ck_hasElderAnchor_33 : decode b_Ck_hasElderAnchor 33 = .ok (.iinc 2 1, 3) := by decide +kernel
theorem d_Ck_hasElderAnchor_36 : decode b_Ck_hasElderAnchor 36 = .ok (.goto (-34), 3) := by decide +kernel
theorem d_Ck_hasElderAnchor_39 : decode b_Ck_hasElderAnchor 39 = .ok (.iconst 0, 1) := by decide +kernel
theorem d_Ck_hasElderAnchor_40 : decode b_Ck_hasElderAnchor 40 = .ok (.ireturn, 1) := by decide +kernel
theorem d_Ck_compareAnchors_0 : decode b_Ck_compareAnchors 0 = .ok (.iconst 0, 1) := by decide +kernel
theorem d_Ck_compareAnchors_1 : decode b_Ck_compareAnchors 1 = .ok (.istore_n 1, 1) := by decide +kernel
theorem d_Ck_compareAnchors_2 : decode b_Ck_compareAnchors 2 = .ok (.iload_n 1, 1) := by decide +kernel
theorem d_Ck_compareAnchors_3 : decode b_Ck_compareAnchors 3 = .ok (.aload_n 0, 1) := by decide +kernel
theorem d_Ck_compareAnchors_4 : decode b_Ck_compareAnchors 4 = .ok (.getfield 22, 3) := by decide +kernel
theorem d_Ck_compareAnchors_7 : decode b_Ck_compareAnchors 7 = .ok (.invokevirtual 59, 3) := by decide +kernel
theorem d_Ck_compareAnchors_10 : decode b_Ck_compareAnchors 10 = .ok (.if_icmp .ge 31, 3) := by decide +kernel
theorem d_Ck_compareAnchors_13 : decode b_Ck_compareAnchors 13 = .ok (.aload_n 0, 1) := by decide +kernel
theorem d_Ck_compareAnchors_14 : decode b_Ck_compareAnchors 14 = .ok (.iload_n 1, 1) := by decide +kernel
theorem d_Ck_compareAnchors_15 : decode b_Ck_compareAnchors 15 = .ok (.invokevirtual 200, 3) := by decide +kernel
theorem d_Ck_compareAnchors_18 : decode b_Ck_compareAnchors 18 = .ok (.ifCond .eq 17, 3) := by decide +kernel
theorem d_Ck_compareAnchors_21 : decode b_Ck_compareAnchors 21 = .ok (.aload_n 0, 1) := by decide +kernel
theorem d_Ck_compareAnchors_22 : decode b_Ck_compareAnchors 22 = .ok (.iload_n 1, 1) := by decide +kernel
theorem d_Ck_compareAnchors_23 : decode b_Ck_compareAnchors 23 = .ok (.invokevirtual 203, 3) := by decide +kernel
theorem d_Ck_compareAnchors_26 : decode b_Ck_compareAnchors 26 = .ok (.ifCond .eq 9, 3) := by decide +kernel
theorem d_Ck_compareAnchors_29 : decode b_Ck_compareAnchors 29 = .ok (.aload_n 0, 1) := by decide +kernel
theorem d_Ck_compareAnchors_30 : decode b_Ck_compareAnchors 30 = .ok (.iconst 3, 1) := by decide +kernel
theorem d_Ck_compareAnchors_31 : decode b_Ck_compareAnchors 31 = .ok (.iload_n 1, 1) := by decide +kernel
theorem d_Ck_compareAnchors_32 : decode b_Ck_compareAnchors 32 = .ok (.invokevirtual 81, 3) := by decide +kernel
theorem d_Ck_compareAnchors_35 : decode b_Ck_compareAnchors 35 = .ok (.iinc 1 1, 3) := by decide +kernel
theorem d_Ck_compareAnchors_38 : decode b_Ck_compareAnchors 38 = .ok (.goto (-36), 3) := by decide +kernel
theorem d_Ck_compareAnchors_41 : decode b_Ck_compareAnchors 41 = .ok (.return_, 1) := by decide +kernel
theorem d_JA_fill_0 : decode b_JA_fill 0 = .ok (.iconst 0, 1) := by decide +kernel
theorem d_JA_fill_1 : decode b_JA_fill 1 = .ok (.istore_n 2, 1) := by decide +kernel
theorem d_JA_fill_2 : decode b_JA_fill 2 = .ok (.aload_n 0, 1) := by decide +kernel
theorem d_JA_fill_3 : decode b_JA_fill 3 = .ok (.arraylength, 1) := by decide +kernel
theorem d_JA_fill_4 : decode b_JA_fill 4 = .ok (.istore_n 3, 1) := by decide +kernel
theorem d_JA_fill_5 : decode b_JA_fill 5 = .ok (.iload_n 2, 1) := by decide +kernel
theorem d_JA_fill_6 : decode b_JA_fill 6 = .ok (.iload_n 3, 1) := by decide +kernel
theorem d_JA_fill_7 : decode b_JA_fill 7 = .ok (.if_icmp .ge 13, 3) := by decide +kernel
theorem d_JA_fill_10 : decode b_JA_fill 10 = .ok (.aload_n 0, 1) := by decide +kernel
theorem d_JA_fill_11 : decode b_JA_fill 11 = .ok (.iload_n 2, 1) := by decide +kernel
theorem d_JA_fill_12 : decode b_JA_fill 12 = .ok (.iload_n 1, 1) := by decide +kernel
theorem d_JA_fill_13 : decode b_JA_fill 13 = .ok (.iastore, 1) := by decide +kernel
theorem d_JA_fill_14 : decode b_JA_fill 14 = .ok (.iinc 2 1, 3) := by decide +kernel
theorem d_JA_fill_17 : decode b_JA_fill 17 = .ok (.goto (-12), 3) := by decide +kernel
theorem d_JA_fill_20 : decode b_JA_fill 20 = .ok (.return_, 1) := by decide +kernel
theorem d_Lk_octetAt_0 : decode b_Lk_octetAt 0 = .ok (.aload_n 0, 1) := by decide +kernel
theorem d_Lk_octetAt_1 : decode b_Lk_octetAt 1 = .ok (.getfield 15, 3) := by decide +kernel
theorem d_Lk_octetAt_4 : decode b_Lk_octetAt 4 = .ok (.iload_n 1, 1) := by decide +kernel
theorem d_Lk_octetAt_5 : decode b_Lk_octetAt 5 = .ok (.aload_n 0, 1) := by decide +kernel
theorem d_Lk_octetAt_6 : decode b_Lk_octetAt 6 = .ok (.getfield 49, 3) := by decide +kernel
theorem d_Lk_octetAt_9 : decode b_Lk_octetAt 9 = .ok (.iconst 1, 1) := by decide +kernel
theorem d_Lk_octetAt_10 : decode b_Lk_octetAt 10 = .ok (.iadd, 1) := by decide +kernel
theorem d_Lk_octetAt_11 : decode b_Lk_octetAt 11 = .ok (.invokevirtual 55, 3) := by decide +kernel
theorem d_Lk_octetAt_14 : decode b_Lk_octetAt 14 = .ok (.invokestatic 62, 3) := by decide +kernel
theorem d_Lk_octetAt_17 : decode b_Lk_octetAt 17 = .ok (.istore_n 2, 1) := by decide +kernel
theorem d_Lk_octetAt_18 : decode b_Lk_octetAt 18 = .ok (.aload_n 0, 1) := by decide +kernel
theorem d_Lk_octetAt_19 : decode b_Lk_octetAt 19 = .ok (.getfield 15, 3) := by decide +kernel
theorem d_Lk_octetAt_22 : decode b_Lk_octetAt 22 = .ok (.iload_n 1, 1) := by decide +kernel
theorem d_Lk_octetAt_23 : decode b_Lk_octetAt 23 = .ok (.aload_n 0, 1) := by decide +kernel
theorem d_Lk_octetAt_24 : decode b_Lk_octetAt 24 = .ok (.getfield 49, 3) := by decide +kernel
theorem d_Lk_octetAt_27 : decode b_Lk_octetAt 27 = .ok (.iconst 2, 1) := by decide +kernel
theorem d_Lk_octetAt_28 : decode b_Lk_octetAt 28 = .ok (.iadd, 1) := by decide +kernel
theorem d_Lk_octetAt_29 : decode b_Lk_octetAt 29 = .ok (.invokevirtual 55, 3) := by decide +kernel
theorem d_Lk_octetAt_32 : decode b_Lk_octetAt 32 = .ok (.invokestatic 62, 3) := by decide +kernel
theorem d_Lk_octetAt_35 : decode b_Lk_octetAt 35 = .ok (.istore_n 3, 1) := by decide +kernel
theorem d_Lk_octetAt_36 : decode b_Lk_octetAt 36 = .ok (.aload_n 0, 1) := by decide +kernel
theorem d_Lk_octetAt_37 : decode b_Lk_octetAt 37 = .ok (.getfield 15, 3) := by decide +kernel
theorem d_Lk_octetAt_40 : decode b_Lk_octetAt 40 = .ok (.iload_n 1, 1) := by decide +kernel
theorem d_Lk_octetAt_41 : decode b_Lk_octetAt 41 = .ok (.aload_n 0, 1) := by decide +kernel
theorem d_Lk_octetAt_42 : decode b_Lk_octetAt 42 = .ok (.getfield 49, 3) := by decide +kernel
theorem d_Lk_octetAt_45 : decode b_Lk_octetAt 45 = .ok (.invokevirtual 55, 3) := by decide +kernel
theorem d_Lk_octetAt_48 : decode b_Lk_octetAt 48 = .ok (.bipush 37, 2) := by decide +kernel
theorem d_Lk_octetAt_50 : decode b_Lk_octetAt 50 = .ok (.if_icmp .ne 13, 3) := by decide +kernel
theorem d_Lk_octetAt_53 : decode b_Lk_octetAt 53 = .ok (.iload_n 2, 1) := by decide +kernel
theorem d_Lk_octetAt_54 : decode b_Lk_octetAt 54 = .ok (.iconst (-1), 1) := by decide +kernel
theorem d_Lk_octetAt_55 : decode b_Lk_octetAt 55 = .ok (.if_icmp .eq 8, 3) := by decide +kernel
theorem d_Lk_octetAt_58 : decode b_Lk_octetAt 58 = .ok (.iload_n 3, 1) := by decide +kernel
theorem d_Lk_octetAt_59 : decode b_Lk_octetAt 59 = .ok (.iconst (-1), 1) := by decide +kernel
theorem d_Lk_octetAt_60 : decode b_Lk_octetAt 60 = .ok (.if_icmp .ne 7, 3) := by decide +kernel
theorem d_Lk_octetAt_63 : decode b_Lk_octetAt 63 = .ok (.iconst (-1), 1) := by decide +kernel
theorem d_Lk_octetAt_64 : decode b_Lk_octetAt 64 = .ok (.goto 9, 3) := by decide +kernel
theorem d_Lk_octetAt_67 : decode b_Lk_octetAt 67 = .ok (.iload_n 2, 1) := by decide +kernel
theorem d_Lk_octetAt_68 : decode b_Lk_octetAt 68 = .ok (.bipush 16, 2) := by decide +kernel
theorem d_Lk_octetAt_70 : decode b_Lk_octetAt 70 = .ok (.imul, 1) := by decide +kernel
theorem d_Lk_octetAt_71 : decode b_Lk_octetAt 71 = .ok (.iload_n 3, 1) := by decide +kernel
theorem d_Lk_octetAt_72 : decode b_Lk_octetAt 72 = .ok (.iadd, 1) := by decide +kernel
theorem d_Lk_octetAt_73 : decode b_Lk_octetAt 73 = .ok (.ireturn, 1) := by decide +kernel
theorem d_Lk_decodeOctets_0 : decode b_Lk_decodeOctets 0 = .ok (.iload_n 2, 1) := by decide +kernel
theorem d_Lk_decodeOctets_1 : decode b_Lk_decodeOctets 1 = .ok (.invokestatic 65, 3) := by decide +kernel
theorem d_Lk_decodeOctets_4 : decode b_Lk_decodeOctets 4 = .ok (.istore_n 3, 1) := by decide +kernel
theorem d_Lk_decodeOctets_5 : decode b_Lk_decodeOctets 5 = .ok (.iload_n 3, 1) := by decide +kernel
theorem d_Lk_decodeOctets_6 : decode b_Lk_decodeOctets 6 = .ok (.iconst (-1), 1) := by decide +kernel
theorem d_Lk_decodeOctets_7 : decode b_Lk_decodeOctets 7 = .ok (.if_icmp .ne 5, 3) := by decide +kernel
theorem d_Lk_decodeOctets_10 : decode b_Lk_decodeOctets 10 = .ok (.iconst (-1), 1) := by decide +kernel
theorem d_Lk_decodeOctets_11 : decode b_Lk_decodeOctets 11 = .ok (.ireturn, 1) := by decide +kernel
theorem d_Lk_decodeOctets_12 : decode b_Lk_decodeOctets 12 = .ok (.iload_n 2, 1) := by decide +kernel
theorem d_Lk_decodeOctets_13 : decode b_Lk_decodeOctets 13 = .ok (.iload_n 3, 1) := by decide +kernel
theorem d_Lk_decodeOctets_14 : decode b_Lk_decodeOctets 14 = .ok (.invokestatic 68, 3) := by decide +kernel
theorem d_Lk_decodeOctets_17 : decode b_Lk_decodeOctets 17 = .ok (.istore 4, 2) := by decide +kernel
theorem d_Lk_decodeOctets_19 : decode b_Lk_decodeOctets 19 = .ok (.iconst 0, 1) := by decide +kernel
theorem d_Lk_decodeOctets_20 : decode b_Lk_decodeOctets 20 = .ok (.istore 5, 2) := by decide +kernel
theorem d_Lk_decodeOctets_22 : decode b_Lk_decodeOctets 22 = .ok (.iload 5, 2) := by decide +kernel
theorem d_Lk_decodeOctets_24 : decode b_Lk_decodeOctets 24 = .ok (.iload_n 3, 1) := by decide +kernel
theorem d_Lk_decodeOctets_25 : decode b_Lk_decodeOctets 25 = .ok (.if_icmp .ge 49, 3) := by decide +kernel
theorem d_Lk_decodeOctets_28 : decode b_Lk_decodeOctets 28 = .ok (.aload_n 0, 1) := by decide +kernel
theorem d_Lk_decodeOctets_29 : decode b_Lk_decodeOctets 29 = .ok (.dup, 1) := by decide +kernel
theorem d_Lk_decodeOctets_30 : decode b_Lk_decodeOctets 30 = .ok (.getfield 49, 3) := by decide +kernel
theorem d_Lk_decodeOctets_33 : decode b_Lk_decodeOctets 33 = .ok (.iconst 3, 1) := by decide +kernel
theorem d_Lk_decodeOctets_34 : decode b_Lk_decodeOctets 34 = .ok (.iadd, 1) := by decide +kernel
theorem d_Lk_decodeOctets_35 : decode b_Lk_decodeOctets 35 = .ok (.putfield 49, 3) := by decide +kernel
theorem d_Lk_decodeOctets_38 : decode b_Lk_decodeOctets 38 = .ok (.aload_n 0, 1) := by decide +kernel
theorem d_Lk_decodeOctets_39 : decode b_Lk_decodeOctets 39 = .ok (.iload_n 1, 1) := by decide +kernel
theorem d_Lk_decodeOctets_40 : decode b_Lk_decodeOctets 40 = .ok (.invokevirtual 52, 3) := by decide +kernel
theorem d_Lk_decodeOctets_43 : decode b_Lk_decodeOctets 43 = .ok (.istore 6, 2) := by decide +kernel
theorem d_Lk_decodeOctets_45 : decode b_Lk_decodeOctets 45 = .ok (.iload 6, 2) := by decide +kernel
theorem d_Lk_decodeOctets_47 : decode b_Lk_decodeOctets 47 = .ok (.invokestatic 71, 3) := by decide +kernel
theorem d_Lk_decodeOctets_50 : decode b_Lk_decodeOctets 50 = .ok (.ifCond .ne 5, 3) := by decide +kernel
theorem d_Lk_decodeOctets_53 : decode b_Lk_decodeOctets 53 = .ok (.iconst (-1), 1) := by decide +kernel
theorem d_Lk_decodeOctets_54 : decode b_Lk_decodeOctets 54 = .ok (.ireturn, 1) := by decide +kernel
theorem d_Lk_decodeOctets_55 : decode b_Lk_decodeOctets 55 = .ok (.iload 4, 2) := by decide +kernel
theorem d_Lk_decodeOctets_57 : decode b_Lk_decodeOctets 57 = .ok (.bipush 6, 2) := by decide +kernel
theorem d_Lk_decodeOctets_59 : decode b_Lk_decodeOctets 59 = .ok (.ishl, 1) := by decide +kernel
theorem d_Lk_decodeOctets_60 : decode b_Lk_decodeOctets 60 = .ok (.iload 6, 2) := by decide +kernel
theorem d_Lk_decodeOctets_62 : decode b_Lk_decodeOctets 62 = .ok (.bipush 63, 2) := by decide +kernel
theorem d_Lk_decodeOctets_64 : decode b_Lk_decodeOctets 64 = .ok (.iand, 1) := by decide +kernel
theorem d_Lk_decodeOctets_65 : decode b_Lk_decodeOctets 65 = .ok (.ior, 1) := by decide +kernel
theorem d_Lk_decodeOctets_66 : decode b_Lk_decodeOctets 66 = .ok (.istore 4, 2) := by decide +kernel
theorem d_Lk_decodeOctets_68 : decode b_Lk_decodeOctets 68 = .ok (.iinc 5 1, 3) := by decide +kernel
theorem d_Lk_decodeOctets_71 : decode b_Lk_decodeOctets 71 = .ok (.goto (-49), 3) := by decide +kernel
theorem d_Lk_decodeOctets_74 : decode b_Lk_decodeOctets 74 = .ok (.iload 4, 2) := by decide +kernel
theorem d_Lk_decodeOctets_76 : decode b_Lk_decodeOctets 76 = .ok (.iload_n 3, 1) := by decide +kernel
theorem d_Lk_decodeOctets_77 : decode b_Lk_decodeOctets 77 = .ok (.invokestatic 74, 3) := by decide +kernel
theorem d_Lk_decodeOctets_80 : decode b_Lk_decodeOctets 80 = .ok (.ifCond .eq 8, 3) := by decide +kernel
theorem d_Lk_decodeOctets_83 : decode b_Lk_decodeOctets 83 = .ok (.iload 4, 2) := by decide +kernel
theorem d_Lk_decodeOctets_85 : decode b_Lk_decodeOctets 85 = .ok (.goto 4, 3) := by decide +kernel
theorem d_Lk_decodeOctets_88 : decode b_Lk_decodeOctets 88 = .ok (.iconst (-1), 1) := by decide +kernel
theorem d_Lk_decodeOctets_89 : decode b_Lk_decodeOctets 89 = .ok (.ireturn, 1) := by decide +kernel
theorem d_Lk_decode_0 : decode b_Lk_decode 0 = .ok (.aload_n 0, 1) := by decide +kernel
theorem d_Lk_decode_1 : decode b_Lk_decode 1 = .ok (.getfield 15, 3) := by decide +kernel
theorem d_Lk_decode_4 : decode b_Lk_decode 4 = .ok (.iload_n 1, 1) := by decide +kernel
theorem d_Lk_decode_5 : decode b_Lk_decode 5 = .ok (.invokevirtual 43, 3) := by decide +kernel
theorem d_Lk_decode_8 : decode b_Lk_decode 8 = .ok (.istore_n 2, 1) := by decide +kernel
theorem d_Lk_decode_9 : decode b_Lk_decode 9 = .ok (.aload_n 0, 1) := by decide +kernel
theorem d_Lk_decode_10 : decode b_Lk_decode 10 = .ok (.iconst 0, 1) := by decide +kernel
theorem d_Lk_decode_11 : decode b_Lk_decode 11 = .ok (.putfield 27, 3) := by decide +kernel
theorem d_Lk_decode_14 : decode b_Lk_decode 14 = .ok (.aload_n 0, 1) := by decide +kernel
theorem d_Lk_decode_15 : decode b_Lk_decode 15 = .ok (.iconst 0, 1) := by decide +kernel
theorem d_Lk_decode_16 : decode b_Lk_decode 16 = .ok (.putfield 49, 3) := by decide +kernel
theorem d_Lk_decode_19 : decode b_Lk_decode 19 = .ok (.iconst 0, 1) := by decide +kernel
theorem d_Lk_decode_20 : decode b_Lk_decode 20 = .ok (.istore_n 3, 1) := by decide +kernel
theorem d_Lk_decode_21 : decode b_Lk_decode 21 = .ok (.iload_n 3, 1) := by decide +kernel
theorem d_Lk_decode_22 : decode b_Lk_decode 22 = .ok (.iload_n 2, 1) := by decide +kernel
theorem d_Lk_decode_23 : decode b_Lk_decode 23 = .ok (.if_icmp .ge 115, 3) := by decide +kernel
theorem d_Lk_decode_26 : decode b_Lk_decode 26 = .ok (.aload_n 0, 1) := by decide +kernel
theorem d_Lk_decode_27 : decode b_Lk_decode 27 = .ok (.getfield 49, 3) := by decide +kernel
theorem d_Lk_decode_30 : decode b_Lk_decode 30 = .ok (.iload_n 2, 1) := by decide +kernel
theorem d_Lk_decode_31 : decode b_Lk_decode 31 = .ok (.if_icmp .ge 107, 3) := by decide +kernel
theorem d_Lk_decode_34 : decode b_Lk_decode 34 = .ok (.aload_n 0, 1) := by decide +kernel
theorem d_Lk_decode_35 : decode b_Lk_decode 35 = .ok (.getfield 27, 3) := by decide +kernel
theorem d_Lk_decode_38 : decode b_Lk_decode 38 = .ok (.aload_n 0, 1) := by decide +kernel
theorem d_Lk_decode_39 : decode b_Lk_decode 39 = .ok (.getfield 9, 3) := by decide +kernel
theorem d_Lk_decode_42 : decode b_Lk_decode 42 = .ok (.arraylength, 1) := by decide +kernel
theorem d_Lk_decode_43 : decode b_Lk_decode 43 = .ok (.if_icmp .ge 95, 3) := by decide +kernel
theorem d_Lk_decode_46 : decode b_Lk_decode 46 = .ok (.aload_n 0, 1) := by decide +kernel
theorem d_Lk_decode_47 : decode b_Lk_decode 47 = .ok (.iload_n 1, 1) := by decide +kernel
theorem d_Lk_decode_48 : decode b_Lk_decode 48 = .ok (.invokevirtual 52, 3) := by decide +kernel
theorem d_Lk_decode_51 : decode b_Lk_decode 51 = .ok (.istore 4, 2) := by decide +kernel
theorem d_Lk_decode_53 : decode b_Lk_decode 53 = .ok (.iload 4, 2) := by decide +kernel
theorem d_Lk_decode_55 : decode b_Lk_decode 55 = .ok (.iconst (-1), 1) := by decide +kernel
theorem d_Lk_decode_56 : decode b_Lk_decode 56 = .ok (.if_icmp .ne 18, 3) := by decide +kernel
theorem d_Lk_decode_59 : decode b_Lk_decode 59 = .ok (.aload_n 0, 1) := by decide +kernel
theorem d_Lk_decode_60 : decode b_Lk_decode 60 = .ok (.getfield 15, 3) := by decide +kernel
theorem d_Lk_decode_63 : decode b_Lk_decode 63 = .ok (.iload_n 1, 1) := by decide +kernel
theorem d_Lk_decode_64 : decode b_Lk_decode 64 = .ok (.aload_n 0, 1) := by decide +kernel
theorem d_Lk_decode_65 : decode b_Lk_decode 65 = .ok (.getfield 49, 3) := by decide +kernel
theorem d_Lk_decode_68 : decode b_Lk_decode 68 = .ok (.invokevirtual 55, 3) := by decide +kernel
theorem d_Lk_decode_71 : decode b_Lk_decode 71 = .ok (.goto 10, 3) := by decide +kernel
theorem d_Lk_decode_74 : decode b_Lk_decode 74 = .ok (.aload_n 0, 1) := by decide +kernel
theorem d_Lk_decode_75 : decode b_Lk_decode 75 = .ok (.iload_n 1, 1) := by decide +kernel
theorem d_Lk_decode_76 : decode b_Lk_decode 76 = .ok (.iload 4, 2) := by decide +kernel
theorem d_Lk_decode_78 : decode b_Lk_decode 78 = .ok (.invokevirtual 59, 3) := by decide +kernel
theorem d_Lk_decode_81 : decode b_Lk_decode 81 = .ok (.istore 5, 2) := by decide +kernel
theorem d_Lk_decode_83 : decode b_Lk_decode 83 = .ok (.iload 5, 2) := by decide +kernel
theorem d_Lk_decode_85 : decode b_Lk_decode 85 = .ok (.iconst (-1), 1) := by decide +kernel
theorem d_Lk_decode_86 : decode b_Lk_decode 86 = .ok (.if_icmp .ne 5, 3) := by decide +kernel
theorem d_Lk_decode_89 : decode b_Lk_decode 89 = .ok (.iconst 0, 1) := by decide +kernel
theorem d_Lk_decode_90 : decode b_Lk_decode 90 = .ok (.ireturn, 1) := by decide +kernel
theorem d_Lk_decode_91 : decode b_Lk_decode 91 = .ok (.aload_n 0, 1) := by decide +kernel
theorem d_Lk_decode_92 : decode b_Lk_decode 92 = .ok (.dup, 1) := by decide +kernel
theorem d_Lk_decode_93 : decode b_Lk_decode 93 = .ok (.getfield 49, 3) := by decide +kernel
theorem d_Lk_decode_96 : decode b_Lk_decode 96 = .ok (.iload 4, 2) := by decide +kernel
theorem d_Lk_decode_98 : decode b_Lk_decode 98 = .ok (.iconst (-1), 1) := by decide +kernel
theorem d_Lk_decode_99 : decode b_Lk_decode 99 = .ok (.if_icmp .ne 7, 3) := by decide +kernel
theorem d_Lk_decode_102 : decode b_Lk_decode 102 = .ok (.iconst 1, 1) := by decide +kernel
theorem d_Lk_decode_103 : decode b_Lk_decode 103 = .ok (.goto 4, 3) := by decide +kernel
theorem d_Lk_decode_106 : decode b_Lk_decode 106 = .ok (.iconst 3, 1) := by decide +kernel
theorem d_Lk_decode_107 : decode b_Lk_decode 107 = .ok (.iadd, 1) := by decide +kernel
theorem d_Lk_decode_108 : decode b_Lk_decode 108 = .ok (.putfield 49, 3) := by decide +kernel
theorem d_Lk_decode_111 : decode b_Lk_decode 111 = .ok (.aload_n 0, 1) := by decide +kernel
theorem d_Lk_decode_112 : decode b_Lk_decode 112 = .ok (.getfield 9, 3) := by decide +kernel
theorem d_Lk_decode_115 : decode b_Lk_decode 115 = .ok (.aload_n 0, 1) := by decide +kernel
theorem d_Lk_decode_116 : decode b_Lk_decode 116 = .ok (.getfield 27, 3) := by decide +kernel
theorem d_Lk_decode_119 : decode b_Lk_decode 119 = .ok (.iload 5, 2) := by decide +kernel
theorem d_Lk_decode_121 : decode b_Lk_decode 121 = .ok (.iastore, 1) := by decide +kernel
theorem d_Lk_decode_122 : decode b_Lk_decode 122 = .ok (.aload_n 0, 1) := by decide +kernel
theorem d_Lk_decode_123 : decode b_Lk_decode 123 = .ok (.dup, 1) := by decide +kernel
theorem d_Lk_decode_124 : decode b_Lk_decode 124 = .ok (.getfield 27, 3) := by decide +kernel
theorem d_Lk_decode_127 : decode b_Lk_decode 127 = .ok (.iconst 1, 1) := by decide +kernel
theorem d_Lk_decode_128 : decode b_Lk_decode 128 = .ok (.iadd, 1) := by decide +kernel
theorem d_Lk_decode_129 : decode b_Lk_decode 129 = .ok (.putfield 27, 3) := by decide +kernel
theorem d_Lk_decode_132 : decode b_Lk_decode 132 = .ok (.iinc 3 1, 3) := by decide +kernel
theorem d_Lk_decode_135 : decode b_Lk_decode 135 = .ok (.goto (-114), 3) := by decide +kernel
theorem d_Lk_decode_138 : decode b_Lk_decode 138 = .ok (.iconst 1, 1) := by decide +kernel
theorem d_Lk_decode_139 : decode b_Lk_decode 139 = .ok (.ireturn, 1) := by decide +kernel
theorem d_Lk_placeNumber_0 : decode b_Lk_placeNumber 0 = .ok (.iload_n 2, 1) := by decide +kernel
theorem d_Lk_placeNumber_1 : decode b_Lk_placeNumber 1 = .ok (.iload_n 1, 1) := by decide +kernel
theorem d_Lk_placeNumber_2 : decode b_Lk_placeNumber 2 = .ok (.isub, 1) := by decide +kernel
theorem d_Lk_placeNumber_3 : decode b_Lk_placeNumber 3 = .ok (.istore_n 3, 1) := by decide +kernel
theorem d_Lk_placeNumber_4 : decode b_Lk_placeNumber 4 = .ok (.iload_n 3, 1) := by decide +kernel
theorem d_Lk_placeNumber_5 : decode b_Lk_placeNumber 5 = .ok (.iconst 1, 1) := by decide +kernel
theorem d_Lk_placeNumber_6 : decode b_Lk_placeNumber 6 = .ok (.if_icmp .lt 24, 3) := by decide +kernel
theorem d_Lk_placeNumber_9 : decode b_Lk_placeNumber 9 = .ok (.iload_n 3, 1) := by decide +kernel
theorem d_Lk_placeNumber_10 : decode b_Lk_placeNumber 10 = .ok (.iconst 2, 1) := by decide +kernel
theorem d_Lk_placeNumber_11 : decode b_Lk_placeNumber 11 = .ok (.if_icmp .gt 19, 3) := by decide +kernel
theorem d_Lk_placeNumber_14 : decode b_Lk_placeNumber 14 = .ok (.iload_n 3, 1) := by decide +kernel
theorem d_Lk_placeNumber_15 : decode b_Lk_placeNumber 15 = .ok (.iconst 2, 1) := by decide +kernel
theorem d_Lk_placeNumber_16 : decode b_Lk_placeNumber 16 = .ok (.if_icmp .ne 16, 3) := by decide +kernel
theorem d_Lk_placeNumber_19 : decode b_Lk_placeNumber 19 = .ok (.aload_n 0, 1) := by decide +kernel
theorem d_Lk_placeNumber_20 : decode b_Lk_placeNumber 20 = .ok (.getfield 9, 3) := by decide +kernel
theorem d_Lk_placeNumber_23 : decode b_Lk_placeNumber 23 = .ok (.iload_n 1, 1) := by decide +kernel
theorem d_Lk_placeNumber_24 : decode b_Lk_placeNumber 24 = .ok (.iaload, 1) := by decide +kernel
theorem d_Lk_placeNumber_25 : decode b_Lk_placeNumber 25 = .ok (.bipush 48, 2) := by decide +kernel
theorem d_Lk_placeNumber_27 : decode b_Lk_placeNumber 27 = .ok (.if_icmp .ne 5, 3) := by decide +kernel
theorem d_Lk_placeNumber_30 : decode b_Lk_placeNumber 30 = .ok (.iconst (-1), 1) := by decide +kernel
theorem d_Lk_placeNumber_31 : decode b_Lk_placeNumber 31 = .ok (.ireturn, 1) := by decide +kernel
theorem d_Lk_placeNumber_32 : decode b_Lk_placeNumber 32 = .ok (.iconst 0, 1) := by decide +kernel
theorem d_Lk_placeNumber_33 : decode b_Lk_placeNumber 33 = .ok (.istore 4, 2) := by decide +kernel
theorem d_Lk_placeNumber_35 : decode b_Lk_placeNumber 35 = .ok (.iload_n 1, 1) := by decide +kernel
theorem d_Lk_placeNumber_36 : decode b_Lk_placeNumber 36 = .ok (.istore 5, 2) := by decide +kernel
theorem d_Lk_placeNumber_38 : decode b_Lk_placeNumber 38 = .ok (.iload 5, 2) := by decide +kernel
theorem d_Lk_placeNumber_40 : decode b_Lk_placeNumber 40 = .ok (.iload_n 2, 1) := by decide +kernel
theorem d_Lk_placeNumber_41 : decode b_Lk_placeNumber 41 = .ok (.if_icmp .ge 42, 3) := by decide +kernel
theorem d_Lk_placeNumber_44 : decode b_Lk_placeNumber 44 = .ok (.aload_n 0, 1) := by decide +kernel
theorem d_Lk_placeNumber_45 : decode b_Lk_placeNumber 45 = .ok (.getfield 9, 3) := by decide +kernel
theorem d_Lk_placeNumber_48 : decode b_Lk_placeNumber 48 = .ok (.iload 5, 2) := by decide +kernel
theorem d_Lk_placeNumber_50 : decode b_Lk_placeNumber 50 = .ok (.iaload, 1) := by decide +kernel
theorem d_Lk_placeNumber_51 : decode b_Lk_placeNumber 51 = .ok (.invokestatic 117, 3) := by decide +kernel
theorem d_Lk_placeNumber_54 : decode b_Lk_placeNumber 54 = .ok (.ifCond .ne 5, 3) := by decide +kernel
theorem d_Lk_placeNumber_57 : decode b_Lk_placeNumber 57 = .ok (.iconst (-1), 1) := by decide +kernel
theorem d_Lk_placeNumber_58 : decode b_Lk_placeNumber 58 = .ok (.ireturn, 1) := by decide +kernel
theorem d_Lk_placeNumber_59 : decode b_Lk_placeNumber 59 = .ok (.iload 4, 2) := by decide +kernel
theorem d_Lk_placeNumber_61 : decode b_Lk_placeNumber 61 = .ok (.bipush 10, 2) := by decide +kernel
theorem d_Lk_placeNumber_63 : decode b_Lk_placeNumber 63 = .ok (.imul, 1) := by decide +kernel
theorem d_Lk_placeNumber_64 : decode b_Lk_placeNumber 64 = .ok (.aload_n 0, 1) := by decide +kernel
theorem d_Lk_placeNumber_65 : decode b_Lk_placeNumber 65 = .ok (.getfield 9, 3) := by decide +kernel
theorem d_Lk_placeNumber_68 : decode b_Lk_placeNumber 68 = .ok (.iload 5, 2) := by decide +kernel
theorem d_Lk_placeNumber_70 : decode b_Lk_placeNumber 70 = .ok (.iaload, 1) := by decide +kernel
theorem d_Lk_placeNumber_71 : decode b_Lk_placeNumber 71 = .ok (.iadd, 1) := by decide +kernel
theorem d_Lk_placeNumber_72 : decode b_Lk_placeNumber 72 = .ok (.bipush 48, 2) := by decide +kernel
theorem d_Lk_placeNumber_74 : decode b_Lk_placeNumber 74 = .ok (.isub, 1) := by decide +kernel
theorem d_Lk_placeNumber_75 : decode b_Lk_placeNumber 75 = .ok (.istore 4, 2) := by decide +kernel
theorem d_Lk_placeNumber_77 : decode b_Lk_placeNumber 77 = .ok (.iinc 5 1, 3) := by decide +kernel
theorem d_Lk_placeNumber_80 : decode b_Lk_placeNumber 80 = .ok (.goto (-42), 3) := by decide +kernel
theorem d_Lk_placeNumber_83 : decode b_Lk_placeNumber 83 = .ok (.iload 4, 2) := by decide +kernel
theorem d_Lk_placeNumber_85 : decode b_Lk_placeNumber 85 = .ok (.ireturn, 1) := by decide +kernel
theorem d_Tx_element_0 : decode b_Tx_element 0 = .ok (.aload_n 0, 1) := by decide +kernel
theorem d_Tx_element_1 : decode b_Tx_element 1 = .ok (.iload_n 1, 1) := by decide +kernel
theorem d_Tx_element_2 : decode b_Tx_element 2 = .ok (.invokevirtual 53, 3) := by decide +kernel
theorem d_Tx_element_5 : decode b_Tx_element 5 = .ok (.istore_n 3, 1) := by decide +kernel
theorem d_Tx_element_6 : decode b_Tx_element 6 = .ok (.iconst 0, 1) := by decide +kernel
theorem d_Tx_element_7 : decode b_Tx_element 7 = .ok (.istore 4, 2) := by decide +kernel
theorem d_Tx_element_9 : decode b_Tx_element 9 = .ok (.iload 4, 2) := by decide +kernel
theorem d_Tx_element_11 : decode b_Tx_element 11 = .ok (.iload_n 2, 1) := by decide +kernel
theorem d_Tx_element_12 : decode b_Tx_element 12 = .ok (.if_icmp .ge 20, 3) := by decide +kernel
theorem d_Tx_element_15 : decode b_Tx_element 15 = .ok (.iload_n 3, 1) := by decide +kernel
theorem d_Tx_element_16 : decode b_Tx_element 16 = .ok (.iconst (-1), 1) := by decide +kernel
theorem d_Tx_element_17 : decode b_Tx_element 17 = .ok (.if_icmp .eq 15, 3) := by decide +kernel
theorem d_Tx_element_20 : decode b_Tx_element 20 = .ok (.aload_n 0, 1) := by decide +kernel
theorem d_Tx_element_21 : decode b_Tx_element 21 = .ok (.iload_n 3, 1) := by decide +kernel
theorem d_Tx_element_22 : decode b_Tx_element 22 = .ok (.invokevirtual 57, 3) := by decide +kernel
theorem d_Tx_element_25 : decode b_Tx_element 25 = .ok (.istore_n 3, 1) := by decide +kernel
theorem d_Tx_element_26 : decode b_Tx_element 26 = .ok (.iinc 4 1, 3) := by decide +kernel
theorem d_Tx_element_29 : decode b_Tx_element 29 = .ok (.goto (-20), 3) := by decide +kernel
theorem d_Tx_element_32 : decode b_Tx_element 32 = .ok (.iload_n 3, 1) := by decide +kernel
theorem d_Tx_element_33 : decode b_Tx_element 33 = .ok (.ireturn, 1) := by decide +kernel
theorem d_Lk_isNamed_0 : decode b_Lk_isNamed 0 = .ok (.iconst 0, 1) := by decide +kernel
theorem d_Lk_isNamed_1 : decode b_Lk_isNamed 1 = .ok (.istore 4, 2) := by decide +kernel
theorem d_Lk_isNamed_3 : decode b_Lk_isNamed 3 = .ok (.iload_n 2, 1) := by decide +kernel
theorem d_Lk_isNamed_4 : decode b_Lk_isNamed 4 = .ok (.istore 5, 2) := by decide +kernel
theorem d_Lk_isNamed_6 : decode b_Lk_isNamed 6 = .ok (.iload 5, 2) := by decide +kernel
theorem d_Lk_isNamed_8 : decode b_Lk_isNamed 8 = .ok (.iload_n 3, 1) := by decide +kernel
theorem d_Lk_isNamed_9 : decode b_Lk_isNamed 9 = .ok (.if_icmp .ge 112, 3) := by decide +kernel
theorem d_Lk_isNamed_12 : decode b_Lk_isNamed 12 = .ok (.aload_n 0, 1) := by decide +kernel
theorem d_Lk_isNamed_13 : decode b_Lk_isNamed 13 = .ok (.getfield 9, 3) := by decide +kernel
theorem d_Lk_isNamed_16 : decode b_Lk_isNamed 16 = .ok (.iload 5, 2) := by decide +kernel
theorem d_Lk_isNamed_18 : decode b_Lk_isNamed 18 = .ok (.iaload, 1) := by decide +kernel
theorem d_Lk_isNamed_19 : decode b_Lk_isNamed 19 = .ok (.istore 6, 2) := by decide +kernel
theorem d_Lk_isNamed_21 : decode b_Lk_isNamed 21 = .ok (.iload 6, 2) := by decide +kernel
theorem d_Lk_isNamed_23 : decode b_Lk_isNamed 23 = .ok (.bipush 126, 2) := by decide +kernel
theorem d_Lk_isNamed_25 : decode b_Lk_isNamed 25 = .ok (.if_icmp .ne 57, 3) := by decide +kernel
theorem d_Lk_isNamed_28 : decode b_Lk_isNamed 28 = .ok (.iinc 5 1, 3) := by decide +kernel
theorem d_Lk_isNamed_31 : decode b_Lk_isNamed 31 = .ok (.iload 5, 2) := by decide +kernel
theorem d_Lk_isNamed_33 : decode b_Lk_isNamed 33 = .ok (.iload_n 3, 1) := by decide +kernel
theorem d_Lk_isNamed_34 : decode b_Lk_isNamed 34 = .ok (.if_icmp .ge 13, 3) := by decide +kernel
theorem d_Lk_isNamed_37 : decode b_Lk_isNamed 37 = .ok (.aload_n 0, 1) := by decide +kernel
theorem d_Lk_isNamed_38 : decode b_Lk_isNamed 38 = .ok (.getfield 9, 3) := by decide +kernel
theorem d_Lk_isNamed_41 : decode b_Lk_isNamed 41 = .ok (.iload 5, 2) := by decide +kernel
theorem d_Lk_isNamed_43 : decode b_Lk_isNamed 43 = .ok (.iaload, 1) := by decide +kernel
theorem d_Lk_isNamed_44 : decode b_Lk_isNamed 44 = .ok (.goto 4, 3) := by decide +kernel
theorem d_Lk_isNamed_47 : decode b_Lk_isNamed 47 = .ok (.iconst (-1), 1) := by decide +kernel
theorem d_Lk_isNamed_48 : decode b_Lk_isNamed 48 = .ok (.istore 7, 2) := by decide +kernel
theorem d_Lk_isNamed_50 : decode b_Lk_isNamed 50 = .ok (.iload 7, 2) := by decide +kernel
theorem d_Lk_isNamed_52 : decode b_Lk_isNamed 52 = .ok (.bipush 48, 2) := by decide +kernel
theorem d_Lk_isNamed_54 : decode b_Lk_isNamed 54 = .ok (.if_icmp .eq 12, 3) := by decide +kernel
theorem d_Lk_isNamed_57 : decode b_Lk_isNamed 57 = .ok (.iload 7, 2) := by decide +kernel
theorem d_Lk_isNamed_59 : decode b_Lk_isNamed 59 = .ok (.bipush 49, 2) := by decide +kernel
theorem d_Lk_isNamed_61 : decode b_Lk_isNamed 61 = .ok (.if_icmp .eq 5, 3) := by decide +kernel
theorem d_Lk_isNamed_64 : decode b_Lk_isNamed 64 = .ok (.iconst 0, 1) := by decide +kernel
theorem d_Lk_isNamed_65 : decode b_Lk_isNamed 65 = .ok (.ireturn, 1) := by decide +kernel
theorem d_Lk_isNamed_66 : decode b_Lk_isNamed 66 = .ok (.iload 7, 2) := by decide +kernel
theorem d_Lk_isNamed_68 : decode b_Lk_isNamed 68 = .ok (.bipush 48, 2) := by decide +kernel
theorem d_Lk_isNamed_70 : decode b_Lk_isNamed 70 = .ok (.if_icmp .ne 8, 3) := by decide +kernel
theorem d_Lk_isNamed_73 : decode b_Lk_isNamed 73 = .ok (.bipush 126, 2) := by decide +kernel
theorem d_Lk_isNamed_75 : decode b_Lk_isNamed 75 = .ok (.goto 5, 3) := by decide +kernel
theorem d_Lk_isNamed_78 : decode b_Lk_isNamed 78 = .ok (.bipush 47, 2) := by decide +kernel
theorem d_Lk_isNamed_80 : decode b_Lk_isNamed 80 = .ok (.istore 6, 2) := by decide +kernel
theorem d_Lk_isNamed_82 : decode b_Lk_isNamed 82 = .ok (.iload 4, 2) := by decide +kernel
theorem d_Lk_isNamed_84 : decode b_Lk_isNamed 84 = .ok (.aload_n 0, 1) := by decide +kernel
theorem d_Lk_isNamed_85 : decode b_Lk_isNamed 85 = .ok (.getfield 15, 3) := by decide +kernel
theorem d_Lk_isNamed_88 : decode b_Lk_isNamed 88 = .ok (.iload_n 1, 1) := by decide +kernel
theorem d_Lk_isNamed_89 : decode b_Lk_isNamed 89 = .ok (.invokevirtual 43, 3) := by decide +kernel
theorem d_Lk_isNamed_92 : decode b_Lk_isNamed 92 = .ok (.if_icmp .ge 18, 3) := by decide +kernel
theorem d_Lk_isNamed_95 : decode b_Lk_isNamed 95 = .ok (.aload_n 0, 1) := by decide +kernel
theorem d_Lk_isNamed_96 : decode b_Lk_isNamed 96 = .ok (.getfield 15, 3) := by decide +kernel
theorem d_Lk_isNamed_99 : decode b_Lk_isNamed 99 = .ok (.iload_n 1, 1) := by decide +kernel
theorem d_Lk_isNamed_100 : decode b_Lk_isNamed 100 = .ok (.iload 4, 2) := by decide +kernel
theorem d_Lk_isNamed_102 : decode b_Lk_isNamed 102 = .ok (.invokevirtual 55, 3) := by decide +kernel
theorem d_Lk_isNamed_105 : decode b_Lk_isNamed 105 = .ok (.iload 6, 2) := by decide +kernel
theorem d_Lk_isNamed_107 : decode b_Lk_isNamed 107 = .ok (.if_icmp .eq 5, 3) := by decide +kernel
theorem d_Lk_isNamed_110 : decode b_Lk_isNamed 110 = .ok (.iconst 0, 1) := by decide +kernel
theorem d_Lk_isNamed_111 : decode b_Lk_isNamed 111 = .ok (.ireturn, 1) := by decide +kernel
theorem d_Lk_isNamed_112 : decode b_Lk_isNamed 112 = .ok (.iinc 4 1, 3) := by decide +kernel
theorem d_Lk_isNamed_115 : decode b_Lk_isNamed 115 = .ok (.iinc 5 1, 3) := by decide +kernel
theorem d_Lk_isNamed_118 : decode b_Lk_isNamed 118 = .ok (.goto (-112), 3) := by decide +kernel
theorem d_Lk_isNamed_121 : decode b_Lk_isNamed 121 = .ok (.iload 4, 2) := by decide +kernel
theorem d_Lk_isNamed_123 : decode b_Lk_isNamed 123 = .ok (.aload_n 0, 1) := by decide +kernel
theorem d_Lk_isNamed_124 : decode b_Lk_isNamed 124 = .ok (.getfield 15, 3) := by decide +kernel
theorem d_Lk_isNamed_127 : decode b_Lk_isNamed 127 = .ok (.iload_n 1, 1) := by decide +kernel
theorem d_Lk_isNamed_128 : decode b_Lk_isNamed 128 = .ok (.invokevirtual 43, 3) := by decide +kernel
theorem d_Lk_isNamed_131 : decode b_Lk_isNamed 131 = .ok (.if_icmp .ne 7, 3) := by decide +kernel
theorem d_Lk_isNamed_134 : decode b_Lk_isNamed 134 = .ok (.iconst 1, 1) := by decide +kernel
theorem d_Lk_isNamed_135 : decode b_Lk_isNamed 135 = .ok (.goto 4, 3) := by decide +kernel
theorem d_Lk_isNamed_138 : decode b_Lk_isNamed 138 = .ok (.iconst 0, 1) := by decide +kernel
theorem d_Lk_isNamed_139 : decode b_Lk_isNamed 139 = .ok (.ireturn, 1) := by decide +kernel
