theorem d_Rd_hasRoom_0 : decode b_Rd_hasRoom 0 = .ok (.aload_n 0, 1) := by decide +kernel
theorem d_Rd_hasRoom_1 : decode b_Rd_hasRoom 1 = .ok (.getfield 19, 3) := by decide +kernel
theorem d_Rd_hasRoom_4 : decode b_Rd_hasRoom 4 = .ok (.iconst 5, 1) := by decide +kernel
theorem d_Rd_hasRoom_5 : decode b_Rd_hasRoom 5 = .ok (.iadd, 1) := by decide +kernel
theorem d_Rd_hasRoom_6 : decode b_Rd_hasRoom 6 = .ok (.sipush 2050, 3) := by decide +kernel
theorem d_Rd_hasRoom_9 : decode b_Rd_hasRoom 9 = .ok (.if_icmp .gt 7, 3) := by decide +kernel
theorem d_Rd_hasRoom_12 : decode b_Rd_hasRoom 12 = .ok (.iconst 1, 1) := by decide +kernel
theorem d_Rd_hasRoom_13 : decode b_Rd_hasRoom 13 = .ok (.goto 4, 3) := by decide +kernel
theorem d_Rd_hasRoom_16 : decode b_Rd_hasRoom 16 = .ok (.iconst 0, 1) := by decide +kernel
theorem d_Rd_hasRoom_17 : decode b_Rd_hasRoom 17 = .ok (.ireturn, 1) := by decide +kernel
theorem d_Rd_addWord_0 : decode b_Rd_addWord 0 = .ok (.aload_n 0, 1) := by decide +kernel
theorem d_Rd_addWord_1 : decode b_Rd_addWord 1 = .ok (.getfield 19, 3) := by decide +kernel
theorem d_Rd_addWord_4 : decode b_Rd_addWord 4 = .ok (.aload_n 0, 1) := by decide +kernel
theorem d_Rd_addWord_5 : decode b_Rd_addWord 5 = .ok (.getfield 9, 3) := by decide +kernel
theorem d_Rd_addWord_8 : decode b_Rd_addWord 8 = .ok (.arraylength, 1) := by decide +kernel
theorem d_Rd_addWord_9 : decode b_Rd_addWord 9 = .ok (.if_icmp .ge 23, 3) := by decide +kernel
theorem d_Rd_addWord_12 : decode b_Rd_addWord 12 = .ok (.aload_n 0, 1) := by decide +kernel
theorem d_Rd_addWord_13 : decode b_Rd_addWord 13 = .ok (.getfield 9, 3) := by decide +kernel
theorem d_Rd_addWord_16 : decode b_Rd_addWord 16 = .ok (.aload_n 0, 1) := by decide +kernel
theorem d_Rd_addWord_17 : decode b_Rd_addWord 17 = .ok (.getfield 19, 3) := by decide +kernel
theorem d_Rd_addWord_20 : decode b_Rd_addWord 20 = .ok (.iload_n 1, 1) := by decide +kernel
theorem d_Rd_addWord_21 : decode b_Rd_addWord 21 = .ok (.iastore, 1) := by decide +kernel
theorem d_Rd_addWord_22 : decode b_Rd_addWord 22 = .ok (.aload_n 0, 1) := by decide +kernel
theorem d_Rd_addWord_23 : decode b_Rd_addWord 23 = .ok (.dup, 1) := by decide +kernel
theorem d_Rd_addWord_24 : decode b_Rd_addWord 24 = .ok (.getfield 19, 3) := by decide +kernel
theorem d_Rd_addWord_27 : decode b_Rd_addWord 27 = .ok (.iconst 1, 1) := by decide +kernel
theorem d_Rd_addWord_28 : decode b_Rd_addWord 28 = .ok (.iadd, 1) := by decide +kernel
theorem d_Rd_addWord_29 : decode b_Rd_addWord 29 = .ok (.putfield 19, 3) := by decide +kernel
theorem d_Rd_addWord_32 : decode b_Rd_addWord 32 = .ok (.return_, 1) := by decide +kernel
theorem d_Rd_octets_0 : decode b_Rd_octets 0 = .ok (.aload_n 0, 1) := by decide +kernel
theorem d_Rd_octets_1 : decode b_Rd_octets 1 = .ok (.getfield 19, 3) := by decide +kernel
theorem d_Rd_octets_4 : decode b_Rd_octets 4 = .ok (.iconst 4, 1) := by decide +kernel
theorem d_Rd_octets_5 : decode b_Rd_octets 5 = .ok (.imul, 1) := by decide +kernel
theorem d_Rd_octets_6 : decode b_Rd_octets 6 = .ok (.ireturn, 1) := by decide +kernel
theorem d_Ck_forget_0 : decode b_Ck_forget 0 = .ok (.aload_n 0, 1) := by decide +kernel
theorem d_Ck_forget_1 : decode b_Ck_forget 1 = .ok (.iconst (-1), 1) := by decide +kernel
theorem d_Ck_forget_2 : decode b_Ck_forget 2 = .ok (.putfield 43, 3) := by decide +kernel
theorem d_Ck_forget_5 : decode b_Ck_forget 5 = .ok (.aload_n 0, 1) := by decide +kernel
theorem d_Ck_forget_6 : decode b_Ck_forget 6 = .ok (.iconst (-1), 1) := by decide +kernel
theorem d_Ck_forget_7 : decode b_Ck_forget 7 = .ok (.putfield 47, 3) := by decide +kernel
theorem d_Ck_forget_10 : decode b_Ck_forget 10 = .ok (.return_, 1) := by decide +kernel
theorem d_Rd_peek_0 : decode b_Rd_peek 0 = .ok (.aload_n 0, 1) := by decide +kernel
theorem d_Rd_peek_1 : decode b_Rd_peek 1 = .ok (.getfield 28, 3) := by decide +kernel
theorem d_Rd_peek_4 : decode b_Rd_peek 4 = .ok (.iconst 2, 1) := by decide +kernel
theorem d_Rd_peek_5 : decode b_Rd_peek 5 = .ok (.ishr, 1) := by decide +kernel
theorem d_Rd_peek_6 : decode b_Rd_peek 6 = .ok (.istore_n 1, 1) := by decide +kernel
theorem d_Rd_peek_7 : decode b_Rd_peek 7 = .ok (.aload_n 0, 1) := by decide +kernel
theorem d_Rd_peek_8 : decode b_Rd_peek 8 = .ok (.getfield 28, 3) := by decide +kernel
theorem d_Rd_peek_11 : decode b_Rd_peek 11 = .ok (.ifCond .lt 23, 3) := by decide +kernel
theorem d_Rd_peek_14 : decode b_Rd_peek 14 = .ok (.aload_n 0, 1) := by decide +kernel
theorem d_Rd_peek_15 : decode b_Rd_peek 15 = .ok (.getfield 28, 3) := by decide +kernel
theorem d_Rd_peek_18 : decode b_Rd_peek 18 = .ok (.aload_n 0, 1) := by decide +kernel
theorem d_Rd_peek_19 : decode b_Rd_peek 19 = .ok (.getfield 31, 3) := by decide +kernel
theorem d_Rd_peek_22 : decode b_Rd_peek 22 = .ok (.if_icmp .ge 12, 3) := by decide +kernel
theorem d_Rd_peek_25 : decode b_Rd_peek 25 = .ok (.iload_n 1, 1) := by decide +kernel
theorem d_Rd_peek_26 : decode b_Rd_peek 26 = .ok (.aload_n 0, 1) := by decide +kernel
theorem d_Rd_peek_27 : decode b_Rd_peek 27 = .ok (.getfield 9, 3) := by decide +kernel
theorem d_Rd_peek_30 : decode b_Rd_peek 30 = .ok (.arraylength, 1) := by decide +kernel
theorem d_Rd_peek_31 : decode b_Rd_peek 31 = .ok (.if_icmp .lt 5, 3) := by decide +kernel
theorem d_Rd_peek_34 : decode b_Rd_peek 34 = .ok (.iconst (-1), 1) := by decide +kernel
theorem d_Rd_peek_35 : decode b_Rd_peek 35 = .ok (.ireturn, 1) := by decide +kernel
theorem d_Rd_peek_36 : decode b_Rd_peek 36 = .ok (.aload_n 0, 1) := by decide +kernel
theorem d_Rd_peek_37 : decode b_Rd_peek 37 = .ok (.getfield 9, 3) := by decide +kernel
theorem d_Rd_peek_40 : decode b_Rd_peek 40 = .ok (.iload_n 1, 1) := by decide +kernel
theorem d_Rd_peek_41 : decode b_Rd_peek 41 = .ok (.iaload, 1) := by decide +kernel
theorem d_Rd_peek_42 : decode b_Rd_peek 42 = .ok (.bipush 24, 2) := by decide +kernel
theorem d_Rd_peek_44 : decode b_Rd_peek 44 = .ok (.bipush 8, 2) := by decide +kernel
theorem d_Rd_peek_46 : decode b_Rd_peek 46 = .ok (.aload_n 0, 1) := by decide +kernel
theorem d_Rd_peek_47 : decode b_Rd_peek 47 = .ok (.getfield 28, 3) := by decide +kernel
theorem d_Rd_peek_50 : decode b_Rd_peek 50 = .ok (.iconst 3, 1) := by decide +kernel
theorem d_Rd_peek_51 : decode b_Rd_peek 51 = .ok (.iand, 1) := by decide +kernel
theorem d_Rd_peek_52 : decode b_Rd_peek 52 = .ok (.imul, 1) := by decide +kernel
theorem d_Rd_peek_53 : decode b_Rd_peek 53 = .ok (.isub, 1) := by decide +kernel
theorem d_Rd_peek_54 : decode b_Rd_peek 54 = .ok (.iushr, 1) := by decide +kernel
theorem d_Rd_peek_55 : decode b_Rd_peek 55 = .ok (.sipush 255, 3) := by decide +kernel
theorem d_Rd_peek_58 : decode b_Rd_peek 58 = .ok (.iand, 1) := by decide +kernel
theorem d_Rd_peek_59 : decode b_Rd_peek 59 = .ok (.ireturn, 1) := by decide +kernel
theorem d_Rd_skipBlanks_0 : decode b_Rd_skipBlanks 0 = .ok (.iconst 0, 1) := by decide +kernel
theorem d_Rd_skipBlanks_1 : decode b_Rd_skipBlanks 1 = .ok (.istore_n 1, 1) := by decide +kernel
theorem d_Rd_skipBlanks_2 : decode b_Rd_skipBlanks 2 = .ok (.iload_n 1, 1) := by decide +kernel
theorem d_Rd_skipBlanks_3 : decode b_Rd_skipBlanks 3 = .ok (.sipush 8192, 3) := by decide +kernel
theorem d_Rd_skipBlanks_6 : decode b_Rd_skipBlanks 6 = .ok (.if_icmp .ge 49, 3) := by decide +kernel
theorem d_Rd_skipBlanks_9 : decode b_Rd_skipBlanks 9 = .ok (.aload_n 0, 1) := by decide +kernel
theorem d_Rd_skipBlanks_10 : decode b_Rd_skipBlanks 10 = .ok (.invokevirtual 48, 3) := by decide +kernel
theorem d_Rd_skipBlanks_13 : decode b_Rd_skipBlanks 13 = .ok (.istore_n 2, 1) := by decide +kernel
theorem d_Rd_skipBlanks_14 : decode b_Rd_skipBlanks 14 = .ok (.iload_n 2, 1) := by decide +kernel
theorem d_Rd_skipBlanks_15 : decode b_Rd_skipBlanks 15 = .ok (.bipush 9, 2) := by decide +kernel
theorem d_Rd_skipBlanks_17 : decode b_Rd_skipBlanks 17 = .ok (.if_icmp .eq 22, 3) := by decide +kernel
theorem d_Rd_skipBlanks_20 : decode b_Rd_skipBlanks 20 = .ok (.iload_n 2, 1) := by decide +kernel
theorem d_Rd_skipBlanks_21 : decode b_Rd_skipBlanks 21 = .ok (.bipush 10, 2) := by decide +kernel
theorem d_Rd_skipBlanks_23 : decode b_Rd_skipBlanks 23 = .ok (.if_icmp .eq 16, 3) := by decide +kernel
theorem d_Rd_skipBlanks_26 : decode b_Rd_skipBlanks 26 = .ok (.iload_n 2, 1) := by decide +kernel
theorem d_Rd_skipBlanks_27 : decode b_Rd_skipBlanks 27 = .ok (.bipush 13, 2) := by decide +kernel
theorem d_Rd_skipBlanks_29 : decode b_Rd_skipBlanks 29 = .ok (.if_icmp .eq 10, 3) := by decide +kernel
theorem d_Rd_skipBlanks_32 : decode b_Rd_skipBlanks 32 = .ok (.iload_n 2, 1) := by decide +kernel
theorem d_Rd_skipBlanks_33 : decode b_Rd_skipBlanks 33 = .ok (.bipush 32, 2) := by decide +kernel
theorem d_Rd_skipBlanks_35 : decode b_Rd_skipBlanks 35 = .ok (.if_icmp .eq 4, 3) := by decide +kernel
theorem d_Rd_skipBlanks_38 : decode b_Rd_skipBlanks 38 = .ok (.return_, 1) := by decide +kernel
theorem d_Rd_skipBlanks_39 : decode b_Rd_skipBlanks 39 = .ok (.aload_n 0, 1) := by decide +kernel
theorem d_Rd_skipBlanks_40 : decode b_Rd_skipBlanks 40 = .ok (.dup, 1) := by decide +kernel
theorem d_Rd_skipBlanks_41 : decode b_Rd_skipBlanks 41 = .ok (.getfield 28, 3) := by decide +kernel
theorem d_Rd_skipBlanks_44 : decode b_Rd_skipBlanks 44 = .ok (.iconst 1, 1) := by decide +kernel
theorem d_Rd_skipBlanks_45 : decode b_Rd_skipBlanks 45 = .ok (.iadd, 1) := by decide +kernel
theorem d_Rd_skipBlanks_46 : decode b_Rd_skipBlanks 46 = .ok (.putfield 28, 3) := by decide +kernel
theorem d_Rd_skipBlanks_49 : decode b_Rd_skipBlanks 49 = .ok (.iinc 1 1, 3) := by decide +kernel
theorem d_Rd_skipBlanks_52 : decode b_Rd_skipBlanks 52 = .ok (.goto (-50), 3) := by decide +kernel
theorem d_Rd_skipBlanks_55 : decode b_Rd_skipBlanks 55 = .ok (.return_, 1) := by decide +kernel
theorem d_SJ_isDigit_0 : decode b_SJ_isDigit 0 = .ok (.iload_n 0, 1) := by decide +kernel
theorem d_SJ_isDigit_1 : decode b_SJ_isDigit 1 = .ok (.bipush 48, 2) := by decide +kernel
theorem d_SJ_isDigit_3 : decode b_SJ_isDigit 3 = .ok (.if_icmp .lt 13, 3) := by decide +kernel
theorem d_SJ_isDigit_6 : decode b_SJ_isDigit 6 = .ok (.iload_n 0, 1) := by decide +kernel
theorem d_SJ_isDigit_7 : decode b_SJ_isDigit 7 = .ok (.bipush 57, 2) := by decide +kernel
theorem d_SJ_isDigit_9 : decode b_SJ_isDigit 9 = .ok (.if_icmp .gt 7, 3) := by decide +kernel
theorem d_SJ_isDigit_12 : decode b_SJ_isDigit 12 = .ok (.iconst 1, 1) := by decide +kernel
theorem d_SJ_isDigit_13 : decode b_SJ_isDigit 13 = .ok (.goto 4, 3) := by decide +kernel
theorem d_SJ_isDigit_16 : decode b_SJ_isDigit 16 = .ok (.iconst 0, 1) := by decide +kernel
theorem d_SJ_isDigit_17 : decode b_SJ_isDigit 17 = .ok (.ireturn, 1) := by decide +kernel
theorem d_Rd_kindThatBegins_0 : decode b_Rd_kindThatBegins 0 = .ok (.iload_n 0, 1) := by decide +kernel
theorem d_Rd_kindThatBegins_1 : decode b_Rd_kindThatBegins 1 = .ok (.lookupswitch 72 #[(34, 65), (91, 67), (102, 61), (110, 59), (116, 63), (123, 69)], 59) := by decide +kernel
theorem d_Rd_kindThatBegins_60 : decode b_Rd_kindThatBegins 60 = .ok (.iconst 0, 1) := by decide +kernel
theorem d_Rd_kindThatBegins_61 : decode b_Rd_kindThatBegins 61 = .ok (.ireturn, 1) := by decide +kernel
theorem d_Rd_kindThatBegins_62 : decode b_Rd_kindThatBegins 62 = .ok (.iconst 1, 1) := by decide +kernel
theorem d_Rd_kindThatBegins_63 : decode b_Rd_kindThatBegins 63 = .ok (.ireturn, 1) := by decide +kernel
theorem d_Rd_kindThatBegins_64 : decode b_Rd_kindThatBegins 64 = .ok (.iconst 2, 1) := by decide +kernel
theorem d_Rd_kindThatBegins_65 : decode b_Rd_kindThatBegins 65 = .ok (.ireturn, 1) := by decide +kernel
theorem d_Rd_kindThatBegins_66 : decode b_Rd_kindThatBegins 66 = .ok (.iconst 4, 1) := by decide +kernel
theorem d_Rd_kindThatBegins_67 : decode b_Rd_kindThatBegins 67 = .ok (.ireturn, 1) := by decide +kernel
theorem d_Rd_kindThatBegins_68 : decode b_Rd_kindThatBegins 68 = .ok (.iconst 5, 1) := by decide +kernel
theorem d_Rd_kindThatBegins_69 : decode b_Rd_kindThatBegins 69 = .ok (.ireturn, 1) := by decide +kernel
theorem d_Rd_kindThatBegins_70 : decode b_Rd_kindThatBegins 70 = .ok (.bipush 6, 2) := by decide +kernel
theorem d_Rd_kindThatBegins_72 : decode b_Rd_kindThatBegins 72 = .ok (.ireturn, 1) := by decide +kernel
theorem d_Rd_kindThatBegins_73 : decode b_Rd_kindThatBegins 73 = .ok (.iload_n 0, 1) := by decide +kernel
theorem d_Rd_kindThatBegins_74 : decode b_Rd_kindThatBegins 74 = .ok (.bipush 45, 2) := by decide +kernel
theorem d_Rd_kindThatBegins_76 : decode b_Rd_kindThatBegins 76 = .ok (.if_icmp .eq 10, 3) := by decide +kernel
theorem d_Rd_kindThatBegins_79 : decode b_Rd_kindThatBegins 79 = .ok (.iload_n 0, 1) := by decide +kernel
theorem d_Rd_kindThatBegins_80 : decode b_Rd_kindThatBegins 80 = .ok (.invokestatic 52, 3) := by decide +kernel
theorem d_Rd_kindThatBegins_83 : decode b_Rd_kindThatBegins 83 = .ok (.ifCond .eq 7, 3) := by decide +kernel
theorem d_Rd_kindThatBegins_86 : decode b_Rd_kindThatBegins 86 = .ok (.iconst 3, 1) := by decide +kernel
theorem d_Rd_kindThatBegins_87 : decode b_Rd_kindThatBegins 87 = .ok (.goto 4, 3) := by decide +kernel
theorem d_Rd_kindThatBegins_90 : decode b_Rd_kindThatBegins 90 = .ok (.iconst (-1), 1) := by decide +kernel
theorem d_Rd_kindThatBegins_91 : decode b_Rd_kindThatBegins 91 = .ok (.ireturn, 1) := by decide +kernel
theorem d_Rd_refuse_0 : decode b_Rd_refuse 0 = .ok (.aload_n 0, 1) := by decide +kernel
theorem d_Rd_refuse_1 : decode b_Rd_refuse 1 = .ok (.iload_n 1, 1) := by decide +kernel
theorem d_Rd_refuse_2 : decode b_Rd_refuse 2 = .ok (.putfield 34, 3) := by decide +kernel
theorem d_Rd_refuse_5 : decode b_Rd_refuse 5 = .ok (.iconst 0, 1) := by decide +kernel
theorem d_Rd_refuse_6 : decode b_Rd_refuse 6 = .ok (.ireturn, 1) := by decide +kernel
theorem d_Rd_readExponent_0 : decode b_Rd_readExponent 0 = .ok (.iconst 0, 1) := by decide +kernel
theorem d_Rd_readExponent_1 : decode b_Rd_readExponent 1 = .ok (.istore_n 1, 1) := by decide +kernel
theorem d_Rd_readExponent_2 : decode b_Rd_readExponent 2 = .ok (.iconst 0, 1) := by decide +kernel
theorem d_Rd_readExponent_3 : decode b_Rd_readExponent 3 = .ok (.istore_n 2, 1) := by decide +kernel
theorem d_Rd_readExponent_4 : decode b_Rd_readExponent 4 = .ok (.iload_n 2, 1) := by decide +kernel
theorem d_Rd_readExponent_5 : decode b_Rd_readExponent 5 = .ok (.sipush 8192, 3) := by decide +kernel
theorem d_Rd_readExponent_8 : decode b_Rd_readExponent 8 = .ok (.if_icmp .ge 48, 3) := by decide +kernel
theorem d_Rd_readExponent_11 : decode b_Rd_readExponent 11 = .ok (.aload_n 0, 1) := by decide +kernel
theorem d_Rd_readExponent_12 : decode b_Rd_readExponent 12 = .ok (.invokevirtual 48, 3) := by decide +kernel
theorem d_Rd_readExponent_15 : decode b_Rd_readExponent 15 = .ok (.istore_n 3, 1) := by decide +kernel
theorem d_Rd_readExponent_16 : decode b_Rd_readExponent 16 = .ok (.iload_n 3, 1) := by decide +kernel
theorem d_Rd_readExponent_17 : decode b_Rd_readExponent 17 = .ok (.invokestatic 52, 3) := by decide +kernel
theorem d_Rd_readExponent_20 : decode b_Rd_readExponent 20 = .ok (.ifCond .ne 5, 3) := by decide +kernel
theorem d_Rd_readExponent_23 : decode b_Rd_readExponent 23 = .ok (.iload_n 1, 1) := by decide +kernel
theorem d_Rd_readExponent_24 : decode b_Rd_readExponent 24 = .ok (.ireturn, 1) := by decide +kernel
theorem d_Rd_readExponent_25 : decode b_Rd_readExponent 25 = .ok (.iload_n 2, 1) := by decide +kernel
theorem d_Rd_readExponent_26 : decode b_Rd_readExponent 26 = .ok (.iconst 3, 1) := by decide +kernel
theorem d_Rd_readExponent_27 : decode b_Rd_readExponent 27 = .ok (.if_icmp .ge 13, 3) := by decide +kernel
theorem d_Rd_readExponent_30 : decode b_Rd_readExponent 30 = .ok (.iload_n 1, 1) := by decide +kernel
theorem d_Rd_readExponent_31 : decode b_Rd_readExponent 31 = .ok (.bipush 10, 2) := by decide +kernel
theorem d_Rd_readExponent_33 : decode b_Rd_readExponent 33 = .ok (.imul, 1) := by decide +kernel
theorem d_Rd_readExponent_34 : decode b_Rd_readExponent 34 = .ok (.iload_n 3, 1) := by decide +kernel
theorem d_Rd_readExponent_35 : decode b_Rd_readExponent 35 = .ok (.iadd, 1) := by decide +kernel
theorem d_Rd_readExponent_36 : decode b_Rd_readExponent 36 = .ok (.bipush 48, 2) := by decide +kernel
theorem d_Rd_readExponent_38 : decode b_Rd_readExponent 38 = .ok (.isub, 1) := by decide +kernel
theorem d_Rd_readExponent_39 : decode b_Rd_readExponent 39 = .ok (.istore_n 1, 1) := by decide +kernel
theorem d_Rd_readExponent_40 : decode b_Rd_readExponent 40 = .ok (.aload_n 0, 1) := by decide +kernel
theorem d_Rd_readExponent_41 : decode b_Rd_readExponent 41 = .ok (.dup, 1) := by decide +kernel
theorem d_Rd_readExponent_42 : decode b_Rd_readExponent 42 = .ok (.getfield 28, 3) := by decide +kernel
theorem d_Rd_readExponent_45 : decode b_Rd_readExponent 45 = .ok (.iconst 1, 1) := by decide +kernel
theorem d_Rd_readExponent_46 : decode b_Rd_readExponent 46 = .ok (.iadd, 1) := by decide +kernel
theorem d_Rd_readExponent_47 : decode b_Rd_readExponent 47 = .ok (.putfield 28, 3) := by decide +kernel
theorem d_Rd_readExponent_50 : decode b_Rd_readExponent 50 = .ok (.iinc 2 1, 3) := by decide +kernel
theorem d_Rd_readExponent_53 : decode b_Rd_readExponent 53 = .ok (.goto (-49), 3) := by decide +kernel
theorem d_Rd_readExponent_56 : decode b_Rd_readExponent 56 = .ok (.iload_n 1, 1) := by decide +kernel
theorem d_Rd_readExponent_57 : decode b_Rd_readExponent 57 = .ok (.ireturn, 1) := by decide +kernel
theorem d_Rd_readShortEscape_0 : decode b_Rd_readShortEscape 0 = .ok (.aload_n 0, 1) := by decide +kernel
theorem d_Rd_readShortEscape_1 : decode b_Rd_readShortEscape 1 = .ok (.getfield 28, 3) := by decide +kernel
theorem d_Rd_readShortEscape_4 : decode b_Rd_readShortEscape 4 = .ok (.istore_n 2, 1) := by decide +kernel
theorem d_Rd_readShortEscape_5 : decode b_Rd_readShortEscape 5 = .ok (.aload_n 0, 1) := by decide +kernel
theorem d_Rd_readShortEscape_6 : decode b_Rd_readShortEscape 6 = .ok (.dup, 1) := by decide +kernel
theorem d_Rd_readShortEscape_7 : decode b_Rd_readShortEscape 7 = .ok (.getfield 28, 3) := by decide +kernel
theorem d_Rd_readShortEscape_10 : decode b_Rd_readShortEscape 10 = .ok (.iconst 1, 1) := by decide +kernel
theorem d_Rd_readShortEscape_11 : decode b_Rd_readShortEscape 11 = .ok (.iadd, 1) := by decide +kernel
theorem d_Rd_readShortEscape_12 : decode b_Rd_readShortEscape 12 = .ok (.putfield 28, 3) := by decide +kernel
theorem d_Rd_readShortEscape_15 : decode b_Rd_readShortEscape 15 = .ok (.iload_n 1, 1) := by decide +kernel
theorem d_Rd_readShortEscape_16 : decode b_Rd_readShortEscape 16 = .ok (.lookupswitch 93 #[(34, 76), (47, 76), (92, 76), (98, 78), (102, 81), (110, 84), (114, 87), (116, 90)], 76) := by decide +kernel
theorem d_Rd_readShortEscape_92 : decode b_Rd_readShortEscape 92 = .ok (.iload_n 1, 1) := by decide +kernel
theorem d_Rd_readShortEscape_93 : decode b_Rd_readShortEscape 93 = .ok (.ireturn, 1) := by decide +kernel
theorem d_Rd_readShortEscape_94 : decode b_Rd_readShortEscape 94 = .ok (.bipush 8, 2) := by decide +kernel
theorem d_Rd_readShortEscape_96 : decode b_Rd_readShortEscape 96 = .ok (.ireturn, 1) := by decide +kernel
theorem d_Rd_readShortEscape_97 : decode b_Rd_readShortEscape 97 = .ok (.bipush 12, 2) := by decide +kernel
theorem d_Rd_readShortEscape_99 : decode b_Rd_readShortEscape 99 = .ok (.ireturn, 1) := by decide +kernel
theorem d_Rd_readShortEscape_100 : decode b_Rd_readShortEscape 100 = .ok (.bipush 10, 2) := by decide +kernel
theorem d_Rd_readShortEscape_102 : decode b_Rd_readShortEscape 102 = .ok (.ireturn, 1) := by decide +kernel
theorem d_Rd_readShortEscape_103 : decode b_Rd_readShortEscape 103 = .ok (.bipush 13, 2) := by decide +kernel
theorem d_Rd_readShortEscape_105 : decode b_Rd_readShortEscape 105 = .ok (.ireturn, 1) := by decide +kernel
theorem d_Rd_readShortEscape_106 : decode b_Rd_readShortEscape 106 = .ok (.bipush 9, 2) := by decide +kernel
theorem d_Rd_readShortEscape_108 : decode b_Rd_readShortEscape 108 = .ok (.ireturn, 1) := by decide +kernel
theorem d_Rd_readShortEscape_109 : decode b_Rd_readShortEscape 109 = .ok (.aload_n 0, 1) := by decide +kernel
theorem d_Rd_readShortEscape_110 : decode b_Rd_readShortEscape 110 = .ok (.iload_n 2, 1) := by decide +kernel
theorem d_Rd_readShortEscape_111 : decode b_Rd_readShortEscape 111 = .ok (.invokevirtual 44, 3) := by decide +kernel
theorem d_Rd_readShortEscape_114 : decode b_Rd_readShortEscape 114 = .ok (.pop, 1) := by decide +kernel
theorem d_Rd_readShortEscape_115 : decode b_Rd_readShortEscape 115 = .ok (.iconst (-1), 1) := by decide +kernel
theorem d_Rd_readShortEscape_116 : decode b_Rd_readShortEscape 116 = .ok (.ireturn, 1) := by decide +kernel
theorem d_SJ_hexDigit_0 : decode b_SJ_hexDigit 0 = .ok (.iload_n 0, 1) := by decide +kernel
theorem d_SJ_hexDigit_1 : decode b_SJ_hexDigit 1 = .ok (.bipush 48, 2) := by decide +kernel
theorem d_SJ_hexDigit_3 : decode b_SJ_hexDigit 3 = .ok (.if_icmp .lt 14, 3) := by decide +kernel
theorem d_SJ_hexDigit_6 : decode b_SJ_hexDigit 6 = .ok (.iload_n 0, 1) := by decide +kernel
theorem d_SJ_hexDigit_7 : decode b_SJ_hexDigit 7 = .ok (.bipush 57, 2) := by decide +kernel
theorem d_SJ_hexDigit_9 : decode b_SJ_hexDigit 9 = .ok (.if_icmp .gt 8, 3) := by decide +kernel
theorem d_SJ_hexDigit_12 : decode b_SJ_hexDigit 12 = .ok (.iload_n 0, 1) := by decide +kernel
theorem d_SJ_hexDigit_13 : decode b_SJ_hexDigit 13 = .ok (.bipush 48, 2) := by decide +kernel
theorem d_SJ_hexDigit_15 : decode b_SJ_hexDigit 15 = .ok (.isub, 1) := by decide +kernel
theorem d_SJ_hexDigit_16 : decode b_SJ_hexDigit 16 = .ok (.ireturn, 1) := by decide +kernel
theorem d_SJ_hexDigit_17 : decode b_SJ_hexDigit 17 = .ok (.iload_n 0, 1) := by decide +kernel
theorem d_SJ_hexDigit_18 : decode b_SJ_hexDigit 18 = .ok (.bipush 97, 2) := by decide +kernel
theorem d_SJ_hexDigit_20 : decode b_SJ_hexDigit 20 = .ok (.if_icmp .lt 17, 3) := by decide +kernel
theorem d_SJ_hexDigit_23 : decode b_SJ_hexDigit 23 = .ok (.iload_n 0, 1) := by decide +kernel
theorem d_SJ_hexDigit_24 : decode b_SJ_hexDigit 24 = .ok (.bipush 102, 2) := by decide +kernel
theorem d_SJ_hexDigit_26 : decode b_SJ_hexDigit 26 = .ok (.if_icmp .gt 11, 3) := by decide +kernel
theorem d_SJ_hexDigit_29 : decode b_SJ_hexDigit 29 = .ok (.iload_n 0, 1) := by decide +kernel
theorem d_SJ_hexDigit_30 : decode b_SJ_hexDigit 30 = .ok (.bipush 97, 2) := by decide +kernel
theorem d_SJ_hexDigit_32 : decode b_SJ_hexDigit 32 = .ok (.isub, 1) := by decide +kernel
theorem d_SJ_hexDigit_33 : decode b_SJ_hexDigit 33 = .ok (.bipush 10, 2) := by decide +kernel
theorem d_SJ_hexDigit_35 : decode b_SJ_hexDigit 35 = .ok (.iadd, 1) := by decide +kernel
theorem d_SJ_hexDigit_36 : decode b_SJ_hexDigit 36 = .ok (.ireturn, 1) := by decide +kernel
theorem d_SJ_hexDigit_37 : decode b_SJ_hexDigit 37 = .ok (.iload_n 0, 1) := by decide +kernel
theorem d_SJ_hexDigit_38 : decode b_SJ_hexDigit 38 = .ok (.bipush 65, 2) := by decide +kernel
theorem d_SJ_hexDigit_40 : decode b_SJ_hexDigit 40 = .ok (.if_icmp .lt 19, 3) := by decide +kernel
theorem d_SJ_hexDigit_43 : decode b_SJ_hexDigit 43 = .ok (.iload_n 0, 1) := by decide +kernel
theorem d_SJ_hexDigit_44 : decode b_SJ_hexDigit 44 = .ok (.bipush 70, 2) := by decide +kernel
theorem d_SJ_hexDigit_46 : decode b_SJ_hexDigit 46 = .ok (.if_icmp .gt 13, 3) := by decide +kernel
theorem d_SJ_hexDigit_49 : decode b_SJ_hexDigit 49 = .ok (.iload_n 0, 1) := by decide +kernel
theorem d_SJ_hexDigit_50 : decode b_SJ_hexDigit 50 = .ok (.bipush 65, 2) := by decide +kernel
theorem d_SJ_hexDigit_52 : decode b_SJ_hexDigit 52 = .ok (.isub, 1) := by decide +kernel
theorem d_SJ_hexDigit_53 : decode b_SJ_hexDigit 53 = .ok (.bipush 10, 2) := by decide +kernel
theorem d_SJ_hexDigit_55 : decode b_SJ_hexDigit 55 = .ok (.iadd, 1) := by decide +kernel
theorem d_SJ_hexDigit_56 : decode b_SJ_hexDigit 56 = .ok (.goto 4, 3) := by decide +kernel
theorem d_SJ_hexDigit_59 : decode b_SJ_hexDigit 59 = .ok (.iconst (-1), 1) := by decide +kernel
theorem d_SJ_hexDigit_60 : decode b_SJ_hexDigit 60 = .ok (.ireturn, 1) := by decide +kernel
theorem d_Rd_readHex_0 : decode b_Rd_readHex 0 = .ok (.iconst 0, 1) := by decide +kernel
theorem d_Rd_readHex_1 : decode b_Rd_readHex 1 = .ok (.istore_n 1, 1) := by decide +kernel
theorem d_Rd_readHex_2 : decode b_Rd_readHex 2 = .ok (.iconst 0, 1) := by decide +kernel
theorem d_Rd_readHex_3 : decode b_Rd_readHex 3 = .ok (.istore_n 2, 1) := by decide +kernel
theorem d_Rd_readHex_4 : decode b_Rd_readHex 4 = .ok (.iload_n 2, 1) := by decide +kernel
theorem d_Rd_readHex_5 : decode b_Rd_readHex 5 = .ok (.iconst 4, 1) := by decide +kernel
theorem d_Rd_readHex_6 : decode b_Rd_readHex 6 = .ok (.if_icmp .ge 50, 3) := by decide +kernel
theorem d_Rd_readHex_9 : decode b_Rd_readHex 9 = .ok (.aload_n 0, 1) := by decide +kernel
theorem d_Rd_readHex_10 : decode b_Rd_readHex 10 = .ok (.invokevirtual 48, 3) := by decide +kernel
theorem d_Rd_readHex_13 : decode b_Rd_readHex 13 = .ok (.invokestatic 164, 3) := by decide +kernel
theorem d_Rd_readHex_16 : decode b_Rd_readHex 16 = .ok (.istore_n 3, 1) := by decide +kernel
theorem d_Rd_readHex_17 : decode b_Rd_readHex 17 = .ok (.iload_n 3, 1) := by decide +kernel
theorem d_Rd_readHex_18 : decode b_Rd_readHex 18 = .ok (.iconst (-1), 1) := by decide +kernel
theorem d_Rd_readHex_19 : decode b_Rd_readHex 19 = .ok (.if_icmp .ne 14, 3) := by decide +kernel
theorem d_Rd_readHex_22 : decode b_Rd_readHex 22 = .ok (.aload_n 0, 1) := by decide +kernel
theorem d_Rd_readHex_23 : decode b_Rd_readHex 23 = .ok (.aload_n 0, 1) := by decide +kernel
theorem d_Rd_readHex_24 : decode b_Rd_readHex 24 = .ok (.getfield 28, 3) := by decide +kernel
theorem d_Rd_readHex_27 : decode b_Rd_readHex 27 = .ok (.invokevirtual 44, 3) := by decide +kernel
theorem d_Rd_readHex_30 : decode b_Rd_readHex 30 = .ok (.pop, 1) := by decide +kernel
theorem d_Rd_readHex_31 : decode b_Rd_readHex 31 = .ok (.iconst (-1), 1) := by decide +kernel
theorem d_Rd_readHex_32 : decode b_Rd_readHex 32 = .ok (.ireturn, 1) := by decide +kernel
theorem d_Rd_readHex_33 : decode b_Rd_readHex 33 = .ok (.iload_n 1, 1) := by decide +kernel
theorem d_Rd_readHex_34 : decode b_Rd_readHex 34 = .ok (.bipush 16, 2) := by decide +kernel
theorem d_Rd_readHex_36 : decode b_Rd_readHex 36 = .ok (.imul, 1) := by decide +kernel
theorem d_Rd_readHex_37 : decode b_Rd_readHex 37 = .ok (.iload_n 3, 1) := by decide +kernel
theorem d_Rd_readHex_38 : decode b_Rd_readHex 38 = .ok (.iadd, 1) := by decide +kernel
theorem d_Rd_readHex_39 : decode b_Rd_readHex 39 = .ok (.istore_n 1, 1) := by decide +kernel
theorem d_Rd_readHex_40 : decode b_Rd_readHex 40 = .ok (.aload_n 0, 1) := by decide +kernel
theorem d_Rd_readHex_41 : decode b_Rd_readHex 41 = .ok (.dup, 1) := by decide +kernel
theorem d_Rd_readHex_42 : decode b_Rd_readHex 42 = .ok (.getfield 28, 3) := by decide +kernel
theorem d_Rd_readHex_45 : decode b_Rd_readHex 45 = .ok (.iconst 1, 1) := by decide +kernel
theorem d_Rd_readHex_46 : decode b_Rd_readHex 46 = .ok (.iadd, 1) := by decide +kernel
theorem d_Rd_readHex_47 : decode b_Rd_readHex 47 = .ok (.putfield 28, 3) := by decide +kernel
theorem d_Rd_readHex_50 : decode b_Rd_readHex 50 = .ok (.iinc 2 1, 3) := by decide +kernel
theorem d_Rd_readHex_53 : decode b_Rd_readHex 53 = .ok (.goto (-49), 3) := by decide +kernel
theorem d_Rd_readHex_56 : decode b_Rd_readHex 56 = .ok (.iload_n 1, 1) := by decide +kernel
theorem d_Rd_readHex_57 : decode b_Rd_readHex 57 = .ok (.ireturn, 1) := by decide +kernel
theorem d_SJ_isSurrogate_0 : decode b_SJ_isSurrogate 0 = .ok (.iload_n 0, 1) := by decide +kernel
theorem d_SJ_isSurrogate_1 : decode b_SJ_isSurrogate 1 = .ok (.ldc 198, 2) := by decide +kernel
theorem d_SJ_isSurrogate_3 : decode b_SJ_isSurrogate 3 = .ok (.if_icmp .lt 13, 3) := by decide +kernel
theorem d_SJ_isSurrogate_6 : decode b_SJ_isSurrogate 6 = .ok (.iload_n 0, 1) := by decide +kernel
theorem d_SJ_isSurrogate_7 : decode b_SJ_isSurrogate 7 = .ok (.ldc 199, 2) := by decide +kernel
theorem d_SJ_isSurrogate_9 : decode b_SJ_isSurrogate 9 = .ok (.if_icmp .gt 7, 3) := by decide +kernel
theorem d_SJ_isSurrogate_12 : decode b_SJ_isSurrogate 12 = .ok (.iconst 1, 1) := by decide +kernel
theorem d_SJ_isSurrogate_13 : decode b_SJ_isSurrogate 13 = .ok (.goto 4, 3) := by decide +kernel
theorem d_SJ_isSurrogate_16 : decode b_SJ_isSurrogate 16 = .ok (.iconst 0, 1) := by decide +kernel
theorem d_SJ_isSurrogate_17 : decode b_SJ_isSurrogate 17 = .ok (.ireturn, 1) := by decide +kernel
theorem d_Rd_readEscape_0 : decode b_Rd_readEscape 0 = .ok (.aload_n 0, 1) := by decide +kernel
theorem d_Rd_readEscape_1 : decode b_Rd_readEscape 1 = .ok (.getfield 28, 3) := by decide +kernel
theorem d_Rd_readEscape_4 : decode b_Rd_readEscape 4 = .ok (.istore_n 1, 1) := by decide +kernel
theorem d_Rd_readEscape_5 : decode b_Rd_readEscape 5 = .ok (.aload_n 0, 1) := by decide +kernel
theorem d_Rd_readEscape_6 : decode b_Rd_readEscape 6 = .ok (.dup, 1) := by decide +kernel
theorem d_Rd_readEscape_7 : decode b_Rd_readEscape 7 = .ok (.getfield 28, 3) := by decide +kernel
theorem d_Rd_readEscape_10 : decode b_Rd_readEscape 10 = .ok (.iconst 1, 1) := by decide +kernel
theorem d_Rd_readEscape_11 : decode b_Rd_readEscape 11 = .ok (.iadd, 1) := by decide +kernel
theorem d_Rd_readEscape_12 : decode b_Rd_readEscape 12 = .ok (.putfield 28, 3) := by decide +kernel
theorem d_Rd_readEscape_15 : decode b_Rd_readEscape 15 = .ok (.aload_n 0, 1) := by decide +kernel
theorem d_Rd_readEscape_16 : decode b_Rd_readEscape 16 = .ok (.invokevirtual 48, 3) := by decide +kernel
theorem d_Rd_readEscape_19 : decode b_Rd_readEscape 19 = .ok (.istore_n 2, 1) := by decide +kernel
theorem d_Rd_readEscape_20 : decode b_Rd_readEscape 20 = .ok (.iload_n 2, 1) := by decide +kernel
theorem d_Rd_readEscape_21 : decode b_Rd_readEscape 21 = .ok (.bipush 117, 2) := by decide +kernel
theorem d_Rd_readEscape_23 : decode b_Rd_readEscape 23 = .ok (.if_icmp .eq 9, 3) := by decide +kernel
theorem d_Rd_readEscape_26 : decode b_Rd_readEscape 26 = .ok (.aload_n 0, 1) := by decide +kernel
theorem d_Rd_readEscape_27 : decode b_Rd_readEscape 27 = .ok (.iload_n 2, 1) := by decide +kernel
theorem d_Rd_readEscape_28 : decode b_Rd_readEscape 28 = .ok (.invokevirtual 151, 3) := by decide +kernel
theorem d_Rd_readEscape_31 : decode b_Rd_readEscape 31 = .ok (.ireturn, 1) := by decide +kernel
theorem d_Rd_readEscape_32 : decode b_Rd_readEscape 32 = .ok (.aload_n 0, 1) := by decide +kernel
theorem d_Rd_readEscape_33 : decode b_Rd_readEscape 33 = .ok (.dup, 1) := by decide +kernel
theorem d_Rd_readEscape_34 : decode b_Rd_readEscape 34 = .ok (.getfield 28, 3) := by decide +kernel
theorem d_Rd_readEscape_37 : decode b_Rd_readEscape 37 = .ok (.iconst 1, 1) := by decide +kernel
theorem d_Rd_readEscape_38 : decode b_Rd_readEscape 38 = .ok (.iadd, 1) := by decide +kernel
theorem d_Rd_readEscape_39 : decode b_Rd_readEscape 39 = .ok (.putfield 28, 3) := by decide +kernel
theorem d_Rd_readEscape_42 : decode b_Rd_readEscape 42 = .ok (.aload_n 0, 1) := by decide +kernel
theorem d_Rd_readEscape_43 : decode b_Rd_readEscape 43 = .ok (.invokevirtual 154, 3) := by decide +kernel
theorem d_Rd_readEscape_46 : decode b_Rd_readEscape 46 = .ok (.istore_n 3, 1) := by decide +kernel
theorem d_Rd_readEscape_47 : decode b_Rd_readEscape 47 = .ok (.iload_n 3, 1) := by decide +kernel
theorem d_Rd_readEscape_48 : decode b_Rd_readEscape 48 = .ok (.invokestatic 157, 3) := by decide +kernel
theorem d_Rd_readEscape_51 : decode b_Rd_readEscape 51 = .ok (.ifCond .ne 5, 3) := by decide +kernel
theorem d_Rd_readEscape_54 : decode b_Rd_readEscape 54 = .ok (.iload_n 3, 1) := by decide +kernel
theorem d_Rd_readEscape_55 : decode b_Rd_readEscape 55 = .ok (.ireturn, 1) := by decide +kernel
theorem d_Rd_readEscape_56 : decode b_Rd_readEscape 56 = .ok (.iconst (-1), 1) := by decide +kernel
theorem d_Rd_readEscape_57 : decode b_Rd_readEscape 57 = .ok (.istore 4, 2) := by decide +kernel
theorem d_Rd_readEscape_59 : decode b_Rd_readEscape 59 = .ok (.iload_n 3, 1) := by decide +kernel
theorem d_Rd_readEscape_60 : decode b_Rd_readEscape 60 = .ok (.ldc 160, 2) := by decide +kernel
theorem d_Rd_readEscape_62 : decode b_Rd_readEscape 62 = .ok (.if_icmp .ge 47, 3) := by decide +kernel
theorem d_Rd_readEscape_65 : decode b_Rd_readEscape 65 = .ok (.aload_n 0, 1) := by decide +kernel
theorem d_Rd_readEscape_66 : decode b_Rd_readEscape 66 = .ok (.invokevirtual 48, 3) := by decide +kernel
theorem d_Rd_readEscape_69 : decode b_Rd_readEscape 69 = .ok (.bipush 92, 2) := by decide +kernel
theorem d_Rd_readEscape_71 : decode b_Rd_readEscape 71 = .ok (.if_icmp .ne 38, 3) := by decide +kernel
theorem d_Rd_readEscape_74 : decode b_Rd_readEscape 74 = .ok (.aload_n 0, 1) := by decide +kernel
theorem d_Rd_readEscape_75 : decode b_Rd_readEscape 75 = .ok (.dup, 1) := by decide +kernel
theorem d_Rd_readEscape_76 : decode b_Rd_readEscape 76 = .ok (.getfield 28, 3) := by decide +kernel
theorem d_Rd_readEscape_79 : decode b_Rd_readEscape 79 = .ok (.iconst 1, 1) := by decide +kernel
theorem d_Rd_readEscape_80 : decode b_Rd_readEscape 80 = .ok (.iadd, 1) := by decide +kernel
theorem d_Rd_readEscape_81 : decode b_Rd_readEscape 81 = .ok (.putfield 28, 3) := by decide +kernel
theorem d_Rd_readEscape_84 : decode b_Rd_readEscape 84 = .ok (.aload_n 0, 1) := by decide +kernel
theorem d_Rd_readEscape_85 : decode b_Rd_readEscape 85 = .ok (.invokevirtual 48, 3) := by decide +kernel
theorem d_Rd_readEscape_88 : decode b_Rd_readEscape 88 = .ok (.bipush 117, 2) := by decide +kernel
theorem d_Rd_readEscape_90 : decode b_Rd_readEscape 90 = .ok (.if_icmp .ne 19, 3) := by decide +kernel
theorem d_Rd_readEscape_93 : decode b_Rd_readEscape 93 = .ok (.aload_n 0, 1) := by decide +kernel
theorem d_Rd_readEscape_94 : decode b_Rd_readEscape 94 = .ok (.dup, 1) := by decide +kernel
theorem d_Rd_readEscape_95 : decode b_Rd_readEscape 95 = .ok (.getfield 28, 3) := by decide +kernel
theorem d_Rd_readEscape_98 : decode b_Rd_readEscape 98 = .ok (.iconst 1, 1) := by decide +kernel
theorem d_Rd_readEscape_99 : decode b_Rd_readEscape 99 = .ok (.iadd, 1) := by decide +kernel
theorem d_Rd_readEscape_100 : decode b_Rd_readEscape 100 = .ok (.putfield 28, 3) := by decide +kernel
theorem d_Rd_readEscape_103 : decode b_Rd_readEscape 103 = .ok (.aload_n 0, 1) := by decide +kernel
theorem d_Rd_readEscape_104 : decode b_Rd_readEscape 104 = .ok (.invokevirtual 154, 3) := by decide +kernel
theorem d_Rd_readEscape_107 : decode b_Rd_readEscape 107 = .ok (.istore 4, 2) := by decide +kernel
theorem d_Rd_readEscape_109 : decode b_Rd_readEscape 109 = .ok (.iload 4, 2) := by decide +kernel
theorem d_Rd_readEscape_111 : decode b_Rd_readEscape 111 = .ok (.ldc 160, 2) := by decide +kernel
theorem d_Rd_readEscape_113 : decode b_Rd_readEscape 113 = .ok (.if_icmp .lt 10, 3) := by decide +kernel
theorem d_Rd_readEscape_116 : decode b_Rd_readEscape 116 = .ok (.iload 4, 2) := by decide +kernel
theorem d_Rd_readEscape_118 : decode b_Rd_readEscape 118 = .ok (.ldc 161, 2) := by decide +kernel
theorem d_Rd_readEscape_120 : decode b_Rd_readEscape 120 = .ok (.if_icmp .le 11, 3) := by decide +kernel
theorem d_Rd_readEscape_123 : decode b_Rd_readEscape 123 = .ok (.aload_n 0, 1) := by decide +kernel
theorem d_Rd_readEscape_124 : decode b_Rd_readEscape 124 = .ok (.iload_n 1, 1) := by decide +kernel
theorem d_Rd_readEscape_125 : decode b_Rd_readEscape 125 = .ok (.invokevirtual 44, 3) := by decide +kernel
theorem d_Rd_readEscape_128 : decode b_Rd_readEscape 128 = .ok (.pop, 1) := by decide +kernel
theorem d_Rd_readEscape_129 : decode b_Rd_readEscape 129 = .ok (.iconst (-1), 1) := by decide +kernel
theorem d_Rd_readEscape_130 : decode b_Rd_readEscape 130 = .ok (.ireturn, 1) := by decide +kernel
theorem d_Rd_readEscape_131 : decode b_Rd_readEscape 131 = .ok (.ldc 162, 2) := by decide +kernel
theorem d_Rd_readEscape_133 : decode b_Rd_readEscape 133 = .ok (.iload_n 3, 1) := by decide +kernel
theorem d_Rd_readEscape_134 : decode b_Rd_readEscape 134 = .ok (.ldc 163, 2) := by decide +kernel
theorem d_Rd_readEscape_136 : decode b_Rd_readEscape 136 = .ok (.isub, 1) := by decide +kernel
theorem d_Rd_readEscape_137 : decode b_Rd_readEscape 137 = .ok (.bipush 10, 2) := by decide +kernel
theorem d_Rd_readEscape_139 : decode b_Rd_readEscape 139 = .ok (.ishl, 1) := by decide +kernel
theorem d_Rd_readEscape_140 : decode b_Rd_readEscape 140 = .ok (.iadd, 1) := by decide +kernel
theorem d_Rd_readEscape_141 : decode b_Rd_readEscape 141 = .ok (.iload 4, 2) := by decide +kernel
theorem d_Rd_readEscape_143 : decode b_Rd_readEscape 143 = .ok (.ldc 160, 2) := by decide +kernel
theorem d_Rd_readEscape_145 : decode b_Rd_readEscape 145 = .ok (.isub, 1) := by decide +kernel
theorem d_Rd_readEscape_146 : decode b_Rd_readEscape 146 = .ok (.iadd, 1) := by decide +kernel
theorem d_Rd_readEscape_147 : decode b_Rd_readEscape 147 = .ok (.ireturn, 1) := by decide +kernel
theorem d_SJ_utf8Tail_0 : decode b_SJ_utf8Tail 0 = .ok (.iload_n 0, 1) := by decide +kernel
theorem d_SJ_utf8Tail_1 : decode b_SJ_utf8Tail 1 = .ok (.ifCond .lt 12, 3) := by decide +kernel
theorem d_SJ_utf8Tail_4 : decode b_SJ_utf8Tail 4 = .ok (.iload_n 0, 1) := by decide +kernel
theorem d_SJ_utf8Tail_5 : decode b_SJ_utf8Tail 5 = .ok (.sipush 128, 3) := by decide +kernel
theorem d_SJ_utf8Tail_8 : decode b_SJ_utf8Tail 8 = .ok (.if_icmp .ge 5, 3) := by decide +kernel
theorem d_SJ_utf8Tail_11 : decode b_SJ_utf8Tail 11 = .ok (.iconst 0, 1) := by decide +kernel
theorem d_SJ_utf8Tail_12 : decode b_SJ_utf8Tail 12 = .ok (.ireturn, 1) := by decide +kernel
theorem d_SJ_utf8Tail_13 : decode b_SJ_utf8Tail 13 = .ok (.iload_n 0, 1) := by decide +kernel
theorem d_SJ_utf8Tail_14 : decode b_SJ_utf8Tail 14 = .ok (.sipush 194, 3) := by decide +kernel
theorem d_SJ_utf8Tail_17 : decode b_SJ_utf8Tail 17 = .ok (.if_icmp .lt 12, 3) := by decide +kernel
theorem d_SJ_utf8Tail_20 : decode b_SJ_utf8Tail 20 = .ok (.iload_n 0, 1) := by decide +kernel
theorem d_SJ_utf8Tail_21 : decode b_SJ_utf8Tail 21 = .ok (.sipush 223, 3) := by decide +kernel
theorem d_SJ_utf8Tail_24 : decode b_SJ_utf8Tail 24 = .ok (.if_icmp .gt 5, 3) := by decide +kernel
theorem d_SJ_utf8Tail_27 : decode b_SJ_utf8Tail 27 = .ok (.iconst 1, 1) := by decide +kernel
theorem d_SJ_utf8Tail_28 : decode b_SJ_utf8Tail 28 = .ok (.ireturn, 1) := by decide +kernel
theorem d_SJ_utf8Tail_29 : decode b_SJ_utf8Tail 29 = .ok (.iload_n 0, 1) := by decide +kernel
theorem d_SJ_utf8Tail_30 : decode b_SJ_utf8Tail 30 = .ok (.sipush 224, 3) := by decide +kernel
theorem d_SJ_utf8Tail_33 : decode b_SJ_utf8Tail 33 = .ok (.if_icmp .lt 12, 3) := by decide +kernel
theorem d_SJ_utf8Tail_36 : decode b_SJ_utf8Tail 36 = .ok (.iload_n 0, 1) := by decide +kernel
theorem d_SJ_utf8Tail_37 : decode b_SJ_utf8Tail 37 = .ok (.sipush 239, 3) := by decide +kernel
theorem d_SJ_utf8Tail_40 : decode b_SJ_utf8Tail 40 = .ok (.if_icmp .gt 5, 3) := by decide +kernel
theorem d_SJ_utf8Tail_43 : decode b_SJ_utf8Tail 43 = .ok (.iconst 2, 1) := by decide +kernel
theorem d_SJ_utf8Tail_44 : decode b_SJ_utf8Tail 44 = .ok (.ireturn, 1) := by decide +kernel
theorem d_SJ_utf8Tail_45 : decode b_SJ_utf8Tail 45 = .ok (.iload_n 0, 1) := by decide +kernel
theorem d_SJ_utf8Tail_46 : decode b_SJ_utf8Tail 46 = .ok (.sipush 240, 3) := by decide +kernel
theorem d_SJ_utf8Tail_49 : decode b_SJ_utf8Tail 49 = .ok (.if_icmp .lt 14, 3) := by decide +kernel
theorem d_SJ_utf8Tail_52 : decode b_SJ_utf8Tail 52 = .ok (.iload_n 0, 1) := by decide +kernel
theorem d_SJ_utf8Tail_53 : decode b_SJ_utf8Tail 53 = .ok (.sipush 244, 3) := by decide +kernel
theorem d_SJ_utf8Tail_56 : decode b_SJ_utf8Tail 56 = .ok (.if_icmp .gt 7, 3) := by decide +kernel
theorem d_SJ_utf8Tail_59 : decode b_SJ_utf8Tail 59 = .ok (.iconst 3, 1) := by decide +kernel
theorem d_SJ_utf8Tail_60 : decode b_SJ_utf8Tail 60 = .ok (.goto 4, 3) := by decide +kernel
theorem d_SJ_utf8Tail_63 : decode b_SJ_utf8Tail 63 = .ok (.iconst (-1), 1) := by decide +kernel
theorem d_SJ_utf8Tail_64 : decode b_SJ_utf8Tail 64 = .ok (.ireturn, 1) := by decide +kernel
theorem d_SJ_utf8Head_0 : decode b_SJ_utf8Head 0 = .ok (.iload_n 1, 1) := by decide +kernel
theorem d_SJ_utf8Head_1 : decode b_SJ_utf8Head 1 = .ok (.ifCond .ne 7, 3) := by decide +kernel
theorem d_SJ_utf8Head_4 : decode b_SJ_utf8Head 4 = .ok (.iload_n 0, 1) := by decide +kernel
theorem d_SJ_utf8Head_5 : decode b_SJ_utf8Head 5 = .ok (.goto 9, 3) := by decide +kernel
theorem d_SJ_utf8Head_8 : decode b_SJ_utf8Head 8 = .ok (.iload_n 0, 1) := by decide +kernel
theorem d_SJ_utf8Head_9 : decode b_SJ_utf8Head 9 = .ok (.bipush 63, 2) := by decide +kernel
theorem d_SJ_utf8Head_11 : decode b_SJ_utf8Head 11 = .ok (.iload_n 1, 1) := by decide +kernel
theorem d_SJ_utf8Head_12 : decode b_SJ_utf8Head 12 = .ok (.ishr, 1) := by decide +kernel
theorem d_SJ_utf8Head_13 : decode b_SJ_utf8Head 13 = .ok (.iand, 1) := by decide +kernel
theorem d_SJ_utf8Head_14 : decode b_SJ_utf8Head 14 = .ok (.ireturn, 1) := by decide +kernel
theorem d_SJ_utf8Follows_0 : decode b_SJ_utf8Follows 0 = .ok (.iload_n 0, 1) := by decide +kernel
theorem d_SJ_utf8Follows_1 : decode b_SJ_utf8Follows 1 = .ok (.sipush 128, 3) := by decide +kernel
theorem d_SJ_utf8Follows_4 : decode b_SJ_utf8Follows 4 = .ok (.if_icmp .lt 14, 3) := by decide +kernel
theorem d_SJ_utf8Follows_7 : decode b_SJ_utf8Follows 7 = .ok (.iload_n 0, 1) := by decide +kernel
theorem d_SJ_utf8Follows_8 : decode b_SJ_utf8Follows 8 = .ok (.sipush 191, 3) := by decide +kernel
theorem d_SJ_utf8Follows_11 : decode b_SJ_utf8Follows 11 = .ok (.if_icmp .gt 7, 3) := by decide +kernel
theorem d_SJ_utf8Follows_14 : decode b_SJ_utf8Follows 14 = .ok (.iconst 1, 1) := by decide +kernel
theorem d_SJ_utf8Follows_15 : decode b_SJ_utf8Follows 15 = .ok (.goto 4, 3) := by decide +kernel
theorem d_SJ_utf8Follows_18 : decode b_SJ_utf8Follows 18 = .ok (.iconst 0, 1) := by decide +kernel
theorem d_SJ_utf8Follows_19 : decode b_SJ_utf8Follows 19 = .ok (.ireturn, 1) := by decide +kernel
theorem d_SJ_utf8Legal_0 : decode b_SJ_utf8Legal 0 = .ok (.iload_n 1, 1) := by decide +kernel
theorem d_SJ_utf8Legal_1 : decode b_SJ_utf8Legal 1 = .ok (.ifCond .ne 5, 3) := by decide +kernel
theorem d_SJ_utf8Legal_4 : decode b_SJ_utf8Legal 4 = .ok (.iconst 1, 1) := by decide +kernel
theorem d_SJ_utf8Legal_5 : decode b_SJ_utf8Legal 5 = .ok (.ireturn, 1) := by decide +kernel
theorem d_SJ_utf8Legal_6 : decode b_SJ_utf8Legal 6 = .ok (.iload_n 1, 1) := by decide +kernel
theorem d_SJ_utf8Legal_7 : decode b_SJ_utf8Legal 7 = .ok (.iconst 1, 1) := by decide +kernel
theorem d_SJ_utf8Legal_8 : decode b_SJ_utf8Legal 8 = .ok (.if_icmp .ne 9, 3) := by decide +kernel
theorem d_SJ_utf8Legal_11 : decode b_SJ_utf8Legal 11 = .ok (.sipush 128, 3) := by decide +kernel
theorem d_SJ_utf8Legal_14 : decode b_SJ_utf8Legal 14 = .ok (.goto 16, 3) := by decide +kernel
theorem d_SJ_utf8Legal_17 : decode b_SJ_utf8Legal 17 = .ok (.iload_n 1, 1) := by decide +kernel
theorem d_SJ_utf8Legal_18 : decode b_SJ_utf8Legal 18 = .ok (.iconst 2, 1) := by decide +kernel
theorem d_SJ_utf8Legal_19 : decode b_SJ_utf8Legal 19 = .ok (.if_icmp .ne 9, 3) := by decide +kernel
theorem d_SJ_utf8Legal_22 : decode b_SJ_utf8Legal 22 = .ok (.sipush 2048, 3) := by decide +kernel
theorem d_SJ_utf8Legal_25 : decode b_SJ_utf8Legal 25 = .ok (.goto 5, 3) := by decide +kernel
theorem d_SJ_utf8Legal_28 : decode b_SJ_utf8Legal 28 = .ok (.ldc 200, 2) := by decide +kernel
theorem d_SJ_utf8Legal_30 : decode b_SJ_utf8Legal 30 = .ok (.istore_n 2, 1) := by decide +kernel
theorem d_SJ_utf8Legal_31 : decode b_SJ_utf8Legal 31 = .ok (.iload_n 0, 1) := by decide +kernel
theorem d_SJ_utf8Legal_32 : decode b_SJ_utf8Legal 32 = .ok (.iload_n 2, 1) := by decide +kernel
theorem d_SJ_utf8Legal_33 : decode b_SJ_utf8Legal 33 = .ok (.if_icmp .lt 20, 3) := by decide +kernel
theorem d_SJ_utf8Legal_36 : decode b_SJ_utf8Legal 36 = .ok (.iload_n 0, 1) := by decide +kernel
theorem d_SJ_utf8Legal_37 : decode b_SJ_utf8Legal 37 = .ok (.ldc 201, 2) := by decide +kernel
theorem d_SJ_utf8Legal_39 : decode b_SJ_utf8Legal 39 = .ok (.if_icmp .gt 14, 3) := by decide +kernel
theorem d_SJ_utf8Legal_42 : decode b_SJ_utf8Legal 42 = .ok (.iload_n 0, 1) := by decide +kernel
theorem d_SJ_utf8Legal_43 : decode b_SJ_utf8Legal 43 = .ok (.invokestatic 202, 3) := by decide +kernel
theorem d_SJ_utf8Legal_46 : decode b_SJ_utf8Legal 46 = .ok (.ifCond .ne 7, 3) := by decide +kernel
theorem d_SJ_utf8Legal_49 : decode b_SJ_utf8Legal 49 = .ok (.iconst 1, 1) := by decide +kernel
theorem d_SJ_utf8Legal_50 : decode b_SJ_utf8Legal 50 = .ok (.goto 4, 3) := by decide +kernel
theorem d_SJ_utf8Legal_53 : decode b_SJ_utf8Legal 53 = .ok (.iconst 0, 1) := by decide +kernel
theorem d_SJ_utf8Legal_54 : decode b_SJ_utf8Legal 54 = .ok (.ireturn, 1) := by decide +kernel
theorem d_Rd_readCharacter_0 : decode b_Rd_readCharacter 0 = .ok (.aload_n 0, 1) := by decide +kernel
theorem d_Rd_readCharacter_1 : decode b_Rd_readCharacter 1 = .ok (.getfield 28, 3) := by decide +kernel
theorem d_Rd_readCharacter_4 : decode b_Rd_readCharacter 4 = .ok (.istore_n 1, 1) := by decide +kernel
theorem d_Rd_readCharacter_5 : decode b_Rd_readCharacter 5 = .ok (.aload_n 0, 1) := by decide +kernel
theorem d_Rd_readCharacter_6 : decode b_Rd_readCharacter 6 = .ok (.invokevirtual 48, 3) := by decide +kernel
theorem d_Rd_readCharacter_9 : decode b_Rd_readCharacter 9 = .ok (.istore_n 2, 1) := by decide +kernel
theorem d_Rd_readCharacter_10 : decode b_Rd_readCharacter 10 = .ok (.iload_n 2, 1) := by decide +kernel
theorem d_Rd_readCharacter_11 : decode b_Rd_readCharacter 11 = .ok (.invokestatic 139, 3) := by decide +kernel
theorem d_Rd_readCharacter_14 : decode b_Rd_readCharacter 14 = .ok (.istore_n 3, 1) := by decide +kernel
theorem d_Rd_readCharacter_15 : decode b_Rd_readCharacter 15 = .ok (.iload_n 2, 1) := by decide +kernel
theorem d_Rd_readCharacter_16 : decode b_Rd_readCharacter 16 = .ok (.bipush 32, 2) := by decide +kernel
theorem d_Rd_readCharacter_18 : decode b_Rd_readCharacter 18 = .ok (.if_icmp .lt 8, 3) := by decide +kernel
theorem d_Rd_readCharacter_21 : decode b_Rd_readCharacter 21 = .ok (.iload_n 3, 1) := by decide +kernel
theorem d_Rd_readCharacter_22 : decode b_Rd_readCharacter 22 = .ok (.iconst (-1), 1) := by decide +kernel
theorem d_Rd_readCharacter_23 : decode b_Rd_readCharacter 23 = .ok (.if_icmp .ne 11, 3) := by decide +kernel
theorem d_Rd_readCharacter_26 : decode b_Rd_readCharacter 26 = .ok (.aload_n 0, 1) := by decide +kernel
theorem d_Rd_readCharacter_27 : decode b_Rd_readCharacter 27 = .ok (.iload_n 1, 1) := by decide +kernel
theorem d_Rd_readCharacter_28 : decode b_Rd_readCharacter 28 = .ok (.invokevirtual 44, 3) := by decide +kernel
theorem d_Rd_readCharacter_31 : decode b_Rd_readCharacter 31 = .ok (.pop, 1) := by decide +kernel
theorem d_Rd_readCharacter_32 : decode b_Rd_readCharacter 32 = .ok (.iconst (-1), 1) := by decide +kernel
theorem d_Rd_readCharacter_33 : decode b_Rd_readCharacter 33 = .ok (.ireturn, 1) := by decide +kernel
theorem d_Rd_readCharacter_34 : decode b_Rd_readCharacter 34 = .ok (.iload_n 2, 1) := by decide +kernel
theorem d_Rd_readCharacter_35 : decode b_Rd_readCharacter 35 = .ok (.iload_n 3, 1) := by decide +kernel
theorem d_Rd_readCharacter_36 : decode b_Rd_readCharacter 36 = .ok (.invokestatic 142, 3) := by decide +kernel
theorem d_Rd_readCharacter_39 : decode b_Rd_readCharacter 39 = .ok (.istore 4, 2) := by decide +kernel
theorem d_Rd_readCharacter_41 : decode b_Rd_readCharacter 41 = .ok (.aload_n 0, 1) := by decide +kernel
theorem d_Rd_readCharacter_42 : decode b_Rd_readCharacter 42 = .ok (.dup, 1) := by decide +kernel
theorem d_Rd_readCharacter_43 : decode b_Rd_readCharacter 43 = .ok (.getfield 28, 3) := by decide +kernel
theorem d_Rd_readCharacter_46 : decode b_Rd_readCharacter 46 = .ok (.iconst 1, 1) := by decide +kernel
theorem d_Rd_readCharacter_47 : decode b_Rd_readCharacter 47 = .ok (.iadd, 1) := by decide +kernel
theorem d_Rd_readCharacter_48 : decode b_Rd_readCharacter 48 = .ok (.putfield 28, 3) := by decide +kernel
theorem d_Rd_readCharacter_51 : decode b_Rd_readCharacter 51 = .ok (.iconst 0, 1) := by decide +kernel
theorem d_Rd_readCharacter_52 : decode b_Rd_readCharacter 52 = .ok (.istore 5, 2) := by decide +kernel
theorem d_Rd_readCharacter_54 : decode b_Rd_readCharacter 54 = .ok (.iload 5, 2) := by decide +kernel
theorem d_Rd_readCharacter_56 : decode b_Rd_readCharacter 56 = .ok (.iload_n 3, 1) := by decide +kernel
theorem d_Rd_readCharacter_57 : decode b_Rd_readCharacter 57 = .ok (.if_icmp .ge 54, 3) := by decide +kernel
theorem d_Rd_readCharacter_60 : decode b_Rd_readCharacter 60 = .ok (.aload_n 0, 1) := by decide +kernel
theorem d_Rd_readCharacter_61 : decode b_Rd_readCharacter 61 = .ok (.invokevirtual 48, 3) := by decide +kernel
theorem d_Rd_readCharacter_64 : decode b_Rd_readCharacter 64 = .ok (.istore 6, 2) := by decide +kernel
theorem d_Rd_readCharacter_66 : decode b_Rd_readCharacter 66 = .ok (.iload 6, 2) := by decide +kernel
theorem d_Rd_readCharacter_68 : decode b_Rd_readCharacter 68 = .ok (.invokestatic 145, 3) := by decide +kernel
theorem d_Rd_readCharacter_71 : decode b_Rd_readCharacter 71 = .ok (.ifCond .ne 11, 3) := by decide +kernel
theorem d_Rd_readCharacter_74 : decode b_Rd_readCharacter 74 = .ok (.aload_n 0, 1) := by decide +kernel
theorem d_Rd_readCharacter_75 : decode b_Rd_readCharacter 75 = .ok (.iload_n 1, 1) := by decide +kernel
theorem d_Rd_readCharacter_76 : decode b_Rd_readCharacter 76 = .ok (.invokevirtual 44, 3) := by decide +kernel
theorem d_Rd_readCharacter_79 : decode b_Rd_readCharacter 79 = .ok (.pop, 1) := by decide +kernel
theorem d_Rd_readCharacter_80 : decode b_Rd_readCharacter 80 = .ok (.iconst (-1), 1) := by decide +kernel
theorem d_Rd_readCharacter_81 : decode b_Rd_readCharacter 81 = .ok (.ireturn, 1) := by decide +kernel
theorem d_Rd_readCharacter_82 : decode b_Rd_readCharacter 82 = .ok (.iload 4, 2) := by decide +kernel
theorem d_Rd_readCharacter_84 : decode b_Rd_readCharacter 84 = .ok (.bipush 6, 2) := by decide +kernel
theorem d_Rd_readCharacter_86 : decode b_Rd_readCharacter 86 = .ok (.ishl, 1) := by decide +kernel
theorem d_Rd_readCharacter_87 : decode b_Rd_readCharacter 87 = .ok (.iload 6, 2) := by decide +kernel
theorem d_Rd_readCharacter_89 : decode b_Rd_readCharacter 89 = .ok (.bipush 63, 2) := by decide +kernel
theorem d_Rd_readCharacter_91 : decode b_Rd_readCharacter 91 = .ok (.iand, 1) := by decide +kernel
theorem d_Rd_readCharacter_92 : decode b_Rd_readCharacter 92 = .ok (.ior, 1) := by decide +kernel
theorem d_Rd_readCharacter_93 : decode b_Rd_readCharacter 93 = .ok (.istore 4, 2) := by decide +kernel
theorem d_Rd_readCharacter_95 : decode b_Rd_readCharacter 95 = .ok (.aload_n 0, 1) := by decide +kernel
theorem d_Rd_readCharacter_96 : decode b_Rd_readCharacter 96 = .ok (.dup, 1) := by decide +kernel
theorem d_Rd_readCharacter_97 : decode b_Rd_readCharacter 97 = .ok (.getfield 28, 3) := by decide +kernel
theorem d_Rd_readCharacter_100 : decode b_Rd_readCharacter 100 = .ok (.iconst 1, 1) := by decide +kernel
theorem d_Rd_readCharacter_101 : decode b_Rd_readCharacter 101 = .ok (.iadd, 1) := by decide +kernel
theorem d_Rd_readCharacter_102 : decode b_Rd_readCharacter 102 = .ok (.putfield 28, 3) := by decide +kernel
theorem d_Rd_readCharacter_105 : decode b_Rd_readCharacter 105 = .ok (.iinc 5 1, 3) := by decide +kernel
theorem d_Rd_readCharacter_108 : decode b_Rd_readCharacter 108 = .ok (.goto (-54), 3) := by decide +kernel
theorem d_Rd_readCharacter_111 : decode b_Rd_readCharacter 111 = .ok (.iload 4, 2) := by decide +kernel
theorem d_Rd_readCharacter_113 : decode b_Rd_readCharacter 113 = .ok (.iload_n 3, 1) := by decide +kernel
theorem d_Rd_readCharacter_114 : decode b_Rd_readCharacter 114 = .ok (.invokestatic 148, 3) := by decide +kernel
theorem d_Rd_readCharacter_117 : decode b_Rd_readCharacter 117 = .ok (.ifCond .ne 11, 3) := by decide +kernel
theorem d_Rd_readCharacter_120 : decode b_Rd_readCharacter 120 = .ok (.aload_n 0, 1) := by decide +kernel
theorem d_Rd_readCharacter_121 : decode b_Rd_readCharacter 121 = .ok (.iload_n 1, 1) := by decide +kernel
theorem d_Rd_readCharacter_122 : decode b_Rd_readCharacter 122 = .ok (.invokevirtual 44, 3) := by decide +kernel
theorem d_Rd_readCharacter_125 : decode b_Rd_readCharacter 125 = .ok (.pop, 1) := by decide +kernel
theorem d_Rd_readCharacter_126 : decode b_Rd_readCharacter 126 = .ok (.iconst (-1), 1) := by decide +kernel
theorem d_Rd_readCharacter_127 : decode b_Rd_readCharacter 127 = .ok (.ireturn, 1) := by decide +kernel
theorem d_Rd_readCharacter_128 : decode b_Rd_readCharacter 128 = .ok (.iload 4, 2) := by decide +kernel
theorem d_Rd_readCharacter_130 : decode b_Rd_readCharacter 130 = .ok (.ireturn, 1) := by decide +kernel
theorem d_Mk_clear_0 : decode b_Mk_clear 0 = .ok (.iconst 0, 1) := by decide +kernel
theorem d_Mk_clear_1 : decode b_Mk_clear 1 = .ok (.istore_n 1, 1) := by decide +kernel
theorem d_Mk_clear_2 : decode b_Mk_clear 2 = .ok (.iload_n 1, 1) := by decide +kernel
theorem d_Mk_clear_3 : decode b_Mk_clear 3 = .ok (.sipush 1000, 3) := by decide +kernel
theorem d_Mk_clear_6 : decode b_Mk_clear 6 = .ok (.if_icmp .ge 30, 3) := by decide +kernel
theorem d_Mk_clear_9 : decode b_Mk_clear 9 = .ok (.aload_n 0, 1) := by decide +kernel
theorem d_Mk_clear_10 : decode b_Mk_clear 10 = .ok (.getfield 9, 3) := by decide +kernel
theorem d_Mk_clear_13 : decode b_Mk_clear 13 = .ok (.iload_n 1, 1) := by decide +kernel
theorem d_Mk_clear_14 : decode b_Mk_clear 14 = .ok (.iconst 0, 1) := by decide +kernel
theorem d_Mk_clear_15 : decode b_Mk_clear 15 = .ok (.iastore, 1) := by decide +kernel
theorem d_Mk_clear_16 : decode b_Mk_clear 16 = .ok (.aload_n 0, 1) := by decide +kernel
theorem d_Mk_clear_17 : decode b_Mk_clear 17 = .ok (.getfield 15, 3) := by decide +kernel
theorem d_Mk_clear_20 : decode b_Mk_clear 20 = .ok (.iload_n 1, 1) := by decide +kernel
theorem d_Mk_clear_21 : decode b_Mk_clear 21 = .ok (.iconst 0, 1) := by decide +kernel
theorem d_Mk_clear_22 : decode b_Mk_clear 22 = .ok (.bastore, 1) := by decide +kernel
theorem d_Mk_clear_23 : decode b_Mk_clear 23 = .ok (.aload_n 0, 1) := by decide +kernel
theorem d_Mk_clear_24 : decode b_Mk_clear 24 = .ok (.getfield 19, 3) := by decide +kernel
theorem d_Mk_clear_27 : decode b_Mk_clear 27 = .ok (.iload_n 1, 1) := by decide +kernel
theorem d_Mk_clear_28 : decode b_Mk_clear 28 = .ok (.iconst (-1), 1) := by decide +kernel
theorem d_Mk_clear_29 : decode b_Mk_clear 29 = .ok (.iastore, 1) := by decide +kernel
theorem d_Mk_clear_30 : decode b_Mk_clear 30 = .ok (.iinc 1 1, 3) := by decide +kernel
theorem d_Mk_clear_33 : decode b_Mk_clear 33 = .ok (.goto (-31), 3) := by decide +kernel
theorem d_Mk_clear_36 : decode b_Mk_clear 36 = .ok (.return_, 1) := by decide +kernel
theorem d_Tx_kind_0 : decode b_Tx_kind 0 = .ok (.iload_n 1, 1) := by decide +kernel
theorem d_Tx_kind_1 : decode b_Tx_kind 1 = .ok (.ifCond .lt 20, 3) := by decide +kernel
theorem d_Tx_kind_4 : decode b_Tx_kind 4 = .ok (.iload_n 1, 1) := by decide +kernel
theorem d_Tx_kind_5 : decode b_Tx_kind 5 = .ok (.aload_n 0, 1) := by decide +kernel
theorem d_Tx_kind_6 : decode b_Tx_kind 6 = .ok (.getfield 43, 3) := by decide +kernel
theorem d_Tx_kind_9 : decode b_Tx_kind 9 = .ok (.if_icmp .ge 12, 3) := by decide +kernel
theorem d_Tx_kind_12 : decode b_Tx_kind 12 = .ok (.aload_n 0, 1) := by decide +kernel
theorem d_Tx_kind_13 : decode b_Tx_kind 13 = .ok (.getfield 9, 3) := by decide +kernel
theorem d_Tx_kind_16 : decode b_Tx_kind 16 = .ok (.iload_n 1, 1) := by decide +kernel
theorem d_Tx_kind_17 : decode b_Tx_kind 17 = .ok (.iaload, 1) := by decide +kernel
theorem d_Tx_kind_18 : decode b_Tx_kind 18 = .ok (.goto 4, 3) := by decide +kernel
theorem d_Tx_kind_21 : decode b_Tx_kind 21 = .ok (.iconst (-1), 1) := by decide +kernel
theorem d_Tx_kind_22 : decode b_Tx_kind 22 = .ok (.ireturn, 1) := by decide +kernel
theorem d_Mk_markSchema_0 : decode b_Mk_markSchema 0 = .ok (.aload_n 0, 1) := by decide +kernel
theorem d_Mk_markSchema_1 : decode b_Mk_markSchema 1 = .ok (.getfield 22, 3) := by decide +kernel
theorem d_Mk_markSchema_4 : decode b_Mk_markSchema 4 = .ok (.iload_n 1, 1) := by decide +kernel
theorem d_Mk_markSchema_5 : decode b_Mk_markSchema 5 = .ok (.invokevirtual 26, 3) := by decide +kernel
theorem d_Mk_markSchema_8 : decode b_Mk_markSchema 8 = .ok (.istore_n 2, 1) := by decide +kernel
theorem d_Mk_markSchema_9 : decode b_Mk_markSchema 9 = .ok (.iload_n 2, 1) := by decide +kernel
theorem d_Mk_markSchema_10 : decode b_Mk_markSchema 10 = .ok (.bipush 6, 2) := by decide +kernel
theorem d_Mk_markSchema_12 : decode b_Mk_markSchema 12 = .ok (.if_icmp .eq 13, 3) := by decide +kernel
theorem d_Mk_markSchema_15 : decode b_Mk_markSchema 15 = .ok (.iload_n 2, 1) := by decide +kernel
theorem d_Mk_markSchema_16 : decode b_Mk_markSchema 16 = .ok (.iconst 2, 1) := by decide +kernel
theorem d_Mk_markSchema_17 : decode b_Mk_markSchema 17 = .ok (.if_icmp .eq 8, 3) := by decide +kernel
theorem d_Mk_markSchema_20 : decode b_Mk_markSchema 20 = .ok (.iload_n 2, 1) := by decide +kernel
theorem d_Mk_markSchema_21 : decode b_Mk_markSchema 21 = .ok (.iconst 1, 1) := by decide +kernel
theorem d_Mk_markSchema_22 : decode b_Mk_markSchema 22 = .ok (.if_icmp .ne 7, 3) := by decide +kernel
theorem d_Mk_markSchema_25 : decode b_Mk_markSchema 25 = .ok (.iconst 1, 1) := by decide +kernel
theorem d_Mk_markSchema_26 : decode b_Mk_markSchema 26 = .ok (.goto 4, 3) := by decide +kernel
theorem d_Mk_markSchema_29 : decode b_Mk_markSchema 29 = .ok (.iconst 0, 1) := by decide +kernel
theorem d_Mk_markSchema_30 : decode b_Mk_markSchema 30 = .ok (.istore_n 3, 1) := by decide +kernel
theorem d_Mk_markSchema_31 : decode b_Mk_markSchema 31 = .ok (.iload_n 3, 1) := by decide +kernel
theorem d_Mk_markSchema_32 : decode b_Mk_markSchema 32 = .ok (.ifCond .eq 21, 3) := by decide +kernel
theorem d_Mk_markSchema_35 : decode b_Mk_markSchema 35 = .ok (.iload_n 1, 1) := by decide +kernel
theorem d_Mk_markSchema_36 : decode b_Mk_markSchema 36 = .ok (.ifCond .lt 17, 3) := by decide +kernel
theorem d_Mk_markSchema_39 : decode b_Mk_markSchema 39 = .ok (.iload_n 1, 1) := by decide +kernel
theorem d_Mk_markSchema_40 : decode b_Mk_markSchema 40 = .ok (.sipush 1000, 3) := by decide +kernel
theorem d_Mk_markSchema_43 : decode b_Mk_markSchema 43 = .ok (.if_icmp .ge 10, 3) := by decide +kernel
theorem d_Mk_markSchema_46 : decode b_Mk_markSchema 46 = .ok (.aload_n 0, 1) := by decide +kernel
theorem d_Mk_markSchema_47 : decode b_Mk_markSchema 47 = .ok (.getfield 15, 3) := by decide +kernel
theorem d_Mk_markSchema_50 : decode b_Mk_markSchema 50 = .ok (.iload_n 1, 1) := by decide +kernel
theorem d_Mk_markSchema_51 : decode b_Mk_markSchema 51 = .ok (.iconst 1, 1) := by decide +kernel
theorem d_Mk_markSchema_52 : decode b_Mk_markSchema 52 = .ok (.bastore, 1) := by decide +kernel
theorem d_Mk_markSchema_53 : decode b_Mk_markSchema 53 = .ok (.iload_n 3, 1) := by decide +kernel
theorem d_Mk_markSchema_54 : decode b_Mk_markSchema 54 = .ok (.ireturn, 1) := by decide +kernel
theorem d_Ck_report_0 : decode b_Ck_report 0 = .ok (.aload_n 0, 1) := by decide +kernel
theorem d_Ck_report_1 : decode b_Ck_report 1 = .ok (.getfield 43, 3) := by decide +kernel
theorem d_Ck_report_4 : decode b_Ck_report 4 = .ok (.ifCond .eq 27, 3) := by decide +kernel
theorem d_Ck_report_7 : decode b_Ck_report 7 = .ok (.iload_n 2, 1) := by decide +kernel
theorem d_Ck_report_8 : decode b_Ck_report 8 = .ok (.aload_n 0, 1) := by decide +kernel
theorem d_Ck_report_9 : decode b_Ck_report 9 = .ok (.getfield 47, 3) := by decide +kernel
theorem d_Ck_report_12 : decode b_Ck_report 12 = .ok (.if_icmp .lt 19, 3) := by decide +kernel
theorem d_Ck_report_15 : decode b_Ck_report 15 = .ok (.iload_n 2, 1) := by decide +kernel
theorem d_Ck_report_16 : decode b_Ck_report 16 = .ok (.aload_n 0, 1) := by decide +kernel
theorem d_Ck_report_17 : decode b_Ck_report 17 = .ok (.getfield 47, 3) := by decide +kernel
theorem d_Ck_report_20 : decode b_Ck_report 20 = .ok (.if_icmp .ne 21, 3) := by decide +kernel
theorem d_Ck_report_23 : decode b_Ck_report 23 = .ok (.iload_n 1, 1) := by decide +kernel
theorem d_Ck_report_24 : decode b_Ck_report 24 = .ok (.aload_n 0, 1) := by decide +kernel
theorem d_Ck_report_25 : decode b_Ck_report 25 = .ok (.getfield 43, 3) := by decide +kernel
theorem d_Ck_report_28 : decode b_Ck_report 28 = .ok (.if_icmp .ge 13, 3) := by decide +kernel
theorem d_Ck_report_31 : decode b_Ck_report 31 = .ok (.aload_n 0, 1) := by decide +kernel
theorem d_Ck_report_32 : decode b_Ck_report 32 = .ok (.iload_n 1, 1) := by decide +kernel
theorem d_Ck_report_33 : decode b_Ck_report 33 = .ok (.putfield 43, 3) := by decide +kernel
theorem d_Ck_report_36 : decode b_Ck_report 36 = .ok (.aload_n 0, 1) := by decide +kernel
theorem d_Ck_report_37 : decode b_Ck_report 37 = .ok (.iload_n 2, 1) := by decide +kernel
theorem d_Ck_report_38 : decode b_Ck_report 38 = .ok (.putfield 47, 3) := by decide +kernel
theorem d_Ck_report_41 : decode b_Ck_report 41 = .ok (.return_, 1) := by decide +kernel
theorem d_Ck_require_0 : decode b_Ck_require 0 = .ok (.iload_n 1, 1) := by decide +kernel
theorem d_Ck_require_1 : decode b_Ck_require 1 = .ok (.ifCond .ne 9, 3) := by decide +kernel
theorem d_Ck_require_4 : decode b_Ck_require 4 = .ok (.aload_n 0, 1) := by decide +kernel
theorem d_Ck_require_5 : decode b_Ck_require 5 = .ok (.iconst 1, 1) := by decide +kernel
theorem d_Ck_require_6 : decode b_Ck_require 6 = .ok (.iload_n 2, 1) := by decide +kernel
theorem d_Ck_require_7 : decode b_Ck_require 7 = .ok (.invokevirtual 81, 3) := by decide +kernel
theorem d_Ck_require_10 : decode b_Ck_require 10 = .ok (.return_, 1) := by decide +kernel
theorem d_Ck_takeSchema_0 : decode b_Ck_takeSchema 0 = .ok (.aload_n 0, 1) := by decide +kernel
theorem d_Ck_takeSchema_1 : decode b_Ck_takeSchema 1 = .ok (.aload_n 0, 1) := by decide +kernel
theorem d_Ck_takeSchema_2 : decode b_Ck_takeSchema 2 = .ok (.getfield 26, 3) := by decide +kernel
theorem d_Ck_takeSchema_5 : decode b_Ck_takeSchema 5 = .ok (.iload_n 1, 1) := by decide +kernel
theorem d_Ck_takeSchema_6 : decode b_Ck_takeSchema 6 = .ok (.invokevirtual 85, 3) := by decide +kernel
theorem d_Ck_takeSchema_9 : decode b_Ck_takeSchema 9 = .ok (.iload_n 1, 1) := by decide +kernel
theorem d_Ck_takeSchema_10 : decode b_Ck_takeSchema 10 = .ok (.invokevirtual 88, 3) := by decide +kernel
theorem d_Ck_takeSchema_13 : decode b_Ck_takeSchema 13 = .ok (.return_, 1) := by decide +kernel
theorem d_Mk_isSchema_0 : decode b_Mk_isSchema 0 = .ok (.iload_n 1, 1) := by decide +kernel
theorem d_Mk_isSchema_1 : decode b_Mk_isSchema 1 = .ok (.ifCond .lt 23, 3) := by decide +kernel
theorem d_Mk_isSchema_4 : decode b_Mk_isSchema 4 = .ok (.iload_n 1, 1) := by decide +kernel
theorem d_Mk_isSchema_5 : decode b_Mk_isSchema 5 = .ok (.sipush 1000, 3) := by decide +kernel
theorem d_Mk_isSchema_8 : decode b_Mk_isSchema 8 = .ok (.if_icmp .ge 16, 3) := by decide +kernel
theorem d_Mk_isSchema_11 : decode b_Mk_isSchema 11 = .ok (.aload_n 0, 1) := by decide +kernel
theorem d_Mk_isSchema_12 : decode b_Mk_isSchema 12 = .ok (.getfield 15, 3) := by decide +kernel
theorem d_Mk_isSchema_15 : decode b_Mk_isSchema 15 = .ok (.iload_n 1, 1) := by decide +kernel
theorem d_Mk_isSchema_16 : decode b_Mk_isSchema 16 = .ok (.baload, 1) := by decide +kernel
theorem d_Mk_isSchema_17 : decode b_Mk_isSchema 17 = .ok (.ifCond .eq 7, 3) := by decide +kernel
theorem d_Mk_isSchema_20 : decode b_Mk_isSchema 20 = .ok (.iconst 1, 1) := by decide +kernel
theorem d_Mk_isSchema_21 : decode b_Mk_isSchema 21 = .ok (.goto 4, 3) := by decide +kernel
theorem d_Mk_isSchema_24 : decode b_Mk_isSchema 24 = .ok (.iconst 0, 1) := by decide +kernel
theorem d_Mk_isSchema_25 : decode b_Mk_isSchema 25 = .ok (.ireturn, 1) := by decide +kernel
theorem d_Tx_size_0 : decode b_Tx_size 0 = .ok (.iload_n 1, 1) := by decide +kernel
theorem d_Tx_size_1 : decode b_Tx_size 1 = .ok (.ifCond .lt 20, 3) := by decide +kernel
theorem d_Tx_size_4 : decode b_Tx_size 4 = .ok (.iload_n 1, 1) := by decide +kernel
theorem d_Tx_size_5 : decode b_Tx_size 5 = .ok (.aload_n 0, 1) := by decide +kernel
theorem d_Tx_size_6 : decode b_Tx_size 6 = .ok (.getfield 43, 3) := by decide +kernel
theorem d_Tx_size_9 : decode b_Tx_size 9 = .ok (.if_icmp .ge 12, 3) := by decide +kernel
theorem d_Tx_size_12 : decode b_Tx_size 12 = .ok (.aload_n 0, 1) := by decide +kernel
theorem d_Tx_size_13 : decode b_Tx_size 13 = .ok (.getfield 18, 3) := by decide +kernel
theorem d_Tx_size_16 : decode b_Tx_size 16 = .ok (.iload_n 1, 1) := by decide +kernel
theorem d_Tx_size_17 : decode b_Tx_size 17 = .ok (.iaload, 1) := by decide +kernel
theorem d_Tx_size_18 : decode b_Tx_size 18 = .ok (.goto 4, 3) := by decide +kernel
theorem d_Tx_size_21 : decode b_Tx_size 21 = .ok (.iconst 0, 1) := by decide +kernel
theorem d_Tx_size_22 : decode b_Tx_size 22 = .ok (.ireturn, 1) := by decide +kernel
theorem d_Tx_nextChild_0 : decode b_Tx_nextChild 0 = .ok (.iload_n 1, 1) := by decide +kernel
theorem d_Tx_nextChild_1 : decode b_Tx_nextChild 1 = .ok (.ifCond .lt 20, 3) := by decide +kernel
theorem d_Tx_nextChild_4 : decode b_Tx_nextChild 4 = .ok (.iload_n 1, 1) := by decide +kernel
theorem d_Tx_nextChild_5 : decode b_Tx_nextChild 5 = .ok (.aload_n 0, 1) := by decide +kernel
theorem d_Tx_nextChild_6 : decode b_Tx_nextChild 6 = .ok (.getfield 43, 3) := by decide +kernel
theorem d_Tx_nextChild_9 : decode b_Tx_nextChild 9 = .ok (.if_icmp .ge 12, 3) := by decide +kernel
theorem d_Tx_nextChild_12 : decode b_Tx_nextChild 12 = .ok (.aload_n 0, 1) := by decide +kernel
theorem d_Tx_nextChild_13 : decode b_Tx_nextChild 13 = .ok (.getfield 21, 3) := by decide +kernel
theorem d_Tx_nextChild_16 : decode b_Tx_nextChild 16 = .ok (.iload_n 1, 1) := by decide +kernel
theorem d_Tx_nextChild_17 : decode b_Tx_nextChild 17 = .ok (.iaload, 1) := by decide +kernel
theorem d_Tx_nextChild_18 : decode b_Tx_nextChild 18 = .ok (.goto 4, 3) := by decide +kernel
theorem d_Tx_nextChild_21 : decode b_Tx_nextChild 21 = .ok (.iconst (-1), 1) := by decide +kernel
theorem d_Tx_nextChild_22 : decode b_Tx_nextChild 22 = .ok (.istore_n 2, 1) := by decide +kernel
theorem d_Tx_nextChild_23 : decode b_Tx_nextChild 23 = .ok (.iload_n 2, 1) := by decide +kernel
theorem d_Tx_nextChild_24 : decode b_Tx_nextChild 24 = .ok (.ifCond .lt 28, 3) := by decide +kernel
theorem d_Tx_nextChild_27 : decode b_Tx_nextChild 27 = .ok (.iload_n 2, 1) := by decide +kernel
theorem d_Tx_nextChild_28 : decode b_Tx_nextChild 28 = .ok (.aload_n 0, 1) := by decide +kernel
theorem d_Tx_nextChild_29 : decode b_Tx_nextChild 29 = .ok (.getfield 43, 3) := by decide +kernel
theorem d_Tx_nextChild_32 : decode b_Tx_nextChild 32 = .ok (.if_icmp .ge 20, 3) := by decide +kernel
theorem d_Tx_nextChild_35 : decode b_Tx_nextChild 35 = .ok (.aload_n 0, 1) := by decide +kernel
theorem d_Tx_nextChild_36 : decode b_Tx_nextChild 36 = .ok (.getfield 33, 3) := by decide +kernel
theorem d_Tx_nextChild_39 : decode b_Tx_nextChild 39 = .ok (.iload_n 1, 1) := by decide +kernel
theorem d_Tx_nextChild_40 : decode b_Tx_nextChild 40 = .ok (.iaload, 1) := by decide +kernel
theorem d_Tx_nextChild_41 : decode b_Tx_nextChild 41 = .ok (.iconst 1, 1) := by decide +kernel
theorem d_Tx_nextChild_42 : decode b_Tx_nextChild 42 = .ok (.iadd, 1) := by decide +kernel
theorem d_Tx_nextChild_43 : decode b_Tx_nextChild 43 = .ok (.aload_n 0, 1) := by decide +kernel
theorem d_Tx_nextChild_44 : decode b_Tx_nextChild 44 = .ok (.getfield 18, 3) := by decide +kernel
theorem d_Tx_nextChild_47 : decode b_Tx_nextChild 47 = .ok (.iload_n 2, 1) := by decide +kernel
theorem d_Tx_nextChild_48 : decode b_Tx_nextChild 48 = .ok (.iaload, 1) := by decide +kernel
theorem d_Tx_nextChild_49 : decode b_Tx_nextChild 49 = .ok (.if_icmp .lt 5, 3) := by decide +kernel
theorem d_Tx_nextChild_52 : decode b_Tx_nextChild 52 = .ok (.iconst (-1), 1) := by decide +kernel
theorem d_Tx_nextChild_53 : decode b_Tx_nextChild 53 = .ok (.ireturn, 1) := by decide +kernel
theorem d_Tx_nextChild_54 : decode b_Tx_nextChild 54 = .ok (.aload_n 0, 1) := by decide +kernel
theorem d_Tx_nextChild_55 : decode b_Tx_nextChild 55 = .ok (.getfield 9, 3) := by decide +kernel
theorem d_Tx_nextChild_58 : decode b_Tx_nextChild 58 = .ok (.iload_n 2, 1) := by decide +kernel
theorem d_Tx_nextChild_59 : decode b_Tx_nextChild 59 = .ok (.iaload, 1) := by decide +kernel
theorem d_Tx_nextChild_60 : decode b_Tx_nextChild 60 = .ok (.iconst 5, 1) := by decide +kernel
theorem d_Tx_nextChild_61 : decode b_Tx_nextChild 61 = .ok (.if_icmp .ne 12, 3) := by decide +kernel
theorem d_Tx_nextChild_64 : decode b_Tx_nextChild 64 = .ok (.aload_n 0, 1) := by decide +kernel
theorem d_Tx_nextChild_65 : decode b_Tx_nextChild 65 = .ok (.getfield 30, 3) := by decide +kernel
theorem d_Tx_nextChild_68 : decode b_Tx_nextChild 68 = .ok (.iload_n 1, 1) := by decide +kernel
theorem d_Tx_nextChild_69 : decode b_Tx_nextChild 69 = .ok (.iaload, 1) := by decide +kernel
theorem d_Tx_nextChild_70 : decode b_Tx_nextChild 70 = .ok (.goto 11, 3) := by decide +kernel
theorem d_Tx_nextChild_73 : decode b_Tx_nextChild 73 = .ok (.aload_n 0, 1) := by decide +kernel
theorem d_Tx_nextChild_74 : decode b_Tx_nextChild 74 = .ok (.getfield 30, 3) := by decide +kernel
theorem d_Tx_nextChild_77 : decode b_Tx_nextChild 77 = .ok (.iload_n 1, 1) := by decide +kernel
theorem d_Tx_nextChild_78 : decode b_Tx_nextChild 78 = .ok (.iaload, 1) := by decide +kernel
theorem d_Tx_nextChild_79 : decode b_Tx_nextChild 79 = .ok (.iconst 1, 1) := by decide +kernel
theorem d_Tx_nextChild_80 : decode b_Tx_nextChild 80 = .ok (.iadd, 1) := by decide +kernel
theorem d_Tx_nextChild_81 : decode b_Tx_nextChild 81 = .ok (.ireturn, 1) := by decide +kernel
theorem d_Tx_firstChild_0 : decode b_Tx_firstChild 0 = .ok (.iload_n 1, 1) := by decide +kernel
theorem d_Tx_firstChild_1 : decode b_Tx_firstChild 1 = .ok (.ifCond .lt 30, 3) := by decide +kernel
theorem d_Tx_firstChild_4 : decode b_Tx_firstChild 4 = .ok (.iload_n 1, 1) := by decide +kernel
theorem d_Tx_firstChild_5 : decode b_Tx_firstChild 5 = .ok (.aload_n 0, 1) := by decide +kernel
theorem d_Tx_firstChild_6 : decode b_Tx_firstChild 6 = .ok (.getfield 43, 3) := by decide +kernel
theorem d_Tx_firstChild_9 : decode b_Tx_firstChild 9 = .ok (.if_icmp .ge 22, 3) := by decide +kernel
theorem d_Tx_firstChild_12 : decode b_Tx_firstChild 12 = .ok (.aload_n 0, 1) := by decide +kernel
theorem d_Tx_firstChild_13 : decode b_Tx_firstChild 13 = .ok (.getfield 18, 3) := by decide +kernel
theorem d_Tx_firstChild_16 : decode b_Tx_firstChild 16 = .ok (.iload_n 1, 1) := by decide +kernel
theorem d_Tx_firstChild_17 : decode b_Tx_firstChild 17 = .ok (.iaload, 1) := by decide +kernel
theorem d_Tx_firstChild_18 : decode b_Tx_firstChild 18 = .ok (.ifCond .eq 13, 3) := by decide +kernel
theorem d_Tx_firstChild_21 : decode b_Tx_firstChild 21 = .ok (.aload_n 0, 1) := by decide +kernel
theorem d_Tx_firstChild_22 : decode b_Tx_firstChild 22 = .ok (.getfield 9, 3) := by decide +kernel
theorem d_Tx_firstChild_25 : decode b_Tx_firstChild 25 = .ok (.iload_n 1, 1) := by decide +kernel
theorem d_Tx_firstChild_26 : decode b_Tx_firstChild 26 = .ok (.iaload, 1) := by decide +kernel
theorem d_Tx_firstChild_27 : decode b_Tx_firstChild 27 = .ok (.iconst 5, 1) := by decide +kernel
theorem d_Tx_firstChild_28 : decode b_Tx_firstChild 28 = .ok (.if_icmp .ge 5, 3) := by decide +kernel
theorem d_Tx_firstChild_31 : decode b_Tx_firstChild 31 = .ok (.iconst (-1), 1) := by decide +kernel
theorem d_Tx_firstChild_32 : decode b_Tx_firstChild 32 = .ok (.ireturn, 1) := by decide +kernel
theorem d_Tx_firstChild_33 : decode b_Tx_firstChild 33 = .ok (.aload_n 0, 1) := by decide +kernel
theorem d_Tx_firstChild_34 : decode b_Tx_firstChild 34 = .ok (.getfield 9, 3) := by decide +kernel
theorem d_Tx_firstChild_37 : decode b_Tx_firstChild 37 = .ok (.iload_n 1, 1) := by decide +kernel
theorem d_Tx_firstChild_38 : decode b_Tx_firstChild 38 = .ok (.iaload, 1) := by decide +kernel
theorem d_Tx_firstChild_39 : decode b_Tx_firstChild 39 = .ok (.iconst 5, 1) := by decide +kernel
theorem d_Tx_firstChild_40 : decode b_Tx_firstChild 40 = .ok (.if_icmp .ne 9, 3) := by decide +kernel
theorem d_Tx_firstChild_43 : decode b_Tx_firstChild 43 = .ok (.iload_n 1, 1) := by decide +kernel
theorem d_Tx_firstChild_44 : decode b_Tx_firstChild 44 = .ok (.iconst 1, 1) := by decide +kernel
theorem d_Tx_firstChild_45 : decode b_Tx_firstChild 45 = .ok (.iadd, 1) := by decide +kernel
theorem d_Tx_firstChild_46 : decode b_Tx_firstChild 46 = .ok (.goto 6, 3) := by decide +kernel
theorem d_Tx_firstChild_49 : decode b_Tx_firstChild 49 = .ok (.iload_n 1, 1) := by decide +kernel
theorem d_Tx_firstChild_50 : decode b_Tx_firstChild 50 = .ok (.iconst 2, 1) := by decide +kernel
theorem d_Tx_firstChild_51 : decode b_Tx_firstChild 51 = .ok (.iadd, 1) := by decide +kernel
theorem d_Tx_firstChild_52 : decode b_Tx_firstChild 52 = .ok (.ireturn, 1) := by decide +kernel
theorem d_Ck_takeSchemas_0 : decode b_Ck_takeSchemas 0 = .ok (.iload_n 2, 1) := by decide +kernel
theorem d_Ck_takeSchemas_1 : decode b_Ck_takeSchemas 1 = .ok (.ifCond .eq 14, 3) := by decide +kernel
theorem d_Ck_takeSchemas_4 : decode b_Ck_takeSchemas 4 = .ok (.aload_n 0, 1) := by decide +kernel
theorem d_Ck_takeSchemas_5 : decode b_Ck_takeSchemas 5 = .ok (.getfield 22, 3) := by decide +kernel
theorem d_Ck_takeSchemas_8 : decode b_Ck_takeSchemas 8 = .ok (.iload_n 1, 1) := by decide +kernel
theorem d_Ck_takeSchemas_9 : decode b_Ck_takeSchemas 9 = .ok (.invokevirtual 92, 3) := by decide +kernel
theorem d_Ck_takeSchemas_12 : decode b_Ck_takeSchemas 12 = .ok (.goto 4, 3) := by decide +kernel
theorem d_Ck_takeSchemas_15 : decode b_Ck_takeSchemas 15 = .ok (.iconst (-1), 1) := by decide +kernel
theorem d_Ck_takeSchemas_16 : decode b_Ck_takeSchemas 16 = .ok (.istore_n 3, 1) := by decide +kernel
theorem d_Ck_takeSchemas_17 : decode b_Ck_takeSchemas 17 = .ok (.iconst 0, 1) := by decide +kernel
theorem d_Ck_takeSchemas_18 : decode b_Ck_takeSchemas 18 = .ok (.istore 4, 2) := by decide +kernel
theorem d_Ck_takeSchemas_20 : decode b_Ck_takeSchemas 20 = .ok (.iload 4, 2) := by decide +kernel
theorem d_Ck_takeSchemas_22 : decode b_Ck_takeSchemas 22 = .ok (.aload_n 0, 1) := by decide +kernel
theorem d_Ck_takeSchemas_23 : decode b_Ck_takeSchemas 23 = .ok (.getfield 22, 3) := by decide +kernel
theorem d_Ck_takeSchemas_26 : decode b_Ck_takeSchemas 26 = .ok (.iload_n 1, 1) := by decide +kernel
theorem d_Ck_takeSchemas_27 : decode b_Ck_takeSchemas 27 = .ok (.invokevirtual 96, 3) := by decide +kernel
theorem d_Ck_takeSchemas_30 : decode b_Ck_takeSchemas 30 = .ok (.if_icmp .ge 28, 3) := by decide +kernel
theorem d_Ck_takeSchemas_33 : decode b_Ck_takeSchemas 33 = .ok (.iload_n 3, 1) := by decide +kernel
theorem d_Ck_takeSchemas_34 : decode b_Ck_takeSchemas 34 = .ok (.iconst (-1), 1) := by decide +kernel
theorem d_Ck_takeSchemas_35 : decode b_Ck_takeSchemas 35 = .ok (.if_icmp .eq 23, 3) := by decide +kernel
theorem d_Ck_takeSchemas_38 : decode b_Ck_takeSchemas 38 = .ok (.aload_n 0, 1) := by decide +kernel
theorem d_Ck_takeSchemas_39 : decode b_Ck_takeSchemas 39 = .ok (.iload_n 3, 1) := by decide +kernel
theorem d_Ck_takeSchemas_40 : decode b_Ck_takeSchemas 40 = .ok (.invokevirtual 55, 3) := by decide +kernel
theorem d_Ck_takeSchemas_43 : decode b_Ck_takeSchemas 43 = .ok (.aload_n 0, 1) := by decide +kernel
theorem d_Ck_takeSchemas_44 : decode b_Ck_takeSchemas 44 = .ok (.getfield 22, 3) := by decide +kernel
theorem d_Ck_takeSchemas_47 : decode b_Ck_takeSchemas 47 = .ok (.iload_n 3, 1) := by decide +kernel
theorem d_Ck_takeSchemas_48 : decode b_Ck_takeSchemas 48 = .ok (.invokevirtual 107, 3) := by decide +kernel
theorem d_Ck_takeSchemas_51 : decode b_Ck_takeSchemas 51 = .ok (.istore_n 3, 1) := by decide +kernel
theorem d_Ck_takeSchemas_52 : decode b_Ck_takeSchemas 52 = .ok (.iinc 4 1, 3) := by decide +kernel
theorem d_Ck_takeSchemas_55 : decode b_Ck_takeSchemas 55 = .ok (.goto (-35), 3) := by decide +kernel
theorem d_Ck_takeSchemas_58 : decode b_Ck_takeSchemas 58 = .ok (.return_, 1) := by decide +kernel
theorem d_Pg_clear_0 : decode b_Pg_clear 0 = .ok (.aload_n 0, 1) := by decide +kernel
theorem d_Pg_clear_1 : decode b_Pg_clear 1 = .ok (.iconst 0, 1) := by decide +kernel
theorem d_Pg_clear_2 : decode b_Pg_clear 2 = .ok (.putfield 33, 3) := by decide +kernel
theorem d_Pg_clear_5 : decode b_Pg_clear 5 = .ok (.aload_n 0, 1) := by decide +kernel
theorem d_Pg_clear_6 : decode b_Pg_clear 6 = .ok (.iconst 0, 1) := by decide +kernel
theorem d_Pg_clear_7 : decode b_Pg_clear 7 = .ok (.putfield 37, 3) := by decide +kernel
theorem d_Pg_clear_10 : decode b_Pg_clear 10 = .ok (.return_, 1) := by decide +kernel
theorem d_Pt_beginBlock_0 : decode b_Pt_beginBlock 0 = .ok (.aload_n 0, 1) := by decide +kernel
theorem d_Pt_beginBlock_1 : decode b_Pt_beginBlock 1 = .ok (.getfield 15, 3) := by decide +kernel
theorem d_Pt_beginBlock_4 : decode b_Pt_beginBlock 4 = .ok (.aload_n 0, 1) := by decide +kernel
theorem d_Pt_beginBlock_5 : decode b_Pt_beginBlock 5 = .ok (.getfield 101, 3) := by decide +kernel
theorem d_Pt_beginBlock_8 : decode b_Pt_beginBlock 8 = .ok (.aload_n 0, 1) := by decide +kernel
theorem d_Pt_beginBlock_9 : decode b_Pt_beginBlock 9 = .ok (.getfield 27, 3) := by decide +kernel
theorem d_Pt_beginBlock_12 : decode b_Pt_beginBlock 12 = .ok (.getfield 110, 3) := by decide +kernel
theorem d_Pt_beginBlock_15 : decode b_Pt_beginBlock 15 = .ok (.iastore, 1) := by decide +kernel
theorem d_Pt_beginBlock_16 : decode b_Pt_beginBlock 16 = .ok (.aload_n 0, 1) := by decide +kernel
theorem d_Pt_beginBlock_17 : decode b_Pt_beginBlock 17 = .ok (.getfield 18, 3) := by decide +kernel
theorem d_Pt_beginBlock_20 : decode b_Pt_beginBlock 20 = .ok (.aload_n 0, 1) := by decide +kernel
theorem d_Pt_beginBlock_21 : decode b_Pt_beginBlock 21 = .ok (.getfield 101, 3) := by decide +kernel
theorem d_Pt_beginBlock_24 : decode b_Pt_beginBlock 24 = .ok (.aload_n 0, 1) := by decide +kernel
theorem d_Pt_beginBlock_25 : decode b_Pt_beginBlock 25 = .ok (.getfield 27, 3) := by decide +kernel
theorem d_Pt_beginBlock_28 : decode b_Pt_beginBlock 28 = .ok (.getfield 110, 3) := by decide +kernel
theorem d_Pt_beginBlock_31 : decode b_Pt_beginBlock 31 = .ok (.iastore, 1) := by decide +kernel
theorem d_Pt_beginBlock_32 : decode b_Pt_beginBlock 32 = .ok (.aload_n 0, 1) := by decide +kernel
theorem d_Pt_beginBlock_33 : decode b_Pt_beginBlock 33 = .ok (.getfield 21, 3) := by decide +kernel
theorem d_Pt_beginBlock_36 : decode b_Pt_beginBlock 36 = .ok (.aload_n 0, 1) := by decide +kernel
theorem d_Pt_beginBlock_37 : decode b_Pt_beginBlock 37 = .ok (.getfield 101, 3) := by decide +kernel
theorem d_Pt_beginBlock_40 : decode b_Pt_beginBlock 40 = .ok (.iconst (-1), 1) := by decide +kernel
theorem d_Pt_beginBlock_41 : decode b_Pt_beginBlock 41 = .ok (.iastore, 1) := by decide +kernel
theorem d_Pt_beginBlock_42 : decode b_Pt_beginBlock 42 = .ok (.aload_n 0, 1) := by decide +kernel
theorem d_Pt_beginBlock_43 : decode b_Pt_beginBlock 43 = .ok (.getfield 24, 3) := by decide +kernel
theorem d_Pt_beginBlock_46 : decode b_Pt_beginBlock 46 = .ok (.aload_n 0, 1) := by decide +kernel
theorem d_Pt_beginBlock_47 : decode b_Pt_beginBlock 47 = .ok (.getfield 101, 3) := by decide +kernel
theorem d_Pt_beginBlock_50 : decode b_Pt_beginBlock 50 = .ok (.aload_n 0, 1) := by decide +kernel
theorem d_Pt_beginBlock_51 : decode b_Pt_beginBlock 51 = .ok (.getfield 98, 3) := by decide +kernel
theorem d_Pt_beginBlock_54 : decode b_Pt_beginBlock 54 = .ok (.iastore, 1) := by decide +kernel
theorem d_Pt_beginBlock_55 : decode b_Pt_beginBlock 55 = .ok (.return_, 1) := by decide +kernel
theorem d_Pt_peek_0 : decode b_Pt_peek 0 = .ok (.aload_n 0, 1) := by decide +kernel
theorem d_Pt_peek_1 : decode b_Pt_peek 1 = .ok (.getfield 53, 3) := by decide +kernel
theorem d_Pt_peek_4 : decode b_Pt_peek 4 = .ok (.iload_n 1, 1) := by decide +kernel
theorem d_Pt_peek_5 : decode b_Pt_peek 5 = .ok (.iadd, 1) := by decide +kernel
theorem d_Pt_peek_6 : decode b_Pt_peek 6 = .ok (.istore_n 2, 1) := by decide +kernel
theorem d_Pt_peek_7 : decode b_Pt_peek 7 = .ok (.iload_n 2, 1) := by decide +kernel
theorem d_Pt_peek_8 : decode b_Pt_peek 8 = .ok (.ifCond .lt 20, 3) := by decide +kernel
theorem d_Pt_peek_11 : decode b_Pt_peek 11 = .ok (.iload_n 2, 1) := by decide +kernel
theorem d_Pt_peek_12 : decode b_Pt_peek 12 = .ok (.aload_n 0, 1) := by decide +kernel
theorem d_Pt_peek_13 : decode b_Pt_peek 13 = .ok (.getfield 50, 3) := by decide +kernel
theorem d_Pt_peek_16 : decode b_Pt_peek 16 = .ok (.if_icmp .ge 12, 3) := by decide +kernel
theorem d_Pt_peek_19 : decode b_Pt_peek 19 = .ok (.aload_n 0, 1) := by decide +kernel
theorem d_Pt_peek_20 : decode b_Pt_peek 20 = .ok (.getfield 11, 3) := by decide +kernel
theorem d_Pt_peek_23 : decode b_Pt_peek 23 = .ok (.iload_n 2, 1) := by decide +kernel
theorem d_Pt_peek_24 : decode b_Pt_peek 24 = .ok (.iaload, 1) := by decide +kernel
theorem d_Pt_peek_25 : decode b_Pt_peek 25 = .ok (.goto 4, 3) := by decide +kernel
theorem d_Pt_peek_28 : decode b_Pt_peek 28 = .ok (.iconst (-1), 1) := by decide +kernel
theorem d_Pt_peek_29 : decode b_Pt_peek 29 = .ok (.ireturn, 1) := by decide +kernel
theorem d_Pg_argument_0 : decode b_Pg_argument 0 = .ok (.iload_n 1, 1) := by decide +kernel
theorem d_Pg_argument_1 : decode b_Pg_argument 1 = .ok (.ifCond .lt 19, 3) := by decide +kernel
theorem d_Pg_argument_4 : decode b_Pg_argument 4 = .ok (.iload_n 1, 1) := by decide +kernel
theorem d_Pg_argument_5 : decode b_Pg_argument 5 = .ok (.sipush 1300, 3) := by decide +kernel
theorem d_Pg_argument_8 : decode b_Pg_argument 8 = .ok (.if_icmp .ge 12, 3) := by decide +kernel
theorem d_Pg_argument_11 : decode b_Pg_argument 11 = .ok (.aload_n 0, 1) := by decide +kernel
theorem d_Pg_argument_12 : decode b_Pg_argument 12 = .ok (.getfield 15, 3) := by decide +kernel
theorem d_Pg_argument_15 : decode b_Pg_argument 15 = .ok (.iload_n 1, 1) := by decide +kernel
theorem d_Pg_argument_16 : decode b_Pg_argument 16 = .ok (.iaload, 1) := by decide +kernel
theorem d_Pg_argument_17 : decode b_Pg_argument 17 = .ok (.goto 4, 3) := by decide +kernel
theorem d_Pg_argument_20 : decode b_Pg_argument 20 = .ok (.iconst (-1), 1) := by decide +kernel
theorem d_Pg_argument_21 : decode b_Pg_argument 21 = .ok (.ireturn, 1) := by decide +kernel
theorem d_Pg_setArgument_0 : decode b_Pg_setArgument 0 = .ok (.iload_n 1, 1) := by decide +kernel
theorem d_Pg_setArgument_1 : decode b_Pg_setArgument 1 = .ok (.ifCond .lt 17, 3) := by decide +kernel
theorem d_Pg_setArgument_4 : decode b_Pg_setArgument 4 = .ok (.iload_n 1, 1) := by decide +kernel
theorem d_Pg_setArgument_5 : decode b_Pg_setArgument 5 = .ok (.sipush 1300, 3) := by decide +kernel
theorem d_Pg_setArgument_8 : decode b_Pg_setArgument 8 = .ok (.if_icmp .ge 10, 3) := by decide +kernel
theorem d_Pg_setArgument_11 : decode b_Pg_setArgument 11 = .ok (.aload_n 0, 1) := by decide +kernel
theorem d_Pg_setArgument_12 : decode b_Pg_setArgument 12 = .ok (.getfield 15, 3) := by decide +kernel
theorem d_Pg_setArgument_15 : decode b_Pg_setArgument 15 = .ok (.iload_n 1, 1) := by decide +kernel
theorem d_Pg_setArgument_16 : decode b_Pg_setArgument 16 = .ok (.iload_n 2, 1) := by decide +kernel
theorem d_Pg_setArgument_17 : decode b_Pg_setArgument 17 = .ok (.iastore, 1) := by decide +kernel
theorem d_Pg_setArgument_18 : decode b_Pg_setArgument 18 = .ok (.return_, 1) := by decide +kernel
theorem d_Pt_endBlock_0 : decode b_Pt_endBlock 0 = .ok (.aload_n 0, 1) := by decide +kernel
theorem d_Pt_endBlock_1 : decode b_Pt_endBlock 1 = .ok (.getfield 21, 3) := by decide +kernel
theorem d_Pt_endBlock_4 : decode b_Pt_endBlock 4 = .ok (.aload_n 0, 1) := by decide +kernel
theorem d_Pt_endBlock_5 : decode b_Pt_endBlock 5 = .ok (.getfield 101, 3) := by decide +kernel
theorem d_Pt_endBlock_8 : decode b_Pt_endBlock 8 = .ok (.iaload, 1) := by decide +kernel
theorem d_Pt_endBlock_9 : decode b_Pt_endBlock 9 = .ok (.istore_n 1, 1) := by decide +kernel
theorem d_Pt_endBlock_10 : decode b_Pt_endBlock 10 = .ok (.iconst 0, 1) := by decide +kernel
theorem d_Pt_endBlock_11 : decode b_Pt_endBlock 11 = .ok (.istore_n 2, 1) := by decide +kernel
theorem d_Pt_endBlock_12 : decode b_Pt_endBlock 12 = .ok (.iload_n 2, 1) := by decide +kernel
theorem d_Pt_endBlock_13 : decode b_Pt_endBlock 13 = .ok (.sipush 1300, 3) := by decide +kernel
theorem d_Pt_endBlock_16 : decode b_Pt_endBlock 16 = .ok (.if_icmp .ge 42, 3) := by decide +kernel
theorem d_Pt_endBlock_19 : decode b_Pt_endBlock 19 = .ok (.iload_n 1, 1) := by decide +kernel
theorem d_Pt_endBlock_20 : decode b_Pt_endBlock 20 = .ok (.iconst (-1), 1) := by decide +kernel
theorem d_Pt_endBlock_21 : decode b_Pt_endBlock 21 = .ok (.if_icmp .eq 37, 3) := by decide +kernel
theorem d_Pt_endBlock_24 : decode b_Pt_endBlock 24 = .ok (.aload_n 0, 1) := by decide +kernel
theorem d_Pt_endBlock_25 : decode b_Pt_endBlock 25 = .ok (.getfield 27, 3) := by decide +kernel
theorem d_Pt_endBlock_28 : decode b_Pt_endBlock 28 = .ok (.iload_n 1, 1) := by decide +kernel
theorem d_Pt_endBlock_29 : decode b_Pt_endBlock 29 = .ok (.invokevirtual 158, 3) := by decide +kernel
theorem d_Pt_endBlock_32 : decode b_Pt_endBlock 32 = .ok (.istore_n 3, 1) := by decide +kernel
theorem d_Pt_endBlock_33 : decode b_Pt_endBlock 33 = .ok (.aload_n 0, 1) := by decide +kernel
theorem d_Pt_endBlock_34 : decode b_Pt_endBlock 34 = .ok (.getfield 27, 3) := by decide +kernel
theorem d_Pt_endBlock_37 : decode b_Pt_endBlock 37 = .ok (.iload_n 1, 1) := by decide +kernel
theorem d_Pt_endBlock_38 : decode b_Pt_endBlock 38 = .ok (.aload_n 0, 1) := by decide +kernel
theorem d_Pt_endBlock_39 : decode b_Pt_endBlock 39 = .ok (.getfield 27, 3) := by decide +kernel
theorem d_Pt_endBlock_42 : decode b_Pt_endBlock 42 = .ok (.getfield 110, 3) := by decide +kernel
theorem d_Pt_endBlock_45 : decode b_Pt_endBlock 45 = .ok (.iload_n 1, 1) := by decide +kernel
theorem d_Pt_endBlock_46 : decode b_Pt_endBlock 46 = .ok (.isub, 1) := by decide +kernel
theorem d_Pt_endBlock_47 : decode b_Pt_endBlock 47 = .ok (.invokevirtual 161, 3) := by decide +kernel
theorem d_Pt_endBlock_50 : decode b_Pt_endBlock 50 = .ok (.iload_n 3, 1) := by decide +kernel
theorem d_Pt_endBlock_51 : decode b_Pt_endBlock 51 = .ok (.istore_n 1, 1) := by decide +kernel
theorem d_Pt_endBlock_52 : decode b_Pt_endBlock 52 = .ok (.iinc 2 1, 3) := by decide +kernel
theorem d_Pt_endBlock_55 : decode b_Pt_endBlock 55 = .ok (.goto (-43), 3) := by decide +kernel
theorem d_Pt_endBlock_58 : decode b_Pt_endBlock 58 = .ok (.return_, 1) := by decide +kernel
theorem d_Pt_openGroup_0 : decode b_Pt_openGroup 0 = .ok (.aload_n 0, 1) := by decide +kernel
theorem d_Pt_openGroup_1 : decode b_Pt_openGroup 1 = .ok (.getfield 101, 3) := by decide +kernel
theorem d_Pt_openGroup_4 : decode b_Pt_openGroup 4 = .ok (.bipush 30, 2) := by decide +kernel
theorem d_Pt_openGroup_6 : decode b_Pt_openGroup 6 = .ok (.if_icmp .lt 5, 3) := by decide +kernel
theorem d_Pt_openGroup_9 : decode b_Pt_openGroup 9 = .ok (.iconst 0, 1) := by decide +kernel
theorem d_Pt_openGroup_10 : decode b_Pt_openGroup 10 = .ok (.ireturn, 1) := by decide +kernel
theorem d_Pt_openGroup_11 : decode b_Pt_openGroup 11 = .ok (.aload_n 0, 1) := by decide +kernel
theorem d_Pt_openGroup_12 : decode b_Pt_openGroup 12 = .ok (.iconst 0, 1) := by decide +kernel
theorem d_Pt_openGroup_13 : decode b_Pt_openGroup 13 = .ok (.invokevirtual 107, 3) := by decide +kernel
theorem d_Pt_openGroup_16 : decode b_Pt_openGroup 16 = .ok (.bipush (-63), 2) := by decide +kernel
theorem d_Pt_openGroup_18 : decode b_Pt_openGroup 18 = .ok (.if_icmp .ne 25, 3) := by decide +kernel
theorem d_Pt_openGroup_21 : decode b_Pt_openGroup 21 = .ok (.aload_n 0, 1) := by decide +kernel
theorem d_Pt_openGroup_22 : decode b_Pt_openGroup 22 = .ok (.iconst 1, 1) := by decide +kernel
theorem d_Pt_openGroup_23 : decode b_Pt_openGroup 23 = .ok (.invokevirtual 107, 3) := by decide +kernel
theorem d_Pt_openGroup_26 : decode b_Pt_openGroup 26 = .ok (.bipush 58, 2) := by decide +kernel
theorem d_Pt_openGroup_28 : decode b_Pt_openGroup 28 = .ok (.if_icmp .eq 5, 3) := by decide +kernel
theorem d_Pt_openGroup_31 : decode b_Pt_openGroup 31 = .ok (.iconst 0, 1) := by decide +kernel
theorem d_Pt_openGroup_32 : decode b_Pt_openGroup 32 = .ok (.ireturn, 1) := by decide +kernel
theorem d_Pt_openGroup_33 : decode b_Pt_openGroup 33 = .ok (.aload_n 0, 1) := by decide +kernel
theorem d_Pt_openGroup_34 : decode b_Pt_openGroup 34 = .ok (.dup, 1) := by decide +kernel
theorem d_Pt_openGroup_35 : decode b_Pt_openGroup 35 = .ok (.getfield 53, 3) := by decide +kernel
theorem d_Pt_openGroup_38 : decode b_Pt_openGroup 38 = .ok (.iconst 2, 1) := by decide +kernel
theorem d_Pt_openGroup_39 : decode b_Pt_openGroup 39 = .ok (.iadd, 1) := by decide +kernel
theorem d_Pt_openGroup_40 : decode b_Pt_openGroup 40 = .ok (.putfield 53, 3) := by decide +kernel
theorem d_Pt_openGroup_43 : decode b_Pt_openGroup 43 = .ok (.aload_n 0, 1) := by decide +kernel
theorem d_Pt_openGroup_44 : decode b_Pt_openGroup 44 = .ok (.dup, 1) := by decide +kernel
theorem d_Pt_openGroup_45 : decode b_Pt_openGroup 45 = .ok (.getfield 101, 3) := by decide +kernel
theorem d_Pt_openGroup_48 : decode b_Pt_openGroup 48 = .ok (.iconst 1, 1) := by decide +kernel
theorem d_Pt_openGroup_49 : decode b_Pt_openGroup 49 = .ok (.iadd, 1) := by decide +kernel
theorem d_Pt_openGroup_50 : decode b_Pt_openGroup 50 = .ok (.putfield 101, 3) := by decide +kernel
theorem d_Pt_openGroup_53 : decode b_Pt_openGroup 53 = .ok (.aload_n 0, 1) := by decide +kernel
theorem d_Pt_openGroup_54 : decode b_Pt_openGroup 54 = .ok (.invokevirtual 104, 3) := by decide +kernel
theorem d_Pt_openGroup_57 : decode b_Pt_openGroup 57 = .ok (.iconst 1, 1) := by decide +kernel
theorem d_Pt_openGroup_58 : decode b_Pt_openGroup 58 = .ok (.ireturn, 1) := by decide +kernel
