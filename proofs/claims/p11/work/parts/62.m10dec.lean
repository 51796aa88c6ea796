theorem d_Rd_hasRoom_0 : decode b_Rd_hasRoom 0 = .ok (.aload_n 0, 1) := by decide +kernel
theorem d_Rd_hasRoom_1 : decode b_Rd_hasRoom 1 = .ok (.getfield 19, 3) := by decide +kernel
theorem d_Rd_hasRoom_4 : decode b_Rd_hasRoom 4 = .ok (.iconst 5, 1) := by decide +kernel
theorem d_Rd_hasRoom_5 : decode b_Rd_hasRoom 5 = .ok (.iadd, 1) := by decide +kernel
theorem d_Rd_hasRoom_6 : decode b_Rd_hasRoom 6 = .ok (.sipush 2050, 3) := by decide +kernel
theorem d_Rd_hasRoom_9 : decode b_Rd_hasRoom 9 = .ok (.if_icmp .gt 7, 3) := by decide +kernel
theorem d_Rd_hasRoom_12 : decode b_Rd_hasRoom 12 = .ok (.iconst 1, 1) := by decide +kernel
theorem d_Rd_hasRoom_13 : decode b_Rd_hasRoom 13 = .ok (.goto 4, 3) := by decide +kernel
theorem d_Rd_hasRoom_16 : decode b_Rd_hasRoom 16 = .ok (.iconst 0, 1) := by decide +kernel
theorem d_Rd_hasRoom_17 : decode b_Rd_hasRoom 17 = .ok (.ireturn, 1) := by decide +kernel
theorem d_Rd_addWord_0 : decode b_Rd_addWord 0 = .ok (.aload_n 0, 1) := by decide +kernel
theorem d_Rd_addWord_1 : decode b_Rd_addWord 1 = .ok (.getfield 19, 3) := by decide +kernel
theorem d_Rd_addWord_4 : decode b_Rd_addWord 4 = .ok (.aload_n 0, 1) := by decide +kernel
theorem d_Rd_addWord_5 : decode b_Rd_addWord 5 = .ok (.getfield 9, 3) := by decide +kernel
theorem d_Rd_addWord_8 : decode b_Rd_addWord 8 = .ok (.arraylength, 1) := by decide +kernel
theorem d_Rd_addWord_9 : decode b_Rd_addWord 9 = .ok (.if_icmp .ge 23, 3) := by decide +kernel
theorem d_Rd_addWord_12 : decode b_Rd_addWord 12 = .ok (.aload_n 0, 1) := by decide +kernel
theorem d_Rd_addWord_13 : decode b_Rd_addWord 13 = .ok (.getfield 9, 3) := by decide +kernel
theorem d_Rd_addWord_16 : decode b_Rd_addWord 16 = .ok (.aload_n 0, 1) := by decide +kernel
theorem d_Rd_addWord_17 : decode b_Rd_addWord 17 = .ok (.getfield 19, 3) := by decide +kernel
theorem d_Rd_addWord_20 : decode b_Rd_addWord 20 = .ok (.iload_n 1, 1) := by decide +kernel
theorem d_Rd_addWord_21 : decode b_Rd_addWord 21 = .ok (.iastore, 1) := by decide +kernel
theorem d_Rd_addWord_22 : decode b_Rd_addWord 22 = .ok (.aload_n 0, 1) := by decide +kernel
theorem d_Rd_addWord_23 : decode b_Rd_addWord 23 = .ok (.dup, 1) := by decide +kernel
theorem d_Rd_addWord_24 : decode b_Rd_addWord 24 = .ok (.getfield 19, 3) := by decide +kernel
theorem d_Rd_addWord_27 : decode b_Rd_addWord 27 = .ok (.iconst 1, 1) := by decide +kernel
theorem d_Rd_addWord_28 : decode b_Rd_addWord 28 = .ok (.iadd, 1) := by decide +kernel
theorem d_Rd_addWord_29 : decode b_Rd_addWord 29 = .ok (.putfield 19, 3) := by decide +kernel
theorem d_Rd_addWord_32 : decode b_Rd_addWord 32 = .ok (.return_, 1) := by decide +kernel
theorem d_Rd_octets_0 : decode b_Rd_octets 0 = .ok (.aload_n 0, 1) := by decide +kernel
theorem d_Rd_octets_1 : decode b_Rd_octets 1 = .ok (.getfield 19, 3) := by decide +kernel
theorem d_Rd_octets_4 : decode b_Rd_octets 4 = .ok (.iconst 4, 1) := by decide +kernel
theorem d_Rd_octets_5 : decode b_Rd_octets 5 = .ok (.imul, 1) := by decide +kernel
theorem d_Rd_octets_6 : decode b_Rd_octets 6 = .ok (.ireturn, 1) := by decide +kernel
theorem d_SJ_feed_0 : decode b_SJ_feed 0 = .ok (.aload_n 0, 1) := by decide +kernel
theorem d_SJ_feed_1 : decode b_SJ_feed 1 = .ok (.getfield 24, 3) := by decide +kernel
theorem d_SJ_feed_4 : decode b_SJ_feed 4 = .ok (.invokevirtual 69, 3) := by decide +kernel
theorem d_SJ_feed_7 : decode b_SJ_feed 7 = .ok (.ifCond .ne 13, 3) := by decide +kernel
theorem d_SJ_feed_10 : decode b_SJ_feed 10 = .ok (.new 73, 3) := by decide +kernel
theorem d_SJ_feed_13 : decode b_SJ_feed 13 = .ok (.dup, 1) := by decide +kernel
theorem d_SJ_feed_14 : decode b_SJ_feed 14 = .ok (.ldc 75, 2) := by decide +kernel
theorem d_SJ_feed_16 : decode b_SJ_feed 16 = .ok (.invokespecial 77, 3) := by decide +kernel
theorem d_SJ_feed_19 : decode b_SJ_feed 19 = .ok (.athrow, 1) := by decide +kernel
theorem d_SJ_feed_20 : decode b_SJ_feed 20 = .ok (.aload_n 0, 1) := by decide +kernel
theorem d_SJ_feed_21 : decode b_SJ_feed 21 = .ok (.getfield 24, 3) := by decide +kernel
theorem d_SJ_feed_24 : decode b_SJ_feed 24 = .ok (.iload_n 1, 1) := by decide +kernel
theorem d_SJ_feed_25 : decode b_SJ_feed 25 = .ok (.invokevirtual 80, 3) := by decide +kernel
theorem d_SJ_feed_28 : decode b_SJ_feed 28 = .ok (.aload_n 0, 1) := by decide +kernel
theorem d_SJ_feed_29 : decode b_SJ_feed 29 = .ok (.getfield 24, 3) := by decide +kernel
theorem d_SJ_feed_32 : decode b_SJ_feed 32 = .ok (.iload_n 2, 1) := by decide +kernel
theorem d_SJ_feed_33 : decode b_SJ_feed 33 = .ok (.invokevirtual 80, 3) := by decide +kernel
theorem d_SJ_feed_36 : decode b_SJ_feed 36 = .ok (.aload_n 0, 1) := by decide +kernel
theorem d_SJ_feed_37 : decode b_SJ_feed 37 = .ok (.getfield 24, 3) := by decide +kernel
theorem d_SJ_feed_40 : decode b_SJ_feed 40 = .ok (.iload_n 3, 1) := by decide +kernel
theorem d_SJ_feed_41 : decode b_SJ_feed 41 = .ok (.invokevirtual 80, 3) := by decide +kernel
theorem d_SJ_feed_44 : decode b_SJ_feed 44 = .ok (.aload_n 0, 1) := by decide +kernel
theorem d_SJ_feed_45 : decode b_SJ_feed 45 = .ok (.getfield 24, 3) := by decide +kernel
theorem d_SJ_feed_48 : decode b_SJ_feed 48 = .ok (.iload 4, 2) := by decide +kernel
theorem d_SJ_feed_50 : decode b_SJ_feed 50 = .ok (.invokevirtual 80, 3) := by decide +kernel
theorem d_SJ_feed_53 : decode b_SJ_feed 53 = .ok (.aload_n 0, 1) := by decide +kernel
theorem d_SJ_feed_54 : decode b_SJ_feed 54 = .ok (.getfield 24, 3) := by decide +kernel
theorem d_SJ_feed_57 : decode b_SJ_feed 57 = .ok (.iload 5, 2) := by decide +kernel
theorem d_SJ_feed_59 : decode b_SJ_feed 59 = .ok (.invokevirtual 80, 3) := by decide +kernel
theorem d_SJ_feed_62 : decode b_SJ_feed 62 = .ok (.aload_n 0, 1) := by decide +kernel
theorem d_SJ_feed_63 : decode b_SJ_feed 63 = .ok (.getfield 24, 3) := by decide +kernel
theorem d_SJ_feed_66 : decode b_SJ_feed 66 = .ok (.invokevirtual 84, 3) := by decide +kernel
theorem d_SJ_feed_69 : decode b_SJ_feed 69 = .ok (.ireturn, 1) := by decide +kernel
theorem d_Ck_forget_0 : decode b_Ck_forget 0 = .ok (.aload_n 0, 1) := by decide +kernel
theorem d_Ck_forget_1 : decode b_Ck_forget 1 = .ok (.iconst (-1), 1) := by decide +kernel
theorem d_Ck_forget_2 : decode b_Ck_forget 2 = .ok (.putfield 43, 3) := by decide +kernel
theorem d_Ck_forget_5 : decode b_Ck_forget 5 = .ok (.aload_n 0, 1) := by decide +kernel
theorem d_Ck_forget_6 : decode b_Ck_forget 6 = .ok (.iconst (-1), 1) := by decide +kernel
theorem d_Ck_forget_7 : decode b_Ck_forget 7 = .ok (.putfield 47, 3) := by decide +kernel
theorem d_Ck_forget_10 : decode b_Ck_forget 10 = .ok (.return_, 1) := by decide +kernel
theorem d_Tx_clear_0 : decode b_Tx_clear 0 = .ok (.aload_n 0, 1) := by decide +kernel
theorem d_Tx_clear_1 : decode b_Tx_clear 1 = .ok (.iconst 0, 1) := by decide +kernel
theorem d_Tx_clear_2 : decode b_Tx_clear 2 = .ok (.putfield 43, 3) := by decide +kernel
theorem d_Tx_clear_5 : decode b_Tx_clear 5 = .ok (.aload_n 0, 1) := by decide +kernel
theorem d_Tx_clear_6 : decode b_Tx_clear 6 = .ok (.iconst 0, 1) := by decide +kernel
theorem d_Tx_clear_7 : decode b_Tx_clear 7 = .ok (.putfield 47, 3) := by decide +kernel
theorem d_Tx_clear_10 : decode b_Tx_clear 10 = .ok (.aload_n 0, 1) := by decide +kernel
theorem d_Tx_clear_11 : decode b_Tx_clear 11 = .ok (.iconst 0, 1) := by decide +kernel
theorem d_Tx_clear_12 : decode b_Tx_clear 12 = .ok (.putfield 50, 3) := by decide +kernel
theorem d_Tx_clear_15 : decode b_Tx_clear 15 = .ok (.return_, 1) := by decide +kernel
theorem d_Rd_peek_0 : decode b_Rd_peek 0 = .ok (.aload_n 0, 1) := by decide +kernel
theorem d_Rd_peek_1 : decode b_Rd_peek 1 = .ok (.getfield 28, 3) := by decide +kernel
theorem d_Rd_peek_4 : decode b_Rd_peek 4 = .ok (.iconst 2, 1) := by decide +kernel
theorem d_Rd_peek_5 : decode b_Rd_peek 5 = .ok (.ishr, 1) := by decide +kernel
theorem d_Rd_peek_6 : decode b_Rd_peek 6 = .ok (.istore_n 1, 1) := by decide +kernel
theorem d_Rd_peek_7 : decode b_Rd_peek 7 = .ok (.aload_n 0, 1) := by decide +kernel
theorem d_Rd_peek_8 : decode b_Rd_peek 8 = .ok (.getfield 28, 3) := by decide +kernel
theorem d_Rd_peek_11 : decode b_Rd_peek 11 = .ok (.ifCond .lt 23, 3) := by decide +kernel
theorem d_Rd_peek_14 : decode b_Rd_peek 14 = .ok (.aload_n 0, 1) := by decide +kernel
theorem d_Rd_peek_15 : decode b_Rd_peek 15 = .ok (.getfield 28, 3) := by decide +kernel
theorem d_Rd_peek_18 : decode b_Rd_peek 18 = .ok (.aload_n 0, 1) := by decide +kernel
theorem d_Rd_peek_19 : decode b_Rd_peek 19 = .ok (.getfield 31, 3) := by decide +kernel
theorem d_Rd_peek_22 : decode b_Rd_peek 22 = .ok (.if_icmp .ge 12, 3) := by decide +kernel
theorem d_Rd_peek_25 : decode b_Rd_peek 25 = .ok (.iload_n 1, 1) := by decide +kernel
theorem d_Rd_peek_26 : decode b_Rd_peek 26 = .ok (.aload_n 0, 1) := by decide +kernel
theorem d_Rd_peek_27 : decode b_Rd_peek 27 = .ok (.getfield 9, 3) := by decide +kernel
theorem d_Rd_peek_30 : decode b_Rd_peek 30 = .ok (.arraylength, 1) := by decide +kernel
theorem d_Rd_peek_31 : decode b_Rd_peek 31 = .ok (.if_icmp .lt 5, 3) := by decide +kernel
theorem d_Rd_peek_34 : decode b_Rd_peek 34 = .ok (.iconst (-1), 1) := by decide +kernel
theorem d_Rd_peek_35 : decode b_Rd_peek 35 = .ok (.ireturn, 1) := by decide +kernel
theorem d_Rd_peek_36 : decode b_Rd_peek 36 = .ok (.aload_n 0, 1) := by decide +kernel
theorem d_Rd_peek_37 : decode b_Rd_peek 37 = .ok (.getfield 9, 3) := by decide +kernel
theorem d_Rd_peek_40 : decode b_Rd_peek 40 = .ok (.iload_n 1, 1) := by decide +kernel
theorem d_Rd_peek_41 : decode b_Rd_peek 41 = .ok (.iaload, 1) := by decide +kernel
theorem d_Rd_peek_42 : decode b_Rd_peek 42 = .ok (.bipush 24, 2) := by decide +kernel
theorem d_Rd_peek_44 : decode b_Rd_peek 44 = .ok (.bipush 8, 2) := by decide +kernel
theorem d_Rd_peek_46 : decode b_Rd_peek 46 = .ok (.aload_n 0, 1) := by decide +kernel
theorem d_Rd_peek_47 : decode b_Rd_peek 47 = .ok (.getfield 28, 3) := by decide +kernel
theorem d_Rd_peek_50 : decode b_Rd_peek 50 = .ok (.iconst 3, 1) := by decide +kernel
theorem d_Rd_peek_51 : decode b_Rd_peek 51 = .ok (.iand, 1) := by decide +kernel
theorem d_Rd_peek_52 : decode b_Rd_peek 52 = .ok (.imul, 1) := by decide +kernel
theorem d_Rd_peek_53 : decode b_Rd_peek 53 = .ok (.isub, 1) := by decide +kernel
theorem d_Rd_peek_54 : decode b_Rd_peek 54 = .ok (.iushr, 1) := by decide +kernel
theorem d_Rd_peek_55 : decode b_Rd_peek 55 = .ok (.sipush 255, 3) := by decide +kernel
theorem d_Rd_peek_58 : decode b_Rd_peek 58 = .ok (.iand, 1) := by decide +kernel
theorem d_Rd_peek_59 : decode b_Rd_peek 59 = .ok (.ireturn, 1) := by decide +kernel
theorem d_Rd_skipBlanks_0 : decode b_Rd_skipBlanks 0 = .ok (.iconst 0, 1) := by decide +kernel
theorem d_Rd_skipBlanks_1 : decode b_Rd_skipBlanks 1 = .ok (.istore_n 1, 1) := by decide +kernel
theorem d_Rd_skipBlanks_2 : decode b_Rd_skipBlanks 2 = .ok (.iload_n 1, 1) := by decide +kernel
theorem d_Rd_skipBlanks_3 : decode b_Rd_skipBlanks 3 = .ok (.sipush 8192, 3) := by decide +kernel
theorem d_Rd_skipBlanks_6 : decode b_Rd_skipBlanks 6 = .ok (.if_icmp .ge 49, 3) := by decide +kernel
theorem d_Rd_skipBlanks_9 : decode b_Rd_skipBlanks 9 = .ok (.aload_n 0, 1) := by decide +kernel
theorem d_Rd_skipBlanks_10 : decode b_Rd_skipBlanks 10 = .ok (.invokevirtual 48, 3) := by decide +kernel
theorem d_Rd_skipBlanks_13 : decode b_Rd_skipBlanks 13 = .ok (.istore_n 2, 1) := by decide +kernel
theorem d_Rd_skipBlanks_14 : decode b_Rd_skipBlanks 14 = .ok (.iload_n 2, 1) := by decide +kernel
theorem d_Rd_skipBlanks_15 : decode b_Rd_skipBlanks 15 = .ok (.bipush 9, 2) := by decide +kernel
theorem d_Rd_skipBlanks_17 : decode b_Rd_skipBlanks 17 = .ok (.if_icmp .eq 22, 3) := by decide +kernel
theorem d_Rd_skipBlanks_20 : decode b_Rd_skipBlanks 20 = .ok (.iload_n 2, 1) := by decide +kernel
theorem d_Rd_skipBlanks_21 : decode b_Rd_skipBlanks 21 = .ok (.bipush 10, 2) := by decide +kernel
theorem d_Rd_skipBlanks_23 : decode b_Rd_skipBlanks 23 = .ok (.if_icmp .eq 16, 3) := by decide +kernel
theorem d_Rd_skipBlanks_26 : decode b_Rd_skipBlanks 26 = .ok (.iload_n 2, 1) := by decide +kernel
theorem d_Rd_skipBlanks_27 : decode b_Rd_skipBlanks 27 = .ok (.bipush 13, 2) := by decide +kernel
theorem d_Rd_skipBlanks_29 : decode b_Rd_skipBlanks 29 = .ok (.if_icmp .eq 10, 3) := by decide +kernel
theorem d_Rd_skipBlanks_32 : decode b_Rd_skipBlanks 32 = .ok (.iload_n 2, 1) := by decide +kernel
theorem d_Rd_skipBlanks_33 : decode b_Rd_skipBlanks 33 = .ok (.bipush 32, 2) := by decide +kernel
theorem d_Rd_skipBlanks_35 : decode b_Rd_skipBlanks 35 = .ok (.if_icmp .eq 4, 3) := by decide +kernel
theorem d_Rd_skipBlanks_38 : decode b_Rd_skipBlanks 38 = .ok (.return_, 1) := by decide +kernel
theorem d_Rd_skipBlanks_39 : decode b_Rd_skipBlanks 39 = .ok (.aload_n 0, 1) := by decide +kernel
theorem d_Rd_skipBlanks_40 : decode b_Rd_skipBlanks 40 = .ok (.dup, 1) := by decide +kernel
theorem d_Rd_skipBlanks_41 : decode b_Rd_skipBlanks 41 = .ok (.getfield 28, 3) := by decide +kernel
theorem d_Rd_skipBlanks_44 : decode b_Rd_skipBlanks 44 = .ok (.iconst 1, 1) := by decide +kernel
theorem d_Rd_skipBlanks_45 : decode b_Rd_skipBlanks 45 = .ok (.iadd, 1) := by decide +kernel
theorem d_Rd_skipBlanks_46 : decode b_Rd_skipBlanks 46 = .ok (.putfield 28, 3) := by decide +kernel
theorem d_Rd_skipBlanks_49 : decode b_Rd_skipBlanks 49 = .ok (.iinc 1 1, 3) := by decide +kernel
theorem d_Rd_skipBlanks_52 : decode b_Rd_skipBlanks 52 = .ok (.goto (-50), 3) := by decide +kernel
theorem d_Rd_skipBlanks_55 : decode b_Rd_skipBlanks 55 = .ok (.return_, 1) := by decide +kernel
theorem d_SJ_isDigit_0 : decode b_SJ_isDigit 0 = .ok (.iload_n 0, 1) := by decide +kernel
theorem d_SJ_isDigit_1 : decode b_SJ_isDigit 1 = .ok (.bipush 48, 2) := by decide +kernel
theorem d_SJ_isDigit_3 : decode b_SJ_isDigit 3 = .ok (.if_icmp .lt 13, 3) := by decide +kernel
theorem d_SJ_isDigit_6 : decode b_SJ_isDigit 6 = .ok (.iload_n 0, 1) := by decide +kernel
theorem d_SJ_isDigit_7 : decode b_SJ_isDigit 7 = .ok (.bipush 57, 2) := by decide +kernel
theorem d_SJ_isDigit_9 : decode b_SJ_isDigit 9 = .ok (.if_icmp .gt 7, 3) := by decide +kernel
theorem d_SJ_isDigit_12 : decode b_SJ_isDigit 12 = .ok (.iconst 1, 1) := by decide +kernel
theorem d_SJ_isDigit_13 : decode b_SJ_isDigit 13 = .ok (.goto 4, 3) := by decide +kernel
theorem d_SJ_isDigit_16 : decode b_SJ_isDigit 16 = .ok (.iconst 0, 1) := by decide +kernel
theorem d_SJ_isDigit_17 : decode b_SJ_isDigit 17 = .ok (.ireturn, 1) := by decide +kernel
theorem d_Rd_kindThatBegins_0 : decode b_Rd_kindThatBegins 0 = .ok (.iload_n 0, 1) := by decide +kernel
theorem d_Rd_kindThatBegins_1 : decode b_Rd_kindThatBegins 1 = .ok (.lookupswitch 72 #[(34, 65), (91, 67), (102, 61), (110, 59), (116, 63), (123, 69)], 59) := by decide +kernel
theorem d_Rd_kindThatBegins_60 : decode b_Rd_kindThatBegins 60 = .ok (.iconst 0, 1) := by decide +kernel
theorem d_Rd_kindThatBegins_61 : decode b_Rd_kindThatBegins 61 = .ok (.ireturn, 1) := by decide +kernel
theorem d_Rd_kindThatBegins_62 : decode b_Rd_kindThatBegins 62 = .ok (.iconst 1, 1) := by decide +kernel
theorem d_Rd_kindThatBegins_63 : decode b_Rd_kindThatBegins 63 = .ok (.ireturn, 1) := by decide +kernel
theorem d_Rd_kindThatBegins_64 : decode b_Rd_kindThatBegins 64 = .ok (.iconst 2, 1) := by decide +kernel
theorem d_Rd_kindThatBegins_65 : decode b_Rd_kindThatBegins 65 = .ok (.ireturn, 1) := by decide +kernel
theorem d_Rd_kindThatBegins_66 : decode b_Rd_kindThatBegins 66 = .ok (.iconst 4, 1) := by decide +kernel
theorem d_Rd_kindThatBegins_67 : decode b_Rd_kindThatBegins 67 = .ok (.ireturn, 1) := by decide +kernel
theorem d_Rd_kindThatBegins_68 : decode b_Rd_kindThatBegins 68 = .ok (.iconst 5, 1) := by decide +kernel
theorem d_Rd_kindThatBegins_69 : decode b_Rd_kindThatBegins 69 = .ok (.ireturn, 1) := by decide +kernel
theorem d_Rd_kindThatBegins_70 : decode b_Rd_kindThatBegins 70 = .ok (.bipush 6, 2) := by decide +kernel
theorem d_Rd_kindThatBegins_72 : decode b_Rd_kindThatBegins 72 = .ok (.ireturn, 1) := by decide +kernel
theorem d_Rd_kindThatBegins_73 : decode b_Rd_kindThatBegins 73 = .ok (.iload_n 0, 1) := by decide +kernel
theorem d_Rd_kindThatBegins_74 : decode b_Rd_kindThatBegins 74 = .ok (.bipush 45, 2) := by decide +kernel
theorem d_Rd_kindThatBegins_76 : decode b_Rd_kindThatBegins 76 = .ok (.if_icmp .eq 10, 3) := by decide +kernel
theorem d_Rd_kindThatBegins_79 : decode b_Rd_kindThatBegins 79 = .ok (.iload_n 0, 1) := by decide +kernel
theorem d_Rd_kindThatBegins_80 : decode b_Rd_kindThatBegins 80 = .ok (.invokestatic 52, 3) := by decide +kernel
theorem d_Rd_kindThatBegins_83 : decode b_Rd_kindThatBegins 83 = .ok (.ifCond .eq 7, 3) := by decide +kernel
theorem d_Rd_kindThatBegins_86 : decode b_Rd_kindThatBegins 86 = .ok (.iconst 3, 1) := by decide +kernel
theorem d_Rd_kindThatBegins_87 : decode b_Rd_kindThatBegins 87 = .ok (.goto 4, 3) := by decide +kernel
theorem d_Rd_kindThatBegins_90 : decode b_Rd_kindThatBegins 90 = .ok (.iconst (-1), 1) := by decide +kernel
theorem d_Rd_kindThatBegins_91 : decode b_Rd_kindThatBegins 91 = .ok (.ireturn, 1) := by decide +kernel
theorem d_Rd_refuse_0 : decode b_Rd_refuse 0 = .ok (.aload_n 0, 1) := by decide +kernel
theorem d_Rd_refuse_1 : decode b_Rd_refuse 1 = .ok (.iload_n 1, 1) := by decide +kernel
theorem d_Rd_refuse_2 : decode b_Rd_refuse 2 = .ok (.putfield 34, 3) := by decide +kernel
theorem d_Rd_refuse_5 : decode b_Rd_refuse 5 = .ok (.iconst 0, 1) := by decide +kernel
theorem d_Rd_refuse_6 : decode b_Rd_refuse 6 = .ok (.ireturn, 1) := by decide +kernel
theorem d_Tx_begin_0 : decode b_Tx_begin 0 = .ok (.aload_n 0, 1) := by decide +kernel
theorem d_Tx_begin_1 : decode b_Tx_begin 1 = .ok (.getfield 43, 3) := by decide +kernel
theorem d_Tx_begin_4 : decode b_Tx_begin 4 = .ok (.sipush 1000, 3) := by decide +kernel
theorem d_Tx_begin_7 : decode b_Tx_begin 7 = .ok (.if_icmp .lt 5, 3) := by decide +kernel
theorem d_Tx_begin_10 : decode b_Tx_begin 10 = .ok (.iconst (-1), 1) := by decide +kernel
theorem d_Tx_begin_11 : decode b_Tx_begin 11 = .ok (.ireturn, 1) := by decide +kernel
theorem d_Tx_begin_12 : decode b_Tx_begin 12 = .ok (.aload_n 0, 1) := by decide +kernel
theorem d_Tx_begin_13 : decode b_Tx_begin 13 = .ok (.getfield 43, 3) := by decide +kernel
theorem d_Tx_begin_16 : decode b_Tx_begin 16 = .ok (.istore 5, 2) := by decide +kernel
theorem d_Tx_begin_18 : decode b_Tx_begin 18 = .ok (.aload_n 0, 1) := by decide +kernel
theorem d_Tx_begin_19 : decode b_Tx_begin 19 = .ok (.dup, 1) := by decide +kernel
theorem d_Tx_begin_20 : decode b_Tx_begin 20 = .ok (.getfield 43, 3) := by decide +kernel
theorem d_Tx_begin_23 : decode b_Tx_begin 23 = .ok (.iconst 1, 1) := by decide +kernel
theorem d_Tx_begin_24 : decode b_Tx_begin 24 = .ok (.iadd, 1) := by decide +kernel
theorem d_Tx_begin_25 : decode b_Tx_begin 25 = .ok (.putfield 43, 3) := by decide +kernel
theorem d_Tx_begin_28 : decode b_Tx_begin 28 = .ok (.aload_n 0, 1) := by decide +kernel
theorem d_Tx_begin_29 : decode b_Tx_begin 29 = .ok (.getfield 9, 3) := by decide +kernel
theorem d_Tx_begin_32 : decode b_Tx_begin 32 = .ok (.iload 5, 2) := by decide +kernel
theorem d_Tx_begin_34 : decode b_Tx_begin 34 = .ok (.iload_n 1, 1) := by decide +kernel
theorem d_Tx_begin_35 : decode b_Tx_begin 35 = .ok (.iastore, 1) := by decide +kernel
theorem d_Tx_begin_36 : decode b_Tx_begin 36 = .ok (.aload_n 0, 1) := by decide +kernel
theorem d_Tx_begin_37 : decode b_Tx_begin 37 = .ok (.getfield 15, 3) := by decide +kernel
theorem d_Tx_begin_40 : decode b_Tx_begin 40 = .ok (.iload 5, 2) := by decide +kernel
theorem d_Tx_begin_42 : decode b_Tx_begin 42 = .ok (.iload_n 2, 1) := by decide +kernel
theorem d_Tx_begin_43 : decode b_Tx_begin 43 = .ok (.iastore, 1) := by decide +kernel
theorem d_Tx_begin_44 : decode b_Tx_begin 44 = .ok (.aload_n 0, 1) := by decide +kernel
theorem d_Tx_begin_45 : decode b_Tx_begin 45 = .ok (.getfield 18, 3) := by decide +kernel
theorem d_Tx_begin_48 : decode b_Tx_begin 48 = .ok (.iload 5, 2) := by decide +kernel
theorem d_Tx_begin_50 : decode b_Tx_begin 50 = .ok (.iconst 0, 1) := by decide +kernel
theorem d_Tx_begin_51 : decode b_Tx_begin 51 = .ok (.iastore, 1) := by decide +kernel
theorem d_Tx_begin_52 : decode b_Tx_begin 52 = .ok (.aload_n 0, 1) := by decide +kernel
theorem d_Tx_begin_53 : decode b_Tx_begin 53 = .ok (.getfield 21, 3) := by decide +kernel
theorem d_Tx_begin_56 : decode b_Tx_begin 56 = .ok (.iload 5, 2) := by decide +kernel
theorem d_Tx_begin_58 : decode b_Tx_begin 58 = .ok (.iload_n 3, 1) := by decide +kernel
theorem d_Tx_begin_59 : decode b_Tx_begin 59 = .ok (.iastore, 1) := by decide +kernel
theorem d_Tx_begin_60 : decode b_Tx_begin 60 = .ok (.aload_n 0, 1) := by decide +kernel
theorem d_Tx_begin_61 : decode b_Tx_begin 61 = .ok (.getfield 24, 3) := by decide +kernel
theorem d_Tx_begin_64 : decode b_Tx_begin 64 = .ok (.iload 5, 2) := by decide +kernel
theorem d_Tx_begin_66 : decode b_Tx_begin 66 = .ok (.iconst 0, 1) := by decide +kernel
theorem d_Tx_begin_67 : decode b_Tx_begin 67 = .ok (.iastore, 1) := by decide +kernel
theorem d_Tx_begin_68 : decode b_Tx_begin 68 = .ok (.aload_n 0, 1) := by decide +kernel
theorem d_Tx_begin_69 : decode b_Tx_begin 69 = .ok (.getfield 27, 3) := by decide +kernel
theorem d_Tx_begin_72 : decode b_Tx_begin 72 = .ok (.iload 5, 2) := by decide +kernel
theorem d_Tx_begin_74 : decode b_Tx_begin 74 = .ok (.aload_n 0, 1) := by decide +kernel
theorem d_Tx_begin_75 : decode b_Tx_begin 75 = .ok (.getfield 47, 3) := by decide +kernel
theorem d_Tx_begin_78 : decode b_Tx_begin 78 = .ok (.iastore, 1) := by decide +kernel
theorem d_Tx_begin_79 : decode b_Tx_begin 79 = .ok (.aload_n 0, 1) := by decide +kernel
theorem d_Tx_begin_80 : decode b_Tx_begin 80 = .ok (.getfield 30, 3) := by decide +kernel
theorem d_Tx_begin_83 : decode b_Tx_begin 83 = .ok (.iload 5, 2) := by decide +kernel
theorem d_Tx_begin_85 : decode b_Tx_begin 85 = .ok (.aload_n 0, 1) := by decide +kernel
theorem d_Tx_begin_86 : decode b_Tx_begin 86 = .ok (.getfield 43, 3) := by decide +kernel
theorem d_Tx_begin_89 : decode b_Tx_begin 89 = .ok (.iastore, 1) := by decide +kernel
theorem d_Tx_begin_90 : decode b_Tx_begin 90 = .ok (.aload_n 0, 1) := by decide +kernel
theorem d_Tx_begin_91 : decode b_Tx_begin 91 = .ok (.getfield 33, 3) := by decide +kernel
theorem d_Tx_begin_94 : decode b_Tx_begin 94 = .ok (.iload 5, 2) := by decide +kernel
theorem d_Tx_begin_96 : decode b_Tx_begin 96 = .ok (.iload 4, 2) := by decide +kernel
theorem d_Tx_begin_98 : decode b_Tx_begin 98 = .ok (.iastore, 1) := by decide +kernel
theorem d_Tx_begin_99 : decode b_Tx_begin 99 = .ok (.aload_n 0, 1) := by decide +kernel
theorem d_Tx_begin_100 : decode b_Tx_begin 100 = .ok (.getfield 36, 3) := by decide +kernel
theorem d_Tx_begin_103 : decode b_Tx_begin 103 = .ok (.iload 5, 2) := by decide +kernel
theorem d_Tx_begin_105 : decode b_Tx_begin 105 = .ok (.iconst 0, 1) := by decide +kernel
theorem d_Tx_begin_106 : decode b_Tx_begin 106 = .ok (.bastore, 1) := by decide +kernel
theorem d_Tx_begin_107 : decode b_Tx_begin 107 = .ok (.iload 5, 2) := by decide +kernel
theorem d_Tx_begin_109 : decode b_Tx_begin 109 = .ok (.ireturn, 1) := by decide +kernel
theorem d_JS_coder_0 : decode b_JS_coder 0 = .ok (.getstatic 38, 3) := by decide +kernel
theorem d_JS_coder_3 : decode b_JS_coder 3 = .ok (.ifCond .eq 10, 3) := by decide +kernel
theorem d_JS_coder_6 : decode b_JS_coder 6 = .ok (.aload_n 0, 1) := by decide +kernel
theorem d_JS_coder_7 : decode b_JS_coder 7 = .ok (.getfield 15, 3) := by decide +kernel
theorem d_JS_coder_10 : decode b_JS_coder 10 = .ok (.goto 4, 3) := by decide +kernel
theorem d_JS_coder_13 : decode b_JS_coder 13 = .ok (.iconst 1, 1) := by decide +kernel
theorem d_JS_coder_14 : decode b_JS_coder 14 = .ok (.ireturn, 1) := by decide +kernel
theorem d_JS_length_0 : decode b_JS_length 0 = .ok (.aload_n 0, 1) := by decide +kernel
theorem d_JS_length_1 : decode b_JS_length 1 = .ok (.getfield 9, 3) := by decide +kernel
theorem d_JS_length_4 : decode b_JS_length 4 = .ok (.arraylength, 1) := by decide +kernel
theorem d_JS_length_5 : decode b_JS_length 5 = .ok (.aload_n 0, 1) := by decide +kernel
theorem d_JS_length_6 : decode b_JS_length 6 = .ok (.invokevirtual 335, 3) := by decide +kernel
theorem d_JS_length_9 : decode b_JS_length 9 = .ok (.ishr, 1) := by decide +kernel
theorem d_JS_length_10 : decode b_JS_length 10 = .ok (.ireturn, 1) := by decide +kernel
theorem d_JS_isLatin1_0 : decode b_JS_isLatin1 0 = .ok (.getstatic 38, 3) := by decide +kernel
theorem d_JS_isLatin1_3 : decode b_JS_isLatin1 3 = .ok (.ifCond .eq 14, 3) := by decide +kernel
theorem d_JS_isLatin1_6 : decode b_JS_isLatin1 6 = .ok (.aload_n 0, 1) := by decide +kernel
theorem d_JS_isLatin1_7 : decode b_JS_isLatin1 7 = .ok (.getfield 15, 3) := by decide +kernel
theorem d_JS_isLatin1_10 : decode b_JS_isLatin1 10 = .ok (.ifCond .ne 7, 3) := by decide +kernel
theorem d_JS_isLatin1_13 : decode b_JS_isLatin1 13 = .ok (.iconst 1, 1) := by decide +kernel
theorem d_JS_isLatin1_14 : decode b_JS_isLatin1 14 = .ok (.goto 4, 3) := by decide +kernel
theorem d_JS_isLatin1_17 : decode b_JS_isLatin1 17 = .ok (.iconst 0, 1) := by decide +kernel
theorem d_JS_isLatin1_18 : decode b_JS_isLatin1 18 = .ok (.ireturn, 1) := by decide +kernel
theorem d_JL_charAt_0 : decode b_JL_charAt 0 = .ok (.iload_n 1, 1) := by decide +kernel
theorem d_JL_charAt_1 : decode b_JL_charAt 1 = .ok (.aload_n 0, 1) := by decide +kernel
theorem d_JL_charAt_2 : decode b_JL_charAt 2 = .ok (.arraylength, 1) := by decide +kernel
theorem d_JL_charAt_3 : decode b_JL_charAt 3 = .ok (.invokestatic 9, 3) := by decide +kernel
theorem d_JL_charAt_6 : decode b_JL_charAt 6 = .ok (.aload_n 0, 1) := by decide +kernel
theorem d_JL_charAt_7 : decode b_JL_charAt 7 = .ok (.iload_n 1, 1) := by decide +kernel
theorem d_JL_charAt_8 : decode b_JL_charAt 8 = .ok (.baload, 1) := by decide +kernel
theorem d_JL_charAt_9 : decode b_JL_charAt 9 = .ok (.sipush 255, 3) := by decide +kernel
theorem d_JL_charAt_12 : decode b_JL_charAt 12 = .ok (.iand, 1) := by decide +kernel
theorem d_JL_charAt_13 : decode b_JL_charAt 13 = .ok (.i2c, 1) := by decide +kernel
theorem d_JL_charAt_14 : decode b_JL_charAt 14 = .ok (.ireturn, 1) := by decide +kernel
theorem d_JS_charAt_0 : decode b_JS_charAt 0 = .ok (.aload_n 0, 1) := by decide +kernel
theorem d_JS_charAt_1 : decode b_JS_charAt 1 = .ok (.invokevirtual 492, 3) := by decide +kernel
theorem d_JS_charAt_4 : decode b_JS_charAt 4 = .ok (.ifCond .eq 12, 3) := by decide +kernel
theorem d_JS_charAt_7 : decode b_JS_charAt 7 = .ok (.aload_n 0, 1) := by decide +kernel
theorem d_JS_charAt_8 : decode b_JS_charAt 8 = .ok (.getfield 9, 3) := by decide +kernel
theorem d_JS_charAt_11 : decode b_JS_charAt 11 = .ok (.iload_n 1, 1) := by decide +kernel
theorem d_JS_charAt_12 : decode b_JS_charAt 12 = .ok (.invokestatic 495, 3) := by decide +kernel
theorem d_JS_charAt_15 : decode b_JS_charAt 15 = .ok (.ireturn, 1) := by decide +kernel
theorem d_JS_charAt_16 : decode b_JS_charAt 16 = .ok (.aload_n 0, 1) := by decide +kernel
theorem d_JS_charAt_17 : decode b_JS_charAt 17 = .ok (.getfield 9, 3) := by decide +kernel
theorem d_JS_charAt_20 : decode b_JS_charAt 20 = .ok (.iload_n 1, 1) := by decide +kernel
theorem d_JS_charAt_21 : decode b_JS_charAt 21 = .ok (.invokestatic 498, 3) := by decide +kernel
theorem d_JS_charAt_24 : decode b_JS_charAt 24 = .ok (.ireturn, 1) := by decide +kernel
theorem d_Rd_readWord_0 : decode b_Rd_readWord 0 = .ok (.iconst 0, 1) := by decide +kernel
theorem d_Rd_readWord_1 : decode b_Rd_readWord 1 = .ok (.istore_n 2, 1) := by decide +kernel
theorem d_Rd_readWord_2 : decode b_Rd_readWord 2 = .ok (.iload_n 2, 1) := by decide +kernel
theorem d_Rd_readWord_3 : decode b_Rd_readWord 3 = .ok (.aload_n 1, 1) := by decide +kernel
theorem d_Rd_readWord_4 : decode b_Rd_readWord 4 = .ok (.invokevirtual 86, 3) := by decide +kernel
theorem d_Rd_readWord_7 : decode b_Rd_readWord 7 = .ok (.if_icmp .ge 40, 3) := by decide +kernel
theorem d_Rd_readWord_10 : decode b_Rd_readWord 10 = .ok (.aload_n 0, 1) := by decide +kernel
theorem d_Rd_readWord_11 : decode b_Rd_readWord 11 = .ok (.invokevirtual 48, 3) := by decide +kernel
theorem d_Rd_readWord_14 : decode b_Rd_readWord 14 = .ok (.aload_n 1, 1) := by decide +kernel
theorem d_Rd_readWord_15 : decode b_Rd_readWord 15 = .ok (.iload_n 2, 1) := by decide +kernel
theorem d_Rd_readWord_16 : decode b_Rd_readWord 16 = .ok (.invokevirtual 91, 3) := by decide +kernel
theorem d_Rd_readWord_19 : decode b_Rd_readWord 19 = .ok (.if_icmp .eq 12, 3) := by decide +kernel
theorem d_Rd_readWord_22 : decode b_Rd_readWord 22 = .ok (.aload_n 0, 1) := by decide +kernel
theorem d_Rd_readWord_23 : decode b_Rd_readWord 23 = .ok (.aload_n 0, 1) := by decide +kernel
theorem d_Rd_readWord_24 : decode b_Rd_readWord 24 = .ok (.getfield 28, 3) := by decide +kernel
theorem d_Rd_readWord_27 : decode b_Rd_readWord 27 = .ok (.invokevirtual 44, 3) := by decide +kernel
theorem d_Rd_readWord_30 : decode b_Rd_readWord 30 = .ok (.ireturn, 1) := by decide +kernel
theorem d_Rd_readWord_31 : decode b_Rd_readWord 31 = .ok (.aload_n 0, 1) := by decide +kernel
theorem d_Rd_readWord_32 : decode b_Rd_readWord 32 = .ok (.dup, 1) := by decide +kernel
theorem d_Rd_readWord_33 : decode b_Rd_readWord 33 = .ok (.getfield 28, 3) := by decide +kernel
theorem d_Rd_readWord_36 : decode b_Rd_readWord 36 = .ok (.iconst 1, 1) := by decide +kernel
theorem d_Rd_readWord_37 : decode b_Rd_readWord 37 = .ok (.iadd, 1) := by decide +kernel
theorem d_Rd_readWord_38 : decode b_Rd_readWord 38 = .ok (.putfield 28, 3) := by decide +kernel
theorem d_Rd_readWord_41 : decode b_Rd_readWord 41 = .ok (.iinc 2 1, 3) := by decide +kernel
theorem d_Rd_readWord_44 : decode b_Rd_readWord 44 = .ok (.goto (-42), 3) := by decide +kernel
theorem d_Rd_readWord_47 : decode b_Rd_readWord 47 = .ok (.iconst 1, 1) := by decide +kernel
theorem d_Rd_readWord_48 : decode b_Rd_readWord 48 = .ok (.ireturn, 1) := by decide +kernel
theorem d_Tx_addDigit_0 : decode b_Tx_addDigit 0 = .ok (.aload_n 0, 1) := by decide +kernel
theorem d_Tx_addDigit_1 : decode b_Tx_addDigit 1 = .ok (.getfield 47, 3) := by decide +kernel
theorem d_Tx_addDigit_4 : decode b_Tx_addDigit 4 = .ok (.aload_n 0, 1) := by decide +kernel
theorem d_Tx_addDigit_5 : decode b_Tx_addDigit 5 = .ok (.getfield 40, 3) := by decide +kernel
theorem d_Tx_addDigit_8 : decode b_Tx_addDigit 8 = .ok (.arraylength, 1) := by decide +kernel
theorem d_Tx_addDigit_9 : decode b_Tx_addDigit 9 = .ok (.if_icmp .ge 23, 3) := by decide +kernel
theorem d_Tx_addDigit_12 : decode b_Tx_addDigit 12 = .ok (.aload_n 0, 1) := by decide +kernel
theorem d_Tx_addDigit_13 : decode b_Tx_addDigit 13 = .ok (.getfield 40, 3) := by decide +kernel
theorem d_Tx_addDigit_16 : decode b_Tx_addDigit 16 = .ok (.aload_n 0, 1) := by decide +kernel
theorem d_Tx_addDigit_17 : decode b_Tx_addDigit 17 = .ok (.getfield 47, 3) := by decide +kernel
theorem d_Tx_addDigit_20 : decode b_Tx_addDigit 20 = .ok (.iload_n 1, 1) := by decide +kernel
theorem d_Tx_addDigit_21 : decode b_Tx_addDigit 21 = .ok (.iastore, 1) := by decide +kernel
theorem d_Tx_addDigit_22 : decode b_Tx_addDigit 22 = .ok (.aload_n 0, 1) := by decide +kernel
theorem d_Tx_addDigit_23 : decode b_Tx_addDigit 23 = .ok (.dup, 1) := by decide +kernel
theorem d_Tx_addDigit_24 : decode b_Tx_addDigit 24 = .ok (.getfield 47, 3) := by decide +kernel
theorem d_Tx_addDigit_27 : decode b_Tx_addDigit 27 = .ok (.iconst 1, 1) := by decide +kernel
theorem d_Tx_addDigit_28 : decode b_Tx_addDigit 28 = .ok (.iadd, 1) := by decide +kernel
theorem d_Tx_addDigit_29 : decode b_Tx_addDigit 29 = .ok (.putfield 47, 3) := by decide +kernel
theorem d_Tx_addDigit_32 : decode b_Tx_addDigit 32 = .ok (.return_, 1) := by decide +kernel
theorem d_Rd_readDigits_0 : decode b_Rd_readDigits 0 = .ok (.iconst 0, 1) := by decide +kernel
theorem d_Rd_readDigits_1 : decode b_Rd_readDigits 1 = .ok (.istore_n 2, 1) := by decide +kernel
theorem d_Rd_readDigits_2 : decode b_Rd_readDigits 2 = .ok (.iload_n 2, 1) := by decide +kernel
theorem d_Rd_readDigits_3 : decode b_Rd_readDigits 3 = .ok (.iload_n 1, 1) := by decide +kernel
theorem d_Rd_readDigits_4 : decode b_Rd_readDigits 4 = .ok (.if_icmp .ge 44, 3) := by decide +kernel
theorem d_Rd_readDigits_7 : decode b_Rd_readDigits 7 = .ok (.aload_n 0, 1) := by decide +kernel
theorem d_Rd_readDigits_8 : decode b_Rd_readDigits 8 = .ok (.invokevirtual 48, 3) := by decide +kernel
theorem d_Rd_readDigits_11 : decode b_Rd_readDigits 11 = .ok (.istore_n 3, 1) := by decide +kernel
theorem d_Rd_readDigits_12 : decode b_Rd_readDigits 12 = .ok (.iload_n 3, 1) := by decide +kernel
theorem d_Rd_readDigits_13 : decode b_Rd_readDigits 13 = .ok (.invokestatic 52, 3) := by decide +kernel
theorem d_Rd_readDigits_16 : decode b_Rd_readDigits 16 = .ok (.ifCond .ne 5, 3) := by decide +kernel
theorem d_Rd_readDigits_19 : decode b_Rd_readDigits 19 = .ok (.iload_n 2, 1) := by decide +kernel
theorem d_Rd_readDigits_20 : decode b_Rd_readDigits 20 = .ok (.ireturn, 1) := by decide +kernel
theorem d_Rd_readDigits_21 : decode b_Rd_readDigits 21 = .ok (.aload_n 0, 1) := by decide +kernel
theorem d_Rd_readDigits_22 : decode b_Rd_readDigits 22 = .ok (.getfield 15, 3) := by decide +kernel
theorem d_Rd_readDigits_25 : decode b_Rd_readDigits 25 = .ok (.iload_n 3, 1) := by decide +kernel
theorem d_Rd_readDigits_26 : decode b_Rd_readDigits 26 = .ok (.bipush 48, 2) := by decide +kernel
theorem d_Rd_readDigits_28 : decode b_Rd_readDigits 28 = .ok (.isub, 1) := by decide +kernel
theorem d_Rd_readDigits_29 : decode b_Rd_readDigits 29 = .ok (.invokevirtual 123, 3) := by decide +kernel
theorem d_Rd_readDigits_32 : decode b_Rd_readDigits 32 = .ok (.aload_n 0, 1) := by decide +kernel
theorem d_Rd_readDigits_33 : decode b_Rd_readDigits 33 = .ok (.dup, 1) := by decide +kernel
theorem d_Rd_readDigits_34 : decode b_Rd_readDigits 34 = .ok (.getfield 28, 3) := by decide +kernel
theorem d_Rd_readDigits_37 : decode b_Rd_readDigits 37 = .ok (.iconst 1, 1) := by decide +kernel
theorem d_Rd_readDigits_38 : decode b_Rd_readDigits 38 = .ok (.iadd, 1) := by decide +kernel
theorem d_Rd_readDigits_39 : decode b_Rd_readDigits 39 = .ok (.putfield 28, 3) := by decide +kernel
theorem d_Rd_readDigits_42 : decode b_Rd_readDigits 42 = .ok (.iinc 2 1, 3) := by decide +kernel
theorem d_Rd_readDigits_45 : decode b_Rd_readDigits 45 = .ok (.goto (-43), 3) := by decide +kernel
theorem d_Rd_readDigits_48 : decode b_Rd_readDigits 48 = .ok (.iload_n 1, 1) := by decide +kernel
theorem d_Rd_readDigits_49 : decode b_Rd_readDigits 49 = .ok (.ireturn, 1) := by decide +kernel
theorem d_Rd_readExponent_0 : decode b_Rd_readExponent 0 = .ok (.iconst 0, 1) := by decide +kernel
theorem d_Rd_readExponent_1 : decode b_Rd_readExponent 1 = .ok (.istore_n 1, 1) := by decide +kernel
theorem d_Rd_readExponent_2 : decode b_Rd_readExponent 2 = .ok (.iconst 0, 1) := by decide +kernel
theorem d_Rd_readExponent_3 : decode b_Rd_readExponent 3 = .ok (.istore_n 2, 1) := by decide +kernel
theorem d_Rd_readExponent_4 : decode b_Rd_readExponent 4 = .ok (.iload_n 2, 1) := by decide +kernel
theorem d_Rd_readExponent_5 : decode b_Rd_readExponent 5 = .ok (.sipush 8192, 3) := by decide +kernel
theorem d_Rd_readExponent_8 : decode b_Rd_readExponent 8 = .ok (.if_icmp .ge 48, 3) := by decide +kernel
theorem d_Rd_readExponent_11 : decode b_Rd_readExponent 11 = .ok (.aload_n 0, 1) := by decide +kernel
theorem d_Rd_readExponent_12 : decode b_Rd_readExponent 12 = .ok (.invokevirtual 48, 3) := by decide +kernel
theorem d_Rd_readExponent_15 : decode b_Rd_readExponent 15 = .ok (.istore_n 3, 1) := by decide +kernel
theorem d_Rd_readExponent_16 : decode b_Rd_readExponent 16 = .ok (.iload_n 3, 1) := by decide +kernel
theorem d_Rd_readExponent_17 : decode b_Rd_readExponent 17 = .ok (.invokestatic 52, 3) := by decide +kernel
theorem d_Rd_readExponent_20 : decode b_Rd_readExponent 20 = .ok (.ifCond .ne 5, 3) := by decide +kernel
theorem d_Rd_readExponent_23 : decode b_Rd_readExponent 23 = .ok (.iload_n 1, 1) := by decide +kernel
theorem d_Rd_readExponent_24 : decode b_Rd_readExponent 24 = .ok (.ireturn, 1) := by decide +kernel
theorem d_Rd_readExponent_25 : decode b_Rd_readExponent 25 = .ok (.iload_n 2, 1) := by decide +kernel
theorem d_Rd_readExponent_26 : decode b_Rd_readExponent 26 = .ok (.iconst 3, 1) := by decide +kernel
theorem d_Rd_readExponent_27 : decode b_Rd_readExponent 27 = .ok (.if_icmp .ge 13, 3) := by decide +kernel
theorem d_Rd_readExponent_30 : decode b_Rd_readExponent 30 = .ok (.iload_n 1, 1) := by decide +kernel
theorem d_Rd_readExponent_31 : decode b_Rd_readExponent 31 = .ok (.bipush 10, 2) := by decide +kernel
theorem d_Rd_readExponent_33 : decode b_Rd_readExponent 33 = .ok (.imul, 1) := by decide +kernel
theorem d_Rd_readExponent_34 : decode b_Rd_readExponent 34 = .ok (.iload_n 3, 1) := by decide +kernel
theorem d_Rd_readExponent_35 : decode b_Rd_readExponent 35 = .ok (.iadd, 1) := by decide +kernel
theorem d_Rd_readExponent_36 : decode b_Rd_readExponent 36 = .ok (.bipush 48, 2) := by decide +kernel
theorem d_Rd_readExponent_38 : decode b_Rd_readExponent 38 = .ok (.isub, 1) := by decide +kernel
theorem d_Rd_readExponent_39 : decode b_Rd_readExponent 39 = .ok (.istore_n 1, 1) := by decide +kernel
theorem d_Rd_readExponent_40 : decode b_Rd_readExponent 40 = .ok (.aload_n 0, 1) := by decide +kernel
theorem d_Rd_readExponent_41 : decode b_Rd_readExponent 41 = .ok (.dup, 1) := by decide +kernel
theorem d_Rd_readExponent_42 : decode b_Rd_readExponent 42 = .ok (.getfield 28, 3) := by decide +kernel
theorem d_Rd_readExponent_45 : decode b_Rd_readExponent 45 = .ok (.iconst 1, 1) := by decide +kernel
theorem d_Rd_readExponent_46 : decode b_Rd_readExponent 46 = .ok (.iadd, 1) := by decide +kernel
theorem d_Rd_readExponent_47 : decode b_Rd_readExponent 47 = .ok (.putfield 28, 3) := by decide +kernel
theorem d_Rd_readExponent_50 : decode b_Rd_readExponent 50 = .ok (.iinc 2 1, 3) := by decide +kernel
theorem d_Rd_readExponent_53 : decode b_Rd_readExponent 53 = .ok (.goto (-49), 3) := by decide +kernel
theorem d_Rd_readExponent_56 : decode b_Rd_readExponent 56 = .ok (.iload_n 1, 1) := by decide +kernel
theorem d_Rd_readExponent_57 : decode b_Rd_readExponent 57 = .ok (.ireturn, 1) := by decide +kernel
theorem d_Tx_endNumber_0 : decode b_Tx_endNumber 0 = .ok (.iload_n 1, 1) := by decide +kernel
theorem d_Tx_endNumber_1 : decode b_Tx_endNumber 1 = .ok (.ifCond .lt 11, 3) := by decide +kernel
theorem d_Tx_endNumber_4 : decode b_Tx_endNumber 4 = .ok (.iload_n 1, 1) := by decide +kernel
theorem d_Tx_endNumber_5 : decode b_Tx_endNumber 5 = .ok (.aload_n 0, 1) := by decide +kernel
theorem d_Tx_endNumber_6 : decode b_Tx_endNumber 6 = .ok (.getfield 43, 3) := by decide +kernel
theorem d_Tx_endNumber_9 : decode b_Tx_endNumber 9 = .ok (.if_icmp .lt 4, 3) := by decide +kernel
theorem d_Tx_endNumber_12 : decode b_Tx_endNumber 12 = .ok (.return_, 1) := by decide +kernel
theorem d_Tx_endNumber_13 : decode b_Tx_endNumber 13 = .ok (.aload_n 0, 1) := by decide +kernel
theorem d_Tx_endNumber_14 : decode b_Tx_endNumber 14 = .ok (.getfield 27, 3) := by decide +kernel
theorem d_Tx_endNumber_17 : decode b_Tx_endNumber 17 = .ok (.iload_n 1, 1) := by decide +kernel
theorem d_Tx_endNumber_18 : decode b_Tx_endNumber 18 = .ok (.iaload, 1) := by decide +kernel
theorem d_Tx_endNumber_19 : decode b_Tx_endNumber 19 = .ok (.istore 4, 2) := by decide +kernel
theorem d_Tx_endNumber_21 : decode b_Tx_endNumber 21 = .ok (.aload_n 0, 1) := by decide +kernel
theorem d_Tx_endNumber_22 : decode b_Tx_endNumber 22 = .ok (.getfield 47, 3) := by decide +kernel
theorem d_Tx_endNumber_25 : decode b_Tx_endNumber 25 = .ok (.istore 5, 2) := by decide +kernel
theorem d_Tx_endNumber_27 : decode b_Tx_endNumber 27 = .ok (.iload 5, 2) := by decide +kernel
theorem d_Tx_endNumber_29 : decode b_Tx_endNumber 29 = .ok (.iload 4, 2) := by decide +kernel
theorem d_Tx_endNumber_31 : decode b_Tx_endNumber 31 = .ok (.if_icmp .le 21, 3) := by decide +kernel
theorem d_Tx_endNumber_34 : decode b_Tx_endNumber 34 = .ok (.aload_n 0, 1) := by decide +kernel
theorem d_Tx_endNumber_35 : decode b_Tx_endNumber 35 = .ok (.getfield 40, 3) := by decide +kernel
theorem d_Tx_endNumber_38 : decode b_Tx_endNumber 38 = .ok (.iload 5, 2) := by decide +kernel
theorem d_Tx_endNumber_40 : decode b_Tx_endNumber 40 = .ok (.iconst 1, 1) := by decide +kernel
theorem d_Tx_endNumber_41 : decode b_Tx_endNumber 41 = .ok (.isub, 1) := by decide +kernel
theorem d_Tx_endNumber_42 : decode b_Tx_endNumber 42 = .ok (.iaload, 1) := by decide +kernel
theorem d_Tx_endNumber_43 : decode b_Tx_endNumber 43 = .ok (.ifCond .ne 9, 3) := by decide +kernel
theorem d_Tx_endNumber_46 : decode b_Tx_endNumber 46 = .ok (.iinc 5 (-1), 3) := by decide +kernel
theorem d_Tx_endNumber_49 : decode b_Tx_endNumber 49 = .ok (.goto (-22), 3) := by decide +kernel
theorem d_Tx_endNumber_52 : decode b_Tx_endNumber 52 = .ok (.iload 4, 2) := by decide +kernel
theorem d_Tx_endNumber_54 : decode b_Tx_endNumber 54 = .ok (.iload 5, 2) := by decide +kernel
theorem d_Tx_endNumber_56 : decode b_Tx_endNumber 56 = .ok (.if_icmp .ge 19, 3) := by decide +kernel
theorem d_Tx_endNumber_59 : decode b_Tx_endNumber 59 = .ok (.aload_n 0, 1) := by decide +kernel
theorem d_Tx_endNumber_60 : decode b_Tx_endNumber 60 = .ok (.getfield 40, 3) := by decide +kernel
theorem d_Tx_endNumber_63 : decode b_Tx_endNumber 63 = .ok (.iload 4, 2) := by decide +kernel
theorem d_Tx_endNumber_65 : decode b_Tx_endNumber 65 = .ok (.iaload, 1) := by decide +kernel
theorem d_Tx_endNumber_66 : decode b_Tx_endNumber 66 = .ok (.ifCond .ne 9, 3) := by decide +kernel
theorem d_Tx_endNumber_69 : decode b_Tx_endNumber 69 = .ok (.iinc 4 1, 3) := by decide +kernel
theorem d_Tx_endNumber_72 : decode b_Tx_endNumber 72 = .ok (.goto (-20), 3) := by decide +kernel
theorem d_Tx_endNumber_75 : decode b_Tx_endNumber 75 = .ok (.aload_n 0, 1) := by decide +kernel
theorem d_Tx_endNumber_76 : decode b_Tx_endNumber 76 = .ok (.getfield 27, 3) := by decide +kernel
theorem d_Tx_endNumber_79 : decode b_Tx_endNumber 79 = .ok (.iload_n 1, 1) := by decide +kernel
theorem d_Tx_endNumber_80 : decode b_Tx_endNumber 80 = .ok (.iload 4, 2) := by decide +kernel
theorem d_Tx_endNumber_82 : decode b_Tx_endNumber 82 = .ok (.iastore, 1) := by decide +kernel
theorem d_Tx_endNumber_83 : decode b_Tx_endNumber 83 = .ok (.aload_n 0, 1) := by decide +kernel
theorem d_Tx_endNumber_84 : decode b_Tx_endNumber 84 = .ok (.getfield 18, 3) := by decide +kernel
theorem d_Tx_endNumber_87 : decode b_Tx_endNumber 87 = .ok (.iload_n 1, 1) := by decide +kernel
theorem d_Tx_endNumber_88 : decode b_Tx_endNumber 88 = .ok (.iload 5, 2) := by decide +kernel
theorem d_Tx_endNumber_90 : decode b_Tx_endNumber 90 = .ok (.iload 4, 2) := by decide +kernel
theorem d_Tx_endNumber_92 : decode b_Tx_endNumber 92 = .ok (.isub, 1) := by decide +kernel
theorem d_Tx_endNumber_93 : decode b_Tx_endNumber 93 = .ok (.iastore, 1) := by decide +kernel
theorem d_Tx_endNumber_94 : decode b_Tx_endNumber 94 = .ok (.aload_n 0, 1) := by decide +kernel
theorem d_Tx_endNumber_95 : decode b_Tx_endNumber 95 = .ok (.getfield 24, 3) := by decide +kernel
theorem d_Tx_endNumber_98 : decode b_Tx_endNumber 98 = .ok (.iload_n 1, 1) := by decide +kernel
theorem d_Tx_endNumber_99 : decode b_Tx_endNumber 99 = .ok (.iload 5, 2) := by decide +kernel
theorem d_Tx_endNumber_101 : decode b_Tx_endNumber 101 = .ok (.iload 4, 2) := by decide +kernel
theorem d_Tx_endNumber_103 : decode b_Tx_endNumber 103 = .ok (.if_icmp .ne 7, 3) := by decide +kernel
theorem d_Tx_endNumber_106 : decode b_Tx_endNumber 106 = .ok (.iconst 0, 1) := by decide +kernel
theorem d_Tx_endNumber_107 : decode b_Tx_endNumber 107 = .ok (.goto 12, 3) := by decide +kernel
theorem d_Tx_endNumber_110 : decode b_Tx_endNumber 110 = .ok (.iload_n 3, 1) := by decide +kernel
theorem d_Tx_endNumber_111 : decode b_Tx_endNumber 111 = .ok (.aload_n 0, 1) := by decide +kernel
theorem d_Tx_endNumber_112 : decode b_Tx_endNumber 112 = .ok (.getfield 47, 3) := by decide +kernel
theorem d_Tx_endNumber_115 : decode b_Tx_endNumber 115 = .ok (.iadd, 1) := by decide +kernel
theorem d_Tx_endNumber_116 : decode b_Tx_endNumber 116 = .ok (.iload 5, 2) := by decide +kernel
theorem d_Tx_endNumber_118 : decode b_Tx_endNumber 118 = .ok (.isub, 1) := by decide +kernel
theorem d_Tx_endNumber_119 : decode b_Tx_endNumber 119 = .ok (.iastore, 1) := by decide +kernel
theorem d_Tx_endNumber_120 : decode b_Tx_endNumber 120 = .ok (.aload_n 0, 1) := by decide +kernel
theorem d_Tx_endNumber_121 : decode b_Tx_endNumber 121 = .ok (.getfield 36, 3) := by decide +kernel
theorem d_Tx_endNumber_124 : decode b_Tx_endNumber 124 = .ok (.iload_n 1, 1) := by decide +kernel
theorem d_Tx_endNumber_125 : decode b_Tx_endNumber 125 = .ok (.iload_n 2, 1) := by decide +kernel
theorem d_Tx_endNumber_126 : decode b_Tx_endNumber 126 = .ok (.ifCond .eq 14, 3) := by decide +kernel
theorem d_Tx_endNumber_129 : decode b_Tx_endNumber 129 = .ok (.iload 5, 2) := by decide +kernel
theorem d_Tx_endNumber_131 : decode b_Tx_endNumber 131 = .ok (.iload 4, 2) := by decide +kernel
theorem d_Tx_endNumber_133 : decode b_Tx_endNumber 133 = .ok (.if_icmp .le 7, 3) := by decide +kernel
theorem d_Tx_endNumber_136 : decode b_Tx_endNumber 136 = .ok (.iconst 1, 1) := by decide +kernel
theorem d_Tx_endNumber_137 : decode b_Tx_endNumber 137 = .ok (.goto 4, 3) := by decide +kernel
theorem d_Tx_endNumber_140 : decode b_Tx_endNumber 140 = .ok (.iconst 0, 1) := by decide +kernel
theorem d_Tx_endNumber_141 : decode b_Tx_endNumber 141 = .ok (.bastore, 1) := by decide +kernel
theorem d_Tx_endNumber_142 : decode b_Tx_endNumber 142 = .ok (.return_, 1) := by decide +kernel
theorem d_Rd_readNumber_0 : decode b_Rd_readNumber 0 = .ok (.aload_n 0, 1) := by decide +kernel
theorem d_Rd_readNumber_1 : decode b_Rd_readNumber 1 = .ok (.getfield 28, 3) := by decide +kernel
theorem d_Rd_readNumber_4 : decode b_Rd_readNumber 4 = .ok (.istore_n 2, 1) := by decide +kernel
theorem d_Rd_readNumber_5 : decode b_Rd_readNumber 5 = .ok (.aload_n 0, 1) := by decide +kernel
theorem d_Rd_readNumber_6 : decode b_Rd_readNumber 6 = .ok (.invokevirtual 48, 3) := by decide +kernel
theorem d_Rd_readNumber_9 : decode b_Rd_readNumber 9 = .ok (.bipush 45, 2) := by decide +kernel
theorem d_Rd_readNumber_11 : decode b_Rd_readNumber 11 = .ok (.if_icmp .ne 7, 3) := by decide +kernel
theorem d_Rd_readNumber_14 : decode b_Rd_readNumber 14 = .ok (.iconst 1, 1) := by decide +kernel
theorem d_Rd_readNumber_15 : decode b_Rd_readNumber 15 = .ok (.goto 4, 3) := by decide +kernel
theorem d_Rd_readNumber_18 : decode b_Rd_readNumber 18 = .ok (.iconst 0, 1) := by decide +kernel
theorem d_Rd_readNumber_19 : decode b_Rd_readNumber 19 = .ok (.istore_n 3, 1) := by decide +kernel
theorem d_Rd_readNumber_20 : decode b_Rd_readNumber 20 = .ok (.iload_n 3, 1) := by decide +kernel
theorem d_Rd_readNumber_21 : decode b_Rd_readNumber 21 = .ok (.ifCond .eq 13, 3) := by decide +kernel
theorem d_Rd_readNumber_24 : decode b_Rd_readNumber 24 = .ok (.aload_n 0, 1) := by decide +kernel
theorem d_Rd_readNumber_25 : decode b_Rd_readNumber 25 = .ok (.dup, 1) := by decide +kernel
theorem d_Rd_readNumber_26 : decode b_Rd_readNumber 26 = .ok (.getfield 28, 3) := by decide +kernel
theorem d_Rd_readNumber_29 : decode b_Rd_readNumber 29 = .ok (.iconst 1, 1) := by decide +kernel
theorem d_Rd_readNumber_30 : decode b_Rd_readNumber 30 = .ok (.iadd, 1) := by decide +kernel
theorem d_Rd_readNumber_31 : decode b_Rd_readNumber 31 = .ok (.putfield 28, 3) := by decide +kernel
theorem d_Rd_readNumber_34 : decode b_Rd_readNumber 34 = .ok (.aload_n 0, 1) := by decide +kernel
theorem d_Rd_readNumber_35 : decode b_Rd_readNumber 35 = .ok (.invokevirtual 48, 3) := by decide +kernel
theorem d_Rd_readNumber_38 : decode b_Rd_readNumber 38 = .ok (.bipush 48, 2) := by decide +kernel
theorem d_Rd_readNumber_40 : decode b_Rd_readNumber 40 = .ok (.if_icmp .ne 11, 3) := by decide +kernel
theorem d_Rd_readNumber_43 : decode b_Rd_readNumber 43 = .ok (.aload_n 0, 1) := by decide +kernel
theorem d_Rd_readNumber_44 : decode b_Rd_readNumber 44 = .ok (.iconst 1, 1) := by decide +kernel
theorem d_Rd_readNumber_45 : decode b_Rd_readNumber 45 = .ok (.invokevirtual 113, 3) := by decide +kernel
theorem d_Rd_readNumber_48 : decode b_Rd_readNumber 48 = .ok (.goto 10, 3) := by decide +kernel
theorem d_Rd_readNumber_51 : decode b_Rd_readNumber 51 = .ok (.aload_n 0, 1) := by decide +kernel
theorem d_Rd_readNumber_52 : decode b_Rd_readNumber 52 = .ok (.sipush 8192, 3) := by decide +kernel
theorem d_Rd_readNumber_55 : decode b_Rd_readNumber 55 = .ok (.invokevirtual 113, 3) := by decide +kernel
theorem d_Rd_readNumber_58 : decode b_Rd_readNumber 58 = .ok (.istore 4, 2) := by decide +kernel
theorem d_Rd_readNumber_60 : decode b_Rd_readNumber 60 = .ok (.iload 4, 2) := by decide +kernel
theorem d_Rd_readNumber_62 : decode b_Rd_readNumber 62 = .ok (.ifCond .ne 12, 3) := by decide +kernel
theorem d_Rd_readNumber_65 : decode b_Rd_readNumber 65 = .ok (.aload_n 0, 1) := by decide +kernel
theorem d_Rd_readNumber_66 : decode b_Rd_readNumber 66 = .ok (.aload_n 0, 1) := by decide +kernel
theorem d_Rd_readNumber_67 : decode b_Rd_readNumber 67 = .ok (.getfield 28, 3) := by decide +kernel
theorem d_Rd_readNumber_70 : decode b_Rd_readNumber 70 = .ok (.invokevirtual 44, 3) := by decide +kernel
theorem d_Rd_readNumber_73 : decode b_Rd_readNumber 73 = .ok (.ireturn, 1) := by decide +kernel
theorem d_Rd_readNumber_74 : decode b_Rd_readNumber 74 = .ok (.iconst 0, 1) := by decide +kernel
theorem d_Rd_readNumber_75 : decode b_Rd_readNumber 75 = .ok (.istore 5, 2) := by decide +kernel
theorem d_Rd_readNumber_77 : decode b_Rd_readNumber 77 = .ok (.aload_n 0, 1) := by decide +kernel
theorem d_Rd_readNumber_78 : decode b_Rd_readNumber 78 = .ok (.invokevirtual 48, 3) := by decide +kernel
theorem d_Rd_readNumber_81 : decode b_Rd_readNumber 81 = .ok (.bipush 46, 2) := by decide +kernel
theorem d_Rd_readNumber_83 : decode b_Rd_readNumber 83 = .ok (.if_icmp .ne 36, 3) := by decide +kernel
theorem d_Rd_readNumber_86 : decode b_Rd_readNumber 86 = .ok (.aload_n 0, 1) := by decide +kernel
theorem d_Rd_readNumber_87 : decode b_Rd_readNumber 87 = .ok (.dup, 1) := by decide +kernel
theorem d_Rd_readNumber_88 : decode b_Rd_readNumber 88 = .ok (.getfield 28, 3) := by decide +kernel
theorem d_Rd_readNumber_91 : decode b_Rd_readNumber 91 = .ok (.iconst 1, 1) := by decide +kernel
theorem d_Rd_readNumber_92 : decode b_Rd_readNumber 92 = .ok (.iadd, 1) := by decide +kernel
theorem d_Rd_readNumber_93 : decode b_Rd_readNumber 93 = .ok (.putfield 28, 3) := by decide +kernel
theorem d_Rd_readNumber_96 : decode b_Rd_readNumber 96 = .ok (.aload_n 0, 1) := by decide +kernel
theorem d_Rd_readNumber_97 : decode b_Rd_readNumber 97 = .ok (.sipush 8192, 3) := by decide +kernel
theorem d_Rd_readNumber_100 : decode b_Rd_readNumber 100 = .ok (.invokevirtual 113, 3) := by decide +kernel
theorem d_Rd_readNumber_103 : decode b_Rd_readNumber 103 = .ok (.istore 5, 2) := by decide +kernel
theorem d_Rd_readNumber_105 : decode b_Rd_readNumber 105 = .ok (.iload 5, 2) := by decide +kernel
theorem d_Rd_readNumber_107 : decode b_Rd_readNumber 107 = .ok (.ifCond .ne 12, 3) := by decide +kernel
theorem d_Rd_readNumber_110 : decode b_Rd_readNumber 110 = .ok (.aload_n 0, 1) := by decide +kernel
theorem d_Rd_readNumber_111 : decode b_Rd_readNumber 111 = .ok (.aload_n 0, 1) := by decide +kernel
theorem d_Rd_readNumber_112 : decode b_Rd_readNumber 112 = .ok (.getfield 28, 3) := by decide +kernel
theorem d_Rd_readNumber_115 : decode b_Rd_readNumber 115 = .ok (.invokevirtual 44, 3) := by decide +kernel
theorem d_Rd_readNumber_118 : decode b_Rd_readNumber 118 = .ok (.ireturn, 1) := by decide +kernel
theorem d_Rd_readNumber_119 : decode b_Rd_readNumber 119 = .ok (.iload 4, 2) := by decide +kernel
theorem d_Rd_readNumber_121 : decode b_Rd_readNumber 121 = .ok (.iload 5, 2) := by decide +kernel
theorem d_Rd_readNumber_123 : decode b_Rd_readNumber 123 = .ok (.iadd, 1) := by decide +kernel
theorem d_Rd_readNumber_124 : decode b_Rd_readNumber 124 = .ok (.bipush 60, 2) := by decide +kernel
theorem d_Rd_readNumber_126 : decode b_Rd_readNumber 126 = .ok (.if_icmp .gt 7, 3) := by decide +kernel
theorem d_Rd_readNumber_129 : decode b_Rd_readNumber 129 = .ok (.iconst 1, 1) := by decide +kernel
theorem d_Rd_readNumber_130 : decode b_Rd_readNumber 130 = .ok (.goto 4, 3) := by decide +kernel
theorem d_Rd_readNumber_133 : decode b_Rd_readNumber 133 = .ok (.iconst 0, 1) := by decide +kernel
theorem d_Rd_readNumber_134 : decode b_Rd_readNumber 134 = .ok (.istore 6, 2) := by decide +kernel
theorem d_Rd_readNumber_136 : decode b_Rd_readNumber 136 = .ok (.iconst 0, 1) := by decide +kernel
theorem d_Rd_readNumber_137 : decode b_Rd_readNumber 137 = .ok (.istore 7, 2) := by decide +kernel
theorem d_Rd_readNumber_139 : decode b_Rd_readNumber 139 = .ok (.aload_n 0, 1) := by decide +kernel
theorem d_Rd_readNumber_140 : decode b_Rd_readNumber 140 = .ok (.invokevirtual 48, 3) := by decide +kernel
theorem d_Rd_readNumber_143 : decode b_Rd_readNumber 143 = .ok (.bipush 101, 2) := by decide +kernel
theorem d_Rd_readNumber_145 : decode b_Rd_readNumber 145 = .ok (.if_icmp .eq 12, 3) := by decide +kernel
theorem d_Rd_readNumber_148 : decode b_Rd_readNumber 148 = .ok (.aload_n 0, 1) := by decide +kernel
theorem d_Rd_readNumber_149 : decode b_Rd_readNumber 149 = .ok (.invokevirtual 48, 3) := by decide +kernel
theorem d_Rd_readNumber_152 : decode b_Rd_readNumber 152 = .ok (.bipush 69, 2) := by decide +kernel
theorem d_Rd_readNumber_154 : decode b_Rd_readNumber 154 = .ok (.if_icmp .ne 121, 3) := by decide +kernel
theorem d_Rd_readNumber_157 : decode b_Rd_readNumber 157 = .ok (.aload_n 0, 1) := by decide +kernel
theorem d_Rd_readNumber_158 : decode b_Rd_readNumber 158 = .ok (.dup, 1) := by decide +kernel
theorem d_Rd_readNumber_159 : decode b_Rd_readNumber 159 = .ok (.getfield 28, 3) := by decide +kernel
theorem d_Rd_readNumber_162 : decode b_Rd_readNumber 162 = .ok (.iconst 1, 1) := by decide +kernel
theorem d_Rd_readNumber_163 : decode b_Rd_readNumber 163 = .ok (.iadd, 1) := by decide +kernel
theorem d_Rd_readNumber_164 : decode b_Rd_readNumber 164 = .ok (.putfield 28, 3) := by decide +kernel
theorem d_Rd_readNumber_167 : decode b_Rd_readNumber 167 = .ok (.aload_n 0, 1) := by decide +kernel
theorem d_Rd_readNumber_168 : decode b_Rd_readNumber 168 = .ok (.invokevirtual 48, 3) := by decide +kernel
theorem d_Rd_readNumber_171 : decode b_Rd_readNumber 171 = .ok (.bipush 45, 2) := by decide +kernel
theorem d_Rd_readNumber_173 : decode b_Rd_readNumber 173 = .ok (.if_icmp .ne 7, 3) := by decide +kernel
theorem d_Rd_readNumber_176 : decode b_Rd_readNumber 176 = .ok (.iconst 1, 1) := by decide +kernel
theorem d_Rd_readNumber_177 : decode b_Rd_readNumber 177 = .ok (.goto 4, 3) := by decide +kernel
theorem d_Rd_readNumber_180 : decode b_Rd_readNumber 180 = .ok (.iconst 0, 1) := by decide +kernel
theorem d_Rd_readNumber_181 : decode b_Rd_readNumber 181 = .ok (.istore 8, 2) := by decide +kernel
theorem d_Rd_readNumber_183 : decode b_Rd_readNumber 183 = .ok (.iload 8, 2) := by decide +kernel
theorem d_Rd_readNumber_185 : decode b_Rd_readNumber 185 = .ok (.ifCond .ne 12, 3) := by decide +kernel
theorem d_Rd_readNumber_188 : decode b_Rd_readNumber 188 = .ok (.aload_n 0, 1) := by decide +kernel
theorem d_Rd_readNumber_189 : decode b_Rd_readNumber 189 = .ok (.invokevirtual 48, 3) := by decide +kernel
theorem d_Rd_readNumber_192 : decode b_Rd_readNumber 192 = .ok (.bipush 43, 2) := by decide +kernel
theorem d_Rd_readNumber_194 : decode b_Rd_readNumber 194 = .ok (.if_icmp .ne 13, 3) := by decide +kernel
theorem d_Rd_readNumber_197 : decode b_Rd_readNumber 197 = .ok (.aload_n 0, 1) := by decide +kernel
theorem d_Rd_readNumber_198 : decode b_Rd_readNumber 198 = .ok (.dup, 1) := by decide +kernel
theorem d_Rd_readNumber_199 : decode b_Rd_readNumber 199 = .ok (.getfield 28, 3) := by decide +kernel
theorem d_Rd_readNumber_202 : decode b_Rd_readNumber 202 = .ok (.iconst 1, 1) := by decide +kernel
theorem d_Rd_readNumber_203 : decode b_Rd_readNumber 203 = .ok (.iadd, 1) := by decide +kernel
theorem d_Rd_readNumber_204 : decode b_Rd_readNumber 204 = .ok (.putfield 28, 3) := by decide +kernel
theorem d_Rd_readNumber_207 : decode b_Rd_readNumber 207 = .ok (.aload_n 0, 1) := by decide +kernel
theorem d_Rd_readNumber_208 : decode b_Rd_readNumber 208 = .ok (.getfield 28, 3) := by decide +kernel
theorem d_Rd_readNumber_211 : decode b_Rd_readNumber 211 = .ok (.istore 9, 2) := by decide +kernel
theorem d_Rd_readNumber_213 : decode b_Rd_readNumber 213 = .ok (.aload_n 0, 1) := by decide +kernel
theorem d_Rd_readNumber_214 : decode b_Rd_readNumber 214 = .ok (.invokevirtual 116, 3) := by decide +kernel
theorem d_Rd_readNumber_217 : decode b_Rd_readNumber 217 = .ok (.istore 7, 2) := by decide +kernel
theorem d_Rd_readNumber_219 : decode b_Rd_readNumber 219 = .ok (.aload_n 0, 1) := by decide +kernel
theorem d_Rd_readNumber_220 : decode b_Rd_readNumber 220 = .ok (.getfield 28, 3) := by decide +kernel
theorem d_Rd_readNumber_223 : decode b_Rd_readNumber 223 = .ok (.iload 9, 2) := by decide +kernel
theorem d_Rd_readNumber_225 : decode b_Rd_readNumber 225 = .ok (.if_icmp .ne 12, 3) := by decide +kernel
theorem d_Rd_readNumber_228 : decode b_Rd_readNumber 228 = .ok (.aload_n 0, 1) := by decide +kernel
theorem d_Rd_readNumber_229 : decode b_Rd_readNumber 229 = .ok (.aload_n 0, 1) := by decide +kernel
theorem d_Rd_readNumber_230 : decode b_Rd_readNumber 230 = .ok (.getfield 28, 3) := by decide +kernel
theorem d_Rd_readNumber_233 : decode b_Rd_readNumber 233 = .ok (.invokevirtual 44, 3) := by decide +kernel
theorem d_Rd_readNumber_236 : decode b_Rd_readNumber 236 = .ok (.ireturn, 1) := by decide +kernel
theorem d_Rd_readNumber_237 : decode b_Rd_readNumber 237 = .ok (.iload 6, 2) := by decide +kernel
theorem d_Rd_readNumber_239 : decode b_Rd_readNumber 239 = .ok (.ifCond .eq 18, 3) := by decide +kernel
theorem d_Rd_readNumber_242 : decode b_Rd_readNumber 242 = .ok (.aload_n 0, 1) := by decide +kernel
theorem d_Rd_readNumber_243 : decode b_Rd_readNumber 243 = .ok (.getfield 28, 3) := by decide +kernel
theorem d_Rd_readNumber_246 : decode b_Rd_readNumber 246 = .ok (.iload 9, 2) := by decide +kernel
theorem d_Rd_readNumber_248 : decode b_Rd_readNumber 248 = .ok (.isub, 1) := by decide +kernel
theorem d_Rd_readNumber_249 : decode b_Rd_readNumber 249 = .ok (.iconst 3, 1) := by decide +kernel
theorem d_Rd_readNumber_250 : decode b_Rd_readNumber 250 = .ok (.if_icmp .gt 7, 3) := by decide +kernel
theorem d_Rd_readNumber_253 : decode b_Rd_readNumber 253 = .ok (.iconst 1, 1) := by decide +kernel
theorem d_Rd_readNumber_254 : decode b_Rd_readNumber 254 = .ok (.goto 4, 3) := by decide +kernel
theorem d_Rd_readNumber_257 : decode b_Rd_readNumber 257 = .ok (.iconst 0, 1) := by decide +kernel
theorem d_Rd_readNumber_258 : decode b_Rd_readNumber 258 = .ok (.istore 6, 2) := by decide +kernel
theorem d_Rd_readNumber_260 : decode b_Rd_readNumber 260 = .ok (.iload 8, 2) := by decide +kernel
theorem d_Rd_readNumber_262 : decode b_Rd_readNumber 262 = .ok (.ifCond .eq 9, 3) := by decide +kernel
theorem d_Rd_readNumber_265 : decode b_Rd_readNumber 265 = .ok (.iload 7, 2) := by decide +kernel
theorem d_Rd_readNumber_267 : decode b_Rd_readNumber 267 = .ok (.ineg, 1) := by decide +kernel
theorem d_Rd_readNumber_268 : decode b_Rd_readNumber 268 = .ok (.goto 5, 3) := by decide +kernel
theorem d_Rd_readNumber_271 : decode b_Rd_readNumber 271 = .ok (.iload 7, 2) := by decide +kernel
theorem d_Rd_readNumber_273 : decode b_Rd_readNumber 273 = .ok (.istore 7, 2) := by decide +kernel
theorem d_Rd_readNumber_275 : decode b_Rd_readNumber 275 = .ok (.iload 6, 2) := by decide +kernel
theorem d_Rd_readNumber_277 : decode b_Rd_readNumber 277 = .ok (.ifCond .ne 9, 3) := by decide +kernel
theorem d_Rd_readNumber_280 : decode b_Rd_readNumber 280 = .ok (.aload_n 0, 1) := by decide +kernel
theorem d_Rd_readNumber_281 : decode b_Rd_readNumber 281 = .ok (.iload_n 2, 1) := by decide +kernel
theorem d_Rd_readNumber_282 : decode b_Rd_readNumber 282 = .ok (.invokevirtual 44, 3) := by decide +kernel
theorem d_Rd_readNumber_285 : decode b_Rd_readNumber 285 = .ok (.ireturn, 1) := by decide +kernel
theorem d_Rd_readNumber_286 : decode b_Rd_readNumber 286 = .ok (.aload_n 0, 1) := by decide +kernel
theorem d_Rd_readNumber_287 : decode b_Rd_readNumber 287 = .ok (.getfield 15, 3) := by decide +kernel
theorem d_Rd_readNumber_290 : decode b_Rd_readNumber 290 = .ok (.iload_n 1, 1) := by decide +kernel
theorem d_Rd_readNumber_291 : decode b_Rd_readNumber 291 = .ok (.iload_n 3, 1) := by decide +kernel
theorem d_Rd_readNumber_292 : decode b_Rd_readNumber 292 = .ok (.iload 7, 2) := by decide +kernel
theorem d_Rd_readNumber_294 : decode b_Rd_readNumber 294 = .ok (.iload 5, 2) := by decide +kernel
theorem d_Rd_readNumber_296 : decode b_Rd_readNumber 296 = .ok (.isub, 1) := by decide +kernel
theorem d_Rd_readNumber_297 : decode b_Rd_readNumber 297 = .ok (.invokevirtual 119, 3) := by decide +kernel
theorem d_Rd_readNumber_300 : decode b_Rd_readNumber 300 = .ok (.iconst 1, 1) := by decide +kernel
theorem d_Rd_readNumber_301 : decode b_Rd_readNumber 301 = .ok (.ireturn, 1) := by decide +kernel
theorem d_Tx_endString_0 : decode b_Tx_endString 0 = .ok (.iload_n 1, 1) := by decide +kernel
theorem d_Tx_endString_1 : decode b_Tx_endString 1 = .ok (.ifCond .lt 28, 3) := by decide +kernel
theorem d_Tx_endString_4 : decode b_Tx_endString 4 = .ok (.iload_n 1, 1) := by decide +kernel
theorem d_Tx_endString_5 : decode b_Tx_endString 5 = .ok (.aload_n 0, 1) := by decide +kernel
theorem d_Tx_endString_6 : decode b_Tx_endString 6 = .ok (.getfield 43, 3) := by decide +kernel
theorem d_Tx_endString_9 : decode b_Tx_endString 9 = .ok (.if_icmp .ge 20, 3) := by decide +kernel
theorem d_Tx_endString_12 : decode b_Tx_endString 12 = .ok (.aload_n 0, 1) := by decide +kernel
theorem d_Tx_endString_13 : decode b_Tx_endString 13 = .ok (.getfield 18, 3) := by decide +kernel
theorem d_Tx_endString_16 : decode b_Tx_endString 16 = .ok (.iload_n 1, 1) := by decide +kernel
theorem d_Tx_endString_17 : decode b_Tx_endString 17 = .ok (.aload_n 0, 1) := by decide +kernel
theorem d_Tx_endString_18 : decode b_Tx_endString 18 = .ok (.getfield 47, 3) := by decide +kernel
theorem d_Tx_endString_21 : decode b_Tx_endString 21 = .ok (.aload_n 0, 1) := by decide +kernel
theorem d_Tx_endString_22 : decode b_Tx_endString 22 = .ok (.getfield 27, 3) := by decide +kernel
theorem d_Tx_endString_25 : decode b_Tx_endString 25 = .ok (.iload_n 1, 1) := by decide +kernel
theorem d_Tx_endString_26 : decode b_Tx_endString 26 = .ok (.iaload, 1) := by decide +kernel
theorem d_Tx_endString_27 : decode b_Tx_endString 27 = .ok (.isub, 1) := by decide +kernel
theorem d_Tx_endString_28 : decode b_Tx_endString 28 = .ok (.iastore, 1) := by decide +kernel
theorem d_Tx_endString_29 : decode b_Tx_endString 29 = .ok (.return_, 1) := by decide +kernel
theorem d_Rd_readShortEscape_0 : decode b_Rd_readShortEscape 0 = .ok (.aload_n 0, 1) := by decide +kernel
theorem d_Rd_readShortEscape_1 : decode b_Rd_readShortEscape 1 = .ok (.getfield 28, 3) := by decide +kernel
theorem d_Rd_readShortEscape_4 : decode b_Rd_readShortEscape 4 = .ok (.istore_n 2, 1) := by decide +kernel
theorem d_Rd_readShortEscape_5 : decode b_Rd_readShortEscape 5 = .ok (.aload_n 0, 1) := by decide +kernel
theorem d_Rd_readShortEscape_6 : decode b_Rd_readShortEscape 6 = .ok (.dup, 1) := by decide +kernel
theorem d_Rd_readShortEscape_7 : decode b_Rd_readShortEscape 7 = .ok (.getfield 28, 3) := by decide +kernel
theorem d_Rd_readShortEscape_10 : decode b_Rd_readShortEscape 10 = .ok (.iconst 1, 1) := by decide +kernel
theorem d_Rd_readShortEscape_11 : decode b_Rd_readShortEscape 11 = .ok (.iadd, 1) := by decide +kernel
theorem d_Rd_readShortEscape_12 : decode b_Rd_readShortEscape 12 = .ok (.putfield 28, 3) := by decide +kernel
theorem d_Rd_readShortEscape_15 : decode b_Rd_readShortEscape 15 = .ok (.iload_n 1, 1) := by decide +kernel
theorem d_Rd_readShortEscape_16 : decode b_Rd_readShortEscape 16 = .ok (.lookupswitch 93 #[(34, 76), (47, 76), (92, 76), (98, 78), (102, 81), (110, 84), (114, 87), (116, 90)], 76) := by decide +kernel
theorem d_Rd_readShortEscape_92 : decode b_Rd_readShortEscape 92 = .ok (.iload_n 1, 1) := by decide +kernel
theorem d_Rd_readShortEscape_93 : decode b_Rd_readShortEscape 93 = .ok (.ireturn, 1) := by decide +kernel
theorem d_Rd_readShortEscape_94 : decode b_Rd_readShortEscape 94 = .ok (.bipush 8, 2) := by decide +kernel
theorem d_Rd_readShortEscape_96 : decode b_Rd_readShortEscape 96 = .ok (.ireturn, 1) := by decide +kernel
theorem d_Rd_readShortEscape_97 : decode b_Rd_readShortEscape 97 = .ok (.bipush 12, 2) := by decide +kernel
theorem d_Rd_readShortEscape_99 : decode b_Rd_readShortEscape 99 = .ok (.ireturn, 1) := by decide +kernel
theorem d_Rd_readShortEscape_100 : decode b_Rd_readShortEscape 100 = .ok (.bipush 10, 2) := by decide +kernel
theorem d_Rd_readShortEscape_102 : decode b_Rd_readShortEscape 102 = .ok (.ireturn, 1) := by decide +kernel
theorem d_Rd_readShortEscape_103 : decode b_Rd_readShortEscape 103 = .ok (.bipush 13, 2) := by decide +kernel
theorem d_Rd_readShortEscape_105 : decode b_Rd_readShortEscape 105 = .ok (.ireturn, 1) := by decide +kernel
theorem d_Rd_readShortEscape_106 : decode b_Rd_readShortEscape 106 = .ok (.bipush 9, 2) := by decide +kernel
theorem d_Rd_readShortEscape_108 : decode b_Rd_readShortEscape 108 = .ok (.ireturn, 1) := by decide +kernel
theorem d_Rd_readShortEscape_109 : decode b_Rd_readShortEscape 109 = .ok (.aload_n 0, 1) := by decide +kernel
theorem d_Rd_readShortEscape_110 : decode b_Rd_readShortEscape 110 = .ok (.iload_n 2, 1) := by decide +kernel
theorem d_Rd_readShortEscape_111 : decode b_Rd_readShortEscape 111 = .ok (.invokevirtual 44, 3) := by decide +kernel
theorem d_Rd_readShortEscape_114 : decode b_Rd_readShortEscape 114 = .ok (.pop, 1) := by decide +kernel
theorem d_Rd_readShortEscape_115 : decode b_Rd_readShortEscape 115 = .ok (.iconst (-1), 1) := by decide +kernel
theorem d_Rd_readShortEscape_116 : decode b_Rd_readShortEscape 116 = .ok (.ireturn, 1) := by decide +kernel
theorem d_SJ_hexDigit_0 : decode b_SJ_hexDigit 0 = .ok (.iload_n 0, 1) := by decide +kernel
theorem d_SJ_hexDigit_1 : decode b_SJ_hexDigit 1 = .ok (.bipush 48, 2) := by decide +kernel
theorem d_SJ_hexDigit_3 : decode b_SJ_hexDigit 3 = .ok (.if_icmp .lt 14, 3) := by decide +kernel
theorem d_SJ_hexDigit_6 : decode b_SJ_hexDigit 6 = .ok (.iload_n 0, 1) := by decide +kernel
theorem d_SJ_hexDigit_7 : decode b_SJ_hexDigit 7 = .ok (.bipush 57, 2) := by decide +kernel
theorem d_SJ_hexDigit_9 : decode b_SJ_hexDigit 9 = .ok (.if_icmp .gt 8, 3) := by decide +kernel
theorem d_SJ_hexDigit_12 : decode b_SJ_hexDigit 12 = .ok (.iload_n 0, 1) := by decide +kernel
theorem d_SJ_hexDigit_13 : decode b_SJ_hexDigit 13 = .ok (.bipush 48, 2) := by decide +kernel
theorem d_SJ_hexDigit_15 : decode b_SJ_hexDigit 15 = .ok (.isub, 1) := by decide +kernel
theorem d_SJ_hexDigit_16 : decode b_SJ_hexDigit 16 = .ok (.ireturn, 1) := by decide +kernel
theorem d_SJ_hexDigit_17 : decode b_SJ_hexDigit 17 = .ok (.iload_n 0, 1) := by decide +kernel
theorem d_SJ_hexDigit_18 : decode b_SJ_hexDigit 18 = .ok (.bipush 97, 2) := by decide +kernel
theorem d_SJ_hexDigit_20 : decode b_SJ_hexDigit 20 = .ok (.if_icmp .lt 17, 3) := by decide +kernel
theorem d_SJ_hexDigit_23 : decode b_SJ_hexDigit 23 = .ok (.iload_n 0, 1) := by decide +kernel
theorem d_SJ_hexDigit_24 : decode b_SJ_hexDigit 24 = .ok (.bipush 102, 2) := by decide +kernel
theorem d_SJ_hexDigit_26 : decode b_SJ_hexDigit 26 = .ok (.if_icmp .gt 11, 3) := by decide +kernel
theorem d_SJ_hexDigit_29 : decode b_SJ_hexDigit 29 = .ok (.iload_n 0, 1) := by decide +kernel
theorem d_SJ_hexDigit_30 : decode b_SJ_hexDigit 30 = .ok (.bipush 97, 2) := by decide +kernel
theorem d_SJ_hexDigit_32 : decode b_SJ_hexDigit 32 = .ok (.isub, 1) := by decide +kernel
theorem d_SJ_hexDigit_33 : decode b_SJ_hexDigit 33 = .ok (.bipush 10, 2) := by decide +kernel
theorem d_SJ_hexDigit_35 : decode b_SJ_hexDigit 35 = .ok (.iadd, 1) := by decide +kernel
theorem d_SJ_hexDigit_36 : decode b_SJ_hexDigit 36 = .ok (.ireturn, 1) := by decide +kernel
theorem d_SJ_hexDigit_37 : decode b_SJ_hexDigit 37 = .ok (.iload_n 0, 1) := by decide +kernel
theorem d_SJ_hexDigit_38 : decode b_SJ_hexDigit 38 = .ok (.bipush 65, 2) := by decide +kernel
theorem d_SJ_hexDigit_40 : decode b_SJ_hexDigit 40 = .ok (.if_icmp .lt 19, 3) := by decide +kernel
theorem d_SJ_hexDigit_43 : decode b_SJ_hexDigit 43 = .ok (.iload_n 0, 1) := by decide +kernel
theorem d_SJ_hexDigit_44 : decode b_SJ_hexDigit 44 = .ok (.bipush 70, 2) := by decide +kernel
theorem d_SJ_hexDigit_46 : decode b_SJ_hexDigit 46 = .ok (.if_icmp .gt 13, 3) := by decide +kernel
theorem d_SJ_hexDigit_49 : decode b_SJ_hexDigit 49 = .ok (.iload_n 0, 1) := by decide +kernel
theorem d_SJ_hexDigit_50 : decode b_SJ_hexDigit 50 = .ok (.bipush 65, 2) := by decide +kernel
theorem d_SJ_hexDigit_52 : decode b_SJ_hexDigit 52 = .ok (.isub, 1) := by decide +kernel
theorem d_SJ_hexDigit_53 : decode b_SJ_hexDigit 53 = .ok (.bipush 10, 2) := by decide +kernel
theorem d_SJ_hexDigit_55 : decode b_SJ_hexDigit 55 = .ok (.iadd, 1) := by decide +kernel
theorem d_SJ_hexDigit_56 : decode b_SJ_hexDigit 56 = .ok (.goto 4, 3) := by decide +kernel
theorem d_SJ_hexDigit_59 : decode b_SJ_hexDigit 59 = .ok (.iconst (-1), 1) := by decide +kernel
theorem d_SJ_hexDigit_60 : decode b_SJ_hexDigit 60 = .ok (.ireturn, 1) := by decide +kernel
theorem d_Rd_readHex_0 : decode b_Rd_readHex 0 = .ok (.iconst 0, 1) := by decide +kernel
theorem d_Rd_readHex_1 : decode b_Rd_readHex 1 = .ok (.istore_n 1, 1) := by decide +kernel
theorem d_Rd_readHex_2 : decode b_Rd_readHex 2 = .ok (.iconst 0, 1) := by decide +kernel
theorem d_Rd_readHex_3 : decode b_Rd_readHex 3 = .ok (.istore_n 2, 1) := by decide +kernel
theorem d_Rd_readHex_4 : decode b_Rd_readHex 4 = .ok (.iload_n 2, 1) := by decide +kernel
theorem d_Rd_readHex_5 : decode b_Rd_readHex 5 = .ok (.iconst 4, 1) := by decide +kernel
theorem d_Rd_readHex_6 : decode b_Rd_readHex 6 = .ok (.if_icmp .ge 50, 3) := by decide +kernel
theorem d_Rd_readHex_9 : decode b_Rd_readHex 9 = .ok (.aload_n 0, 1) := by decide +kernel
theorem d_Rd_readHex_10 : decode b_Rd_readHex 10 = .ok (.invokevirtual 48, 3) := by decide +kernel
theorem d_Rd_readHex_13 : decode b_Rd_readHex 13 = .ok (.invokestatic 164, 3) := by decide +kernel
theorem d_Rd_readHex_16 : decode b_Rd_readHex 16 = .ok (.istore_n 3, 1) := by decide +kernel
theorem d_Rd_readHex_17 : decode b_Rd_readHex 17 = .ok (.iload_n 3, 1) := by decide +kernel
theorem d_Rd_readHex_18 : decode b_Rd_readHex 18 = .ok (.iconst (-1), 1) := by decide +kernel
theorem d_Rd_readHex_19 : decode b_Rd_readHex 19 = .ok (.if_icmp .ne 14, 3) := by decide +kernel
theorem d_Rd_readHex_22 : decode b_Rd_readHex 22 = .ok (.aload_n 0, 1) := by decide +kernel
theorem d_Rd_readHex_23 : decode b_Rd_readHex 23 = .ok (.aload_n 0, 1) := by decide +kernel
theorem d_Rd_readHex_24 : decode b_Rd_readHex 24 = .ok (.getfield 28, 3) := by decide +kernel
theorem d_Rd_readHex_27 : decode b_Rd_readHex 27 = .ok (.invokevirtual 44, 3) := by decide +kernel
theorem d_Rd_readHex_30 : decode b_Rd_readHex 30 = .ok (.pop, 1) := by decide +kernel
theorem d_Rd_readHex_31 : decode b_Rd_readHex 31 = .ok (.iconst (-1), 1) := by decide +kernel
theorem d_Rd_readHex_32 : decode b_Rd_readHex 32 = .ok (.ireturn, 1) := by decide +kernel
theorem d_Rd_readHex_33 : decode b_Rd_readHex 33 = .ok (.iload_n 1, 1) := by decide +kernel
theorem d_Rd_readHex_34 : decode b_Rd_readHex 34 = .ok (.bipush 16, 2) := by decide +kernel
theorem d_Rd_readHex_36 : decode b_Rd_readHex 36 = .ok (.imul, 1) := by decide +kernel
theorem d_Rd_readHex_37 : decode b_Rd_readHex 37 = .ok (.iload_n 3, 1) := by decide +kernel
theorem d_Rd_readHex_38 : decode b_Rd_readHex 38 = .ok (.iadd, 1) := by decide +kernel
theorem d_Rd_readHex_39 : decode b_Rd_readHex 39 = .ok (.istore_n 1, 1) := by decide +kernel
theorem d_Rd_readHex_40 : decode b_Rd_readHex 40 = .ok (.aload_n 0, 1) := by decide +kernel
theorem d_Rd_readHex_41 : decode b_Rd_readHex 41 = .ok (.dup, 1) := by decide +kernel
theorem d_Rd_readHex_42 : decode b_Rd_readHex 42 = .ok (.getfield 28, 3) := by decide +kernel
theorem d_Rd_readHex_45 : decode b_Rd_readHex 45 = .ok (.iconst 1, 1) := by decide +kernel
theorem d_Rd_readHex_46 : decode b_Rd_readHex 46 = .ok (.iadd, 1) := by decide +kernel
theorem d_Rd_readHex_47 : decode b_Rd_readHex 47 = .ok (.putfield 28, 3) := by decide +kernel
theorem d_Rd_readHex_50 : decode b_Rd_readHex 50 = .ok (.iinc 2 1, 3) := by decide +kernel
theorem d_Rd_readHex_53 : decode b_Rd_readHex 53 = .ok (.goto (-49), 3) := by decide +kernel
theorem d_Rd_readHex_56 : decode b_Rd_readHex 56 = .ok (.iload_n 1, 1) := by decide +kernel
theorem d_Rd_readHex_57 : decode b_Rd_readHex 57 = .ok (.ireturn, 1) := by decide +kernel
theorem d_SJ_isSurrogate_0 : decode b_SJ_isSurrogate 0 = .ok (.iload_n 0, 1) := by decide +kernel
theorem d_SJ_isSurrogate_1 : decode b_SJ_isSurrogate 1 = .ok (.ldc 198, 2) := by decide +kernel
theorem d_SJ_isSurrogate_3 : decode b_SJ_isSurrogate 3 = .ok (.if_icmp .lt 13, 3) := by decide +kernel
theorem d_SJ_isSurrogate_6 : decode b_SJ_isSurrogate 6 = .ok (.iload_n 0, 1) := by decide +kernel
theorem d_SJ_isSurrogate_7 : decode b_SJ_isSurrogate 7 = .ok (.ldc 199, 2) := by decide +kernel
theorem d_SJ_isSurrogate_9 : decode b_SJ_isSurrogate 9 = .ok (.if_icmp .gt 7, 3) := by decide +kernel
theorem d_SJ_isSurrogate_12 : decode b_SJ_isSurrogate 12 = .ok (.iconst 1, 1) := by decide +kernel
theorem d_SJ_isSurrogate_13 : decode b_SJ_isSurrogate 13 = .ok (.goto 4, 3) := by decide +kernel
theorem d_SJ_isSurrogate_16 : decode b_SJ_isSurrogate 16 = .ok (.iconst 0, 1) := by decide +kernel
theorem d_SJ_isSurrogate_17 : decode b_SJ_isSurrogate 17 = .ok (.ireturn, 1) := by decide +kernel
theorem d_Rd_readEscape_0 : decode b_Rd_readEscape 0 = .ok (.aload_n 0, 1) := by decide +kernel
theorem d_Rd_readEscape_1 : decode b_Rd_readEscape 1 = .ok (.getfield 28, 3) := by decide +kernel
theorem d_Rd_readEscape_4 : decode b_Rd_readEscape 4 = .ok (.istore_n 1, 1) := by decide +kernel
theorem d_Rd_readEscape_5 : decode b_Rd_readEscape 5 = .ok (.aload_n 0, 1) := by decide +kernel
theorem d_Rd_readEscape_6 : decode b_Rd_readEscape 6 = .ok (.dup, 1) := by decide +kernel
theorem d_Rd_readEscape_7 : decode b_Rd_readEscape 7 = .ok (.getfield 28, 3) := by decide +kernel
theorem d_Rd_readEscape_10 : decode b_Rd_readEscape 10 = .ok (.iconst 1, 1) := by decide +kernel
theorem d_Rd_readEscape_11 : decode b_Rd_readEscape 11 = .ok (.iadd, 1) := by decide +kernel
theorem d_Rd_readEscape_12 : decode b_Rd_readEscape 12 = .ok (.putfield 28, 3) := by decide +kernel
theorem d_Rd_readEscape_15 : decode b_Rd_readEscape 15 = .ok (.aload_n 0, 1) := by decide +kernel
theorem d_Rd_readEscape_16 : decode b_Rd_readEscape 16 = .ok (.invokevirtual 48, 3) := by decide +kernel
theorem d_Rd_readEscape_19 : decode b_Rd_readEscape 19 = .ok (.istore_n 2, 1) := by decide +kernel
theorem d_Rd_readEscape_20 : decode b_Rd_readEscape 20 = .ok (.iload_n 2, 1) := by decide +kernel
theorem d_Rd_readEscape_21 : decode b_Rd_readEscape 21 = .ok (.bipush 117, 2) := by decide +kernel
theorem d_Rd_readEscape_23 : decode b_Rd_readEscape 23 = .ok (.if_icmp .eq 9, 3) := by decide +kernel
theorem d_Rd_readEscape_26 : decode b_Rd_readEscape 26 = .ok (.aload_n 0, 1) := by decide +kernel
theorem d_Rd_readEscape_27 : decode b_Rd_readEscape 27 = .ok (.iload_n 2, 1) := by decide +kernel
theorem d_Rd_readEscape_28 : decode b_Rd_readEscape 28 = .ok (.invokevirtual 151, 3) := by decide +kernel
theorem d_Rd_readEscape_31 : decode b_Rd_readEscape 31 = .ok (.ireturn, 1) := by decide +kernel
theorem d_Rd_readEscape_32 : decode b_Rd_readEscape 32 = .ok (.aload_n 0, 1) := by decide +kernel
theorem d_Rd_readEscape_33 : decode b_Rd_readEscape 33 = .ok (.dup, 1) := by decide +kernel
theorem d_Rd_readEscape_34 : decode b_Rd_readEscape 34 = .ok (.getfield 28, 3) := by decide +kernel
theorem d_Rd_readEscape_37 : decode b_Rd_readEscape 37 = .ok (.iconst 1, 1) := by decide +kernel
theorem d_Rd_readEscape_38 : decode b_Rd_readEscape 38 = .ok (.iadd, 1) := by decide +kernel
theorem d_Rd_readEscape_39 : decode b_Rd_readEscape 39 = .ok (.putfield 28, 3) := by decide +kernel
theorem d_Rd_readEscape_42 : decode b_Rd_readEscape 42 = .ok (.aload_n 0, 1) := by decide +kernel
theorem d_Rd_readEscape_43 : decode b_Rd_readEscape 43 = .ok (.invokevirtual 154, 3) := by decide +kernel
theorem d_Rd_readEscape_46 : decode b_Rd_readEscape 46 = .ok (.istore_n 3, 1) := by decide +kernel
theorem d_Rd_readEscape_47 : decode b_Rd_readEscape 47 = .ok (.iload_n 3, 1) := by decide +kernel
theorem d_Rd_readEscape_48 : decode b_Rd_readEscape 48 = .ok (.invokestatic 157, 3) := by decide +kernel
theorem d_Rd_readEscape_51 : decode b_Rd_readEscape 51 = .ok (.ifCond .ne 5, 3) := by decide +kernel
theorem d_Rd_readEscape_54 : decode b_Rd_readEscape 54 = .ok (.iload_n 3, 1) := by decide +kernel
theorem d_Rd_readEscape_55 : decode b_Rd_readEscape 55 = .ok (.ireturn, 1) := by decide +kernel
theorem d_Rd_readEscape_56 : decode b_Rd_readEscape 56 = .ok (.iconst (-1), 1) := by decide +kernel
theorem d_Rd_readEscape_57 : decode b_Rd_readEscape 57 = .ok (.istore 4, 2) := by decide +kernel
theorem d_Rd_readEscape_59 : decode b_Rd_readEscape 59 = .ok (.iload_n 3, 1) := by decide +kernel
theorem d_Rd_readEscape_60 : decode b_Rd_readEscape 60 = .ok (.ldc 160, 2) := by decide +kernel
theorem d_Rd_readEscape_62 : decode b_Rd_readEscape 62 = .ok (.if_icmp .ge 47, 3) := by decide +kernel
theorem d_Rd_readEscape_65 : decode b_Rd_readEscape 65 = .ok (.aload_n 0, 1) := by decide +kernel
theorem d_Rd_readEscape_66 : decode b_Rd_readEscape 66 = .ok (.invokevirtual 48, 3) := by decide +kernel
theorem d_Rd_readEscape_69 : decode b_Rd_readEscape 69 = .ok (.bipush 92, 2) := by decide +kernel
theorem d_Rd_readEscape_71 : decode b_Rd_readEscape 71 = .ok (.if_icmp .ne 38, 3) := by decide +kernel
theorem d_Rd_readEscape_74 : decode b_Rd_readEscape 74 = .ok (.aload_n 0, 1) := by decide +kernel
theorem d_Rd_readEscape_75 : decode b_Rd_readEscape 75 = .ok (.dup, 1) := by decide +kernel
theorem d_Rd_readEscape_76 : decode b_Rd_readEscape 76 = .ok (.getfield 28, 3) := by decide +kernel
theorem d_Rd_readEscape_79 : decode b_Rd_readEscape 79 = .ok (.iconst 1, 1) := by decide +kernel
theorem d_Rd_readEscape_80 : decode b_Rd_readEscape 80 = .ok (.iadd, 1) := by decide +kernel
theorem d_Rd_readEscape_81 : decode b_Rd_readEscape 81 = .ok (.putfield 28, 3) := by decide +kernel
theorem d_Rd_readEscape_84 : decode b_Rd_readEscape 84 = .ok (.aload_n 0, 1) := by decide +kernel
theorem d_Rd_readEscape_85 : decode b_Rd_readEscape 85 = .ok (.invokevirtual 48, 3) := by decide +kernel
theorem d_Rd_readEscape_88 : decode b_Rd_readEscape 88 = .ok (.bipush 117, 2) := by decide +kernel
theorem d_Rd_readEscape_90 : decode b_Rd_readEscape 90 = .ok (.if_icmp .ne 19, 3) := by decide +kernel
theorem d_Rd_readEscape_93 : decode b_Rd_readEscape 93 = .ok (.aload_n 0, 1) := by decide +kernel
theorem d_Rd_readEscape_94 : decode b_Rd_readEscape 94 = .ok (.dup, 1) := by decide +kernel
theorem d_Rd_readEscape_95 : decode b_Rd_readEscape 95 = .ok (.getfield 28, 3) := by decide +kernel
theorem d_Rd_readEscape_98 : decode b_Rd_readEscape 98 = .ok (.iconst 1, 1) := by decide +kernel
theorem d_Rd_readEscape_99 : decode b_Rd_readEscape 99 = .ok (.iadd, 1) := by decide +kernel
theorem d_Rd_readEscape_100 : decode b_Rd_readEscape 100 = .ok (.putfield 28, 3) := by decide +kernel
theorem d_Rd_readEscape_103 : decode b_Rd_readEscape 103 = .ok (.aload_n 0, 1) := by decide +kernel
theorem d_Rd_readEscape_104 : decode b_Rd_readEscape 104 = .ok (.invokevirtual 154, 3) := by decide +kernel
theorem d_Rd_readEscape_107 : decode b_Rd_readEscape 107 = .ok (.istore 4, 2) := by decide +kernel
theorem d_Rd_readEscape_109 : decode b_Rd_readEscape 109 = .ok (.iload 4, 2) := by decide +kernel
theorem d_Rd_readEscape_111 : decode b_Rd_readEscape 111 = .ok (.ldc 160, 2) := by decide +kernel
theorem d_Rd_readEscape_113 : decode b_Rd_readEscape 113 = .ok (.if_icmp .lt 10, 3) := by decide +kernel
theorem d_Rd_readEscape_116 : decode b_Rd_readEscape 116 = .ok (.iload 4, 2) := by decide +kernel
theorem d_Rd_readEscape_118 : decode b_Rd_readEscape 118 = .ok (.ldc 161, 2) := by decide +kernel
theorem d_Rd_readEscape_120 : decode b_Rd_readEscape 120 = .ok (.if_icmp .le 11, 3) := by decide +kernel
theorem d_Rd_readEscape_123 : decode b_Rd_readEscape 123 = .ok (.aload_n 0, 1) := by decide +kernel
theorem d_Rd_readEscape_124 : decode b_Rd_readEscape 124 = .ok (.iload_n 1, 1) := by decide +kernel
theorem d_Rd_readEscape_125 : decode b_Rd_readEscape 125 = .ok (.invokevirtual 44, 3) := by decide +kernel
theorem d_Rd_readEscape_128 : decode b_Rd_readEscape 128 = .ok (.pop, 1) := by decide +kernel
theorem d_Rd_readEscape_129 : decode b_Rd_readEscape 129 = .ok (.iconst (-1), 1) := by decide +kernel
theorem d_Rd_readEscape_130 : decode b_Rd_readEscape 130 = .ok (.ireturn, 1) := by decide +kernel
theorem d_Rd_readEscape_131 : decode b_Rd_readEscape 131 = .ok (.ldc 162, 2) := by decide +kernel
theorem d_Rd_readEscape_133 : decode b_Rd_readEscape 133 = .ok (.iload_n 3, 1) := by decide +kernel
theorem d_Rd_readEscape_134 : decode b_Rd_readEscape 134 = .ok (.ldc 163, 2) := by decide +kernel
theorem d_Rd_readEscape_136 : decode b_Rd_readEscape 136 = .ok (.isub, 1) := by decide +kernel
theorem d_Rd_readEscape_137 : decode b_Rd_readEscape 137 = .ok (.bipush 10, 2) := by decide +kernel
theorem d_Rd_readEscape_139 : decode b_Rd_readEscape 139 = .ok (.ishl, 1) := by decide +kernel
theorem d_Rd_readEscape_140 : decode b_Rd_readEscape 140 = .ok (.iadd, 1) := by decide +kernel
theorem d_Rd_readEscape_141 : decode b_Rd_readEscape 141 = .ok (.iload 4, 2) := by decide +kernel
theorem d_Rd_readEscape_143 : decode b_Rd_readEscape 143 = .ok (.ldc 160, 2) := by decide +kernel
theorem d_Rd_readEscape_145 : decode b_Rd_readEscape 145 = .ok (.isub, 1) := by decide +kernel
theorem d_Rd_readEscape_146 : decode b_Rd_readEscape 146 = .ok (.iadd, 1) := by decide +kernel
theorem d_Rd_readEscape_147 : decode b_Rd_readEscape 147 = .ok (.ireturn, 1) := by decide +kernel
theorem d_SJ_utf8Tail_0 : decode b_SJ_utf8Tail 0 = .ok (.iload_n 0, 1) := by decide +kernel
theorem d_SJ_utf8Tail_1 : decode b_SJ_utf8Tail 1 = .ok (.ifCond .lt 12, 3) := by decide +kernel
theorem d_SJ_utf8Tail_4 : decode b_SJ_utf8Tail 4 = .ok (.iload_n 0, 1) := by decide +kernel
theorem d_SJ_utf8Tail_5 : decode b_SJ_utf8Tail 5 = .ok (.sipush 128, 3) := by decide +kernel
theorem d_SJ_utf8Tail_8 : decode b_SJ_utf8Tail 8 = .ok (.if_icmp .ge 5, 3) := by decide +kernel
theorem d_SJ_utf8Tail_11 : decode b_SJ_utf8Tail 11 = .ok (.iconst 0, 1) := by decide +kernel
theorem d_SJ_utf8Tail_12 : decode b_SJ_utf8Tail 12 = .ok (.ireturn, 1) := by decide +kernel
theorem d_SJ_utf8Tail_13 : decode b_SJ_utf8Tail 13 = .ok (.iload_n 0, 1) := by decide +kernel
theorem d_SJ_utf8Tail_14 : decode b_SJ_utf8Tail 14 = .ok (.sipush 194, 3) := by decide +kernel
theorem d_SJ_utf8Tail_17 : decode b_SJ_utf8Tail 17 = .ok (.if_icmp .lt 12, 3) := by decide +kernel
theorem d_SJ_utf8Tail_20 : decode b_SJ_utf8Tail 20 = .ok (.iload_n 0, 1) := by decide +kernel
theorem d_SJ_utf8Tail_21 : decode b_SJ_utf8Tail 21 = .ok (.sipush 223, 3) := by decide +kernel
theorem d_SJ_utf8Tail_24 : decode b_SJ_utf8Tail 24 = .ok (.if_icmp .gt 5, 3) := by decide +kernel
theorem d_SJ_utf8Tail_27 : decode b_SJ_utf8Tail 27 = .ok (.iconst 1, 1) := by decide +kernel
theorem d_SJ_utf8Tail_28 : decode b_SJ_utf8Tail 28 = .ok (.ireturn, 1) := by decide +kernel
theorem d_SJ_utf8Tail_29 : decode b_SJ_utf8Tail 29 = .ok (.iload_n 0, 1) := by decide +kernel
theorem d_SJ_utf8Tail_30 : decode b_SJ_utf8Tail 30 = .ok (.sipush 224, 3) := by decide +kernel
theorem d_SJ_utf8Tail_33 : decode b_SJ_utf8Tail 33 = .ok (.if_icmp .lt 12, 3) := by decide +kernel
theorem d_SJ_utf8Tail_36 : decode b_SJ_utf8Tail 36 = .ok (.iload_n 0, 1) := by decide +kernel
theorem d_SJ_utf8Tail_37 : decode b_SJ_utf8Tail 37 = .ok (.sipush 239, 3) := by decide +kernel
theorem d_SJ_utf8Tail_40 : decode b_SJ_utf8Tail 40 = .ok (.if_icmp .gt 5, 3) := by decide +kernel
theorem d_SJ_utf8Tail_43 : decode b_SJ_utf8Tail 43 = .ok (.iconst 2, 1) := by decide +kernel
theorem d_SJ_utf8Tail_44 : decode b_SJ_utf8Tail 44 = .ok (.ireturn, 1) := by decide +kernel
theorem d_SJ_utf8Tail_45 : decode b_SJ_utf8Tail 45 = .ok (.iload_n 0, 1) := by decide +kernel
theorem d_SJ_utf8Tail_46 : decode b_SJ_utf8Tail 46 = .ok (.sipush 240, 3) := by decide +kernel
theorem d_SJ_utf8Tail_49 : decode b_SJ_utf8Tail 49 = .ok (.if_icmp .lt 14, 3) := by decide +kernel
theorem d_SJ_utf8Tail_52 : decode b_SJ_utf8Tail 52 = .ok (.iload_n 0, 1) := by decide +kernel
theorem d_SJ_utf8Tail_53 : decode b_SJ_utf8Tail 53 = .ok (.sipush 244, 3) := by decide +kernel
theorem d_SJ_utf8Tail_56 : decode b_SJ_utf8Tail 56 = .ok (.if_icmp .gt 7, 3) := by decide +kernel
theorem d_SJ_utf8Tail_59 : decode b_SJ_utf8Tail 59 = .ok (.iconst 3, 1) := by decide +kernel
theorem d_SJ_utf8Tail_60 : decode b_SJ_utf8Tail 60 = .ok (.goto 4, 3) := by decide +kernel
theorem d_SJ_utf8Tail_63 : decode b_SJ_utf8Tail 63 = .ok (.iconst (-1), 1) := by decide +kernel
theorem d_SJ_utf8Tail_64 : decode b_SJ_utf8Tail 64 = .ok (.ireturn, 1) := by decide +kernel
theorem d_SJ_utf8Head_0 : decode b_SJ_utf8Head 0 = .ok (.iload_n 1, 1) := by decide +kernel
theorem d_SJ_utf8Head_1 : decode b_SJ_utf8Head 1 = .ok (.ifCond .ne 7, 3) := by decide +kernel
theorem d_SJ_utf8Head_4 : decode b_SJ_utf8Head 4 = .ok (.iload_n 0, 1) := by decide +kernel
theorem d_SJ_utf8Head_5 : decode b_SJ_utf8Head 5 = .ok (.goto 9, 3) := by decide +kernel
theorem d_SJ_utf8Head_8 : decode b_SJ_utf8Head 8 = .ok (.iload_n 0, 1) := by decide +kernel
theorem d_SJ_utf8Head_9 : decode b_SJ_utf8Head 9 = .ok (.bipush 63, 2) := by decide +kernel
theorem d_SJ_utf8Head_11 : decode b_SJ_utf8Head 11 = .ok (.iload_n 1, 1) := by decide +kernel
theorem d_SJ_utf8Head_12 : decode b_SJ_utf8Head 12 = .ok (.ishr, 1) := by decide +kernel
theorem d_SJ_utf8Head_13 : decode b_SJ_utf8Head 13 = .ok (.iand, 1) := by decide +kernel
theorem d_SJ_utf8Head_14 : decode b_SJ_utf8Head 14 = .ok (.ireturn, 1) := by decide +kernel
