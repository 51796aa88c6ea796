theorem d_Tx_clear_0 : decode b_Tx_clear 0 = .ok (.aload_n 0, 1) := by decide +kernel
theorem d_Tx_clear_1 : decode b_Tx_clear 1 = .ok (.iconst 0, 1) := by decide +kernel
theorem d_Tx_clear_2 : decode b_Tx_clear 2 = .ok (.putfield 43, 3) := by decide +kernel
theorem d_Tx_clear_5 : decode b_Tx_clear 5 = .ok (.aload_n 0, 1) := by decide +kernel
theorem d_Tx_clear_6 : decode b_Tx_clear 6 = .ok (.iconst 0, 1) := by decide +kernel
theorem d_Tx_clear_7 : decode b_Tx_clear 7 = .ok (.putfield 47, 3) := by decide +kernel
theorem d_Tx_clear_10 : decode b_Tx_clear 10 = .ok (.aload_n 0, 1) := by decide +kernel
theorem d_Tx_clear_11 : decode b_Tx_clear 11 = .ok (.iconst 0, 1) := by decide +kernel
theorem d_Tx_clear_12 : decode b_Tx_clear 12 = .ok (.putfield 50, 3) := by decide +kernel
theorem d_Tx_clear_15 : decode b_Tx_clear 15 = .ok (.return_, 1) := by decide +kernel
theorem d_Tx_begin_0 : decode b_Tx_begin 0 = .ok (.aload_n 0, 1) := by decide +kernel
theorem d_Tx_begin_1 : decode b_Tx_begin 1 = .ok (.getfield 43, 3) := by decide +kernel
theorem d_Tx_begin_4 : decode b_Tx_begin 4 = .ok (.sipush 1000, 3) := by decide +kernel
theorem d_Tx_begin_7 : decode b_Tx_begin 7 = .ok (.if_icmp .lt 5, 3) := by decide +kernel
theorem d_Tx_begin_10 : decode b_Tx_begin 10 = .ok (.iconst (-1), 1) := by decide +kernel
theorem d_Tx_begin_11 : decode b_Tx_begin 11 = .ok (.ireturn, 1) := by decide +kernel
theorem d_Tx_begin_12 : decode b_Tx_begin 12 = .ok (.aload_n 0, 1) := by decide +kernel
theorem d_Tx_begin_13 : decode b_Tx_begin 13 = .ok (.getfield 43, 3) := by decide +kernel
theorem d_Tx_begin_16 : decode b_Tx_begin 16 = .ok (.istore 5, 2) := by decide +kernel
theorem d_Tx_begin_18 : decode b_Tx_begin 18 = .ok (.aload_n 0, 1) := by decide +kernel
theorem d_Tx_begin_19 : decode b_Tx_begin 19 = .ok (.dup, 1) := by decide +kernel
theorem d_Tx_begin_20 : decode b_Tx_begin 20 = .ok (.getfield 43, 3) := by decide +kernel
theorem d_Tx_begin_23 : decode b_Tx_begin 23 = .ok (.iconst 1, 1) := by decide +kernel
theorem d_Tx_begin_24 : decode b_Tx_begin 24 = .ok (.iadd, 1) := by decide +kernel
theorem d_Tx_begin_25 : decode b_Tx_begin 25 = .ok (.putfield 43, 3) := by decide +kernel
theorem d_Tx_begin_28 : decode b_Tx_begin 28 = .ok (.aload_n 0, 1) := by decide +kernel
theorem d_Tx_begin_29 : decode b_Tx_begin 29 = .ok (.getfield 9, 3) := by decide +kernel
theorem d_Tx_begin_32 : decode b_Tx_begin 32 = .ok (.iload 5, 2) := by decide +kernel
theorem d_Tx_begin_34 : decode b_Tx_begin 34 = .ok (.iload_n 1, 1) := by decide +kernel
theorem d_Tx_begin_35 : decode b_Tx_begin 35 = .ok (.iastore, 1) := by decide +kernel
theorem d_Tx_begin_36 : decode b_Tx_begin 36 = .ok (.aload_n 0, 1) := by decide +kernel
theorem d_Tx_begin_37 : decode b_Tx_begin 37 = .ok (.getfield 15, 3) := by decide +kernel
theorem d_Tx_begin_40 : decode b_Tx_begin 40 = .ok (.iload 5, 2) := by decide +kernel
theorem d_Tx_begin_42 : decode b_Tx_begin 42 = .ok (.iload_n 2, 1) := by decide +kernel
theorem d_Tx_begin_43 : decode b_Tx_begin 43 = .ok (.iastore, 1) := by decide +kernel
theorem d_Tx_begin_44 : decode b_Tx_begin 44 = .ok (.aload_n 0, 1) := by decide +kernel
theorem d_Tx_begin_45 : decode b_Tx_begin 45 = .ok (.getfield 18, 3) := by decide +kernel
theorem d_Tx_begin_48 : decode b_Tx_begin 48 = .ok (.iload 5, 2) := by decide +kernel
theorem d_Tx_begin_50 : decode b_Tx_begin 50 = .ok (.iconst 0, 1) := by decide +kernel
theorem d_Tx_begin_51 : decode b_Tx_begin 51 = .ok (.iastore, 1) := by decide +kernel
theorem d_Tx_begin_52 : decode b_Tx_begin 52 = .ok (.aload_n 0, 1) := by decide +kernel
theorem d_Tx_begin_53 : decode b_Tx_begin 53 = .ok (.getfield 21, 3) := by decide +kernel
theorem d_Tx_begin_56 : decode b_Tx_begin 56 = .ok (.iload 5, 2) := by decide +kernel
theorem d_Tx_begin_58 : decode b_Tx_begin 58 = .ok (.iload_n 3, 1) := by decide +kernel
theorem d_Tx_begin_59 : decode b_Tx_begin 59 = .ok (.iastore, 1) := by decide +kernel
theorem d_Tx_begin_60 : decode b_Tx_begin 60 = .ok (.aload_n 0, 1) := by decide +kernel
theorem d_Tx_begin_61 : decode b_Tx_begin 61 = .ok (.getfield 24, 3) := by decide +kernel
theorem d_Tx_begin_64 : decode b_Tx_begin 64 = .ok (.iload 5, 2) := by decide +kernel
theorem d_Tx_begin_66 : decode b_Tx_begin 66 = .ok (.iconst 0, 1) := by decide +kernel
theorem d_Tx_begin_67 : decode b_Tx_begin 67 = .ok (.iastore, 1) := by decide +kernel
theorem d_Tx_begin_68 : decode b_Tx_begin 68 = .ok (.aload_n 0, 1) := by decide +kernel
theorem d_Tx_begin_69 : decode b_Tx_begin 69 = .ok (.getfield 27, 3) := by decide +kernel
theorem d_Tx_begin_72 : decode b_Tx_begin 72 = .ok (.iload 5, 2) := by decide +kernel
theorem d_Tx_begin_74 : decode b_Tx_begin 74 = .ok (.aload_n 0, 1) := by decide +kernel
theorem d_Tx_begin_75 : decode b_Tx_begin 75 = .ok (.getfield 47, 3) := by decide +kernel
theorem d_Tx_begin_78 : decode b_Tx_begin 78 = .ok (.iastore, 1) := by decide +kernel
theorem d_Tx_begin_79 : decode b_Tx_begin 79 = .ok (.aload_n 0, 1) := by decide +kernel
theorem d_Tx_begin_80 : decode b_Tx_begin 80 = .ok (.getfield 30, 3) := by decide +kernel
theorem d_Tx_begin_83 : decode b_Tx_begin 83 = .ok (.iload 5, 2) := by decide +kernel
theorem d_Tx_begin_85 : decode b_Tx_begin 85 = .ok (.aload_n 0, 1) := by decide +kernel
theorem d_Tx_begin_86 : decode b_Tx_begin 86 = .ok (.getfield 43, 3) := by decide +kernel
theorem d_Tx_begin_89 : decode b_Tx_begin 89 = .ok (.iastore, 1) := by decide +kernel
theorem d_Tx_begin_90 : decode b_Tx_begin 90 = .ok (.aload_n 0, 1) := by decide +kernel
theorem d_Tx_begin_91 : decode b_Tx_begin 91 = .ok (.getfield 33, 3) := by decide +kernel
theorem d_Tx_begin_94 : decode b_Tx_begin 94 = .ok (.iload 5, 2) := by decide +kernel
theorem d_Tx_begin_96 : decode b_Tx_begin 96 = .ok (.iload 4, 2) := by decide +kernel
theorem d_Tx_begin_98 : decode b_Tx_begin 98 = .ok (.iastore, 1) := by decide +kernel
theorem d_Tx_begin_99 : decode b_Tx_begin 99 = .ok (.aload_n 0, 1) := by decide +kernel
theorem d_Tx_begin_100 : decode b_Tx_begin 100 = .ok (.getfield 36, 3) := by decide +kernel
theorem d_Tx_begin_103 : decode b_Tx_begin 103 = .ok (.iload 5, 2) := by decide +kernel
theorem d_Tx_begin_105 : decode b_Tx_begin 105 = .ok (.iconst 0, 1) := by decide +kernel
theorem d_Tx_begin_106 : decode b_Tx_begin 106 = .ok (.bastore, 1) := by decide +kernel
theorem d_Tx_begin_107 : decode b_Tx_begin 107 = .ok (.iload 5, 2) := by decide +kernel
theorem d_Tx_begin_109 : decode b_Tx_begin 109 = .ok (.ireturn, 1) := by decide +kernel
theorem d_Tx_addDigit_0 : decode b_Tx_addDigit 0 = .ok (.aload_n 0, 1) := by decide +kernel
theorem d_Tx_addDigit_1 : decode b_Tx_addDigit 1 = .ok (.getfield 47, 3) := by decide +kernel
theorem d_Tx_addDigit_4 : decode b_Tx_addDigit 4 = .ok (.aload_n 0, 1) := by decide +kernel
theorem d_Tx_addDigit_5 : decode b_Tx_addDigit 5 = .ok (.getfield 40, 3) := by decide +kernel
theorem d_Tx_addDigit_8 : decode b_Tx_addDigit 8 = .ok (.arraylength, 1) := by decide +kernel
theorem d_Tx_addDigit_9 : decode b_Tx_addDigit 9 = .ok (.if_icmp .ge 23, 3) := by decide +kernel
theorem d_Tx_addDigit_12 : decode b_Tx_addDigit 12 = .ok (.aload_n 0, 1) := by decide +kernel
theorem d_Tx_addDigit_13 : decode b_Tx_addDigit 13 = .ok (.getfield 40, 3) := by decide +kernel
theorem d_Tx_addDigit_16 : decode b_Tx_addDigit 16 = .ok (.aload_n 0, 1) := by decide +kernel
theorem d_Tx_addDigit_17 : decode b_Tx_addDigit 17 = .ok (.getfield 47, 3) := by decide +kernel
theorem d_Tx_addDigit_20 : decode b_Tx_addDigit 20 = .ok (.iload_n 1, 1) := by decide +kernel
theorem d_Tx_addDigit_21 : decode b_Tx_addDigit 21 = .ok (.iastore, 1) := by decide +kernel
theorem d_Tx_addDigit_22 : decode b_Tx_addDigit 22 = .ok (.aload_n 0, 1) := by decide +kernel
theorem d_Tx_addDigit_23 : decode b_Tx_addDigit 23 = .ok (.dup, 1) := by decide +kernel
theorem d_Tx_addDigit_24 : decode b_Tx_addDigit 24 = .ok (.getfield 47, 3) := by decide +kernel
theorem d_Tx_addDigit_27 : decode b_Tx_addDigit 27 = .ok (.iconst 1, 1) := by decide +kernel
theorem d_Tx_addDigit_28 : decode b_Tx_addDigit 28 = .ok (.iadd, 1) := by decide +kernel
theorem d_Tx_addDigit_29 : decode b_Tx_addDigit 29 = .ok (.putfield 47, 3) := by decide +kernel
theorem d_Tx_addDigit_32 : decode b_Tx_addDigit 32 = .ok (.return_, 1) := by decide +kernel
theorem d_Tx_endNumber_0 : decode b_Tx_endNumber 0 = .ok (.iload_n 1, 1) := by decide +kernel
theorem d_Tx_endNumber_1 : decode b_Tx_endNumber 1 = .ok (.ifCond .lt 11, 3) := by decide +kernel
theorem d_Tx_endNumber_4 : decode b_Tx_endNumber 4 = .ok (.iload_n 1, 1) := by decide +kernel
theorem d_Tx_endNumber_5 : decode b_Tx_endNumber 5 = .ok (.aload_n 0, 1) := by decide +kernel
theorem d_Tx_endNumber_6 : decode b_Tx_endNumber 6 = .ok (.getfield 43, 3) := by decide +kernel
theorem d_Tx_endNumber_9 : decode b_Tx_endNumber 9 = .ok (.if_icmp .lt 4, 3) := by decide +kernel
theorem d_Tx_endNumber_12 : decode b_Tx_endNumber 12 = .ok (.return_, 1) := by decide +kernel
theorem d_Tx_endNumber_13 : decode b_Tx_endNumber 13 = .ok (.aload_n 0, 1) := by decide +kernel
theorem d_Tx_endNumber_14 : decode b_Tx_endNumber 14 = .ok (.getfield 27, 3) := by decide +kernel
theorem d_Tx_endNumber_17 : decode b_Tx_endNumber 17 = .ok (.iload_n 1, 1) := by decide +kernel
theorem d_Tx_endNumber_18 : decode b_Tx_endNumber 18 = .ok (.iaload, 1) := by decide +kernel
theorem d_Tx_endNumber_19 : decode b_Tx_endNumber 19 = .ok (.istore 4, 2) := by decide +kernel
theorem d_Tx_endNumber_21 : decode b_Tx_endNumber 21 = .ok (.aload_n 0, 1) := by decide +kernel
theorem d_Tx_endNumber_22 : decode b_Tx_endNumber 22 = .ok (.getfield 47, 3) := by decide +kernel
theorem d_Tx_endNumber_25 : decode b_Tx_endNumber 25 = .ok (.istore 5, 2) := by decide +kernel
theorem d_Tx_endNumber_27 : decode b_Tx_endNumber 27 = .ok (.iload 5, 2) := by decide +kernel
theorem d_Tx_endNumber_29 : decode b_Tx_endNumber 29 = .ok (.iload 4, 2) := by decide +kernel
theorem d_Tx_endNumber_31 : decode b_Tx_endNumber 31 = .ok (.if_icmp .le 21, 3) := by decide +kernel
theorem d_Tx_endNumber_34 : decode b_Tx_endNumber 34 = .ok (.aload_n 0, 1) := by decide +kernel
theorem d_Tx_endNumber_35 : decode b_Tx_endNumber 35 = .ok (.getfield 40, 3) := by decide +kernel
theorem d_Tx_endNumber_38 : decode b_Tx_endNumber 38 = .ok (.iload 5, 2) := by decide +kernel
theorem d_Tx_endNumber_40 : decode b_Tx_endNumber 40 = .ok (.iconst 1, 1) := by decide +kernel
theorem d_Tx_endNumber_41 : decode b_Tx_endNumber 41 = .ok (.isub, 1) := by decide +kernel
theorem d_Tx_endNumber_42 : decode b_Tx_endNumber 42 = .ok (.iaload, 1) := by decide +kernel
theorem d_Tx_endNumber_43 : decode b_Tx_endNumber 43 = .ok (.ifCond .ne 9, 3) := by decide +kernel
theorem d_Tx_endNumber_46 : decode b_Tx_endNumber 46 = .ok (.iinc 5 (-1), 3) := by decide +kernel
theorem d_Tx_endNumber_49 : decode b_Tx_endNumber 49 = .ok (.goto (-22), 3) := by decide +kernel
theorem d_Tx_endNumber_52 : decode b_Tx_endNumber 52 = .ok (.iload 4, 2) := by decide +kernel
theorem d_Tx_endNumber_54 : decode b_Tx_endNumber 54 = .ok (.iload 5, 2) := by decide +kernel
theorem d_Tx_endNumber_56 : decode b_Tx_endNumber 56 = .ok (.if_icmp .ge 19, 3) := by decide +kernel
theorem d_Tx_endNumber_59 : decode b_Tx_endNumber 59 = .ok (.aload_n 0, 1) := by decide +kernel
theorem d_Tx_endNumber_60 : decode b_Tx_endNumber 60 = .ok (.getfield 40, 3) := by decide +kernel
theorem d_Tx_endNumber_63 : decode b_Tx_endNumber 63 = .ok (.iload 4, 2) := by decide +kernel
theorem d_Tx_endNumber_65 : decode b_Tx_endNumber 65 = .ok (.iaload, 1) := by decide +kernel
theorem d_Tx_endNumber_66 : decode b_Tx_endNumber 66 = .ok (.ifCond .ne 9, 3) := by decide +kernel
theorem d_Tx_endNumber_69 : decode b_Tx_endNumber 69 = .ok (.iinc 4 1, 3) := by decide +kernel
theorem d_Tx_endNumber_72 : decode b_Tx_endNumber 72 = .ok (.goto (-20), 3) := by decide +kernel
theorem d_Tx_endNumber_75 : decode b_Tx_endNumber 75 = .ok (.aload_n 0, 1) := by decide +kernel
theorem d_Tx_endNumber_76 : decode b_Tx_endNumber 76 = .ok (.getfield 27, 3) := by decide +kernel
theorem d_Tx_endNumber_79 : decode b_Tx_endNumber 79 = .ok (.iload_n 1, 1) := by decide +kernel
theorem d_Tx_endNumber_80 : decode b_Tx_endNumber 80 = .ok (.iload 4, 2) := by decide +kernel
theorem d_Tx_endNumber_82 : decode b_Tx_endNumber 82 = .ok (.iastore, 1) := by decide +kernel
theorem d_Tx_endNumber_83 : decode b_Tx_endNumber 83 = .ok (.aload_n 0, 1) := by decide +kernel
theorem d_Tx_endNumber_84 : decode b_Tx_endNumber 84 = .ok (.getfield 18, 3) := by decide +kernel
theorem d_Tx_endNumber_87 : decode b_Tx_endNumber 87 = .ok (.iload_n 1, 1) := by decide +kernel
theorem d_Tx_endNumber_88 : decode b_Tx_endNumber 88 = .ok (.iload 5, 2) := by decide +kernel
theorem d_Tx_endNumber_90 : decode b_Tx_endNumber 90 = .ok (.iload 4, 2) := by decide +kernel
theorem d_Tx_endNumber_92 : decode b_Tx_endNumber 92 = .ok (.isub, 1) := by decide +kernel
theorem d_Tx_endNumber_93 : decode b_Tx_endNumber 93 = .ok (.iastore, 1) := by decide +kernel
theorem d_Tx_endNumber_94 : decode b_Tx_endNumber 94 = .ok (.aload_n 0, 1) := by decide +kernel
theorem d_Tx_endNumber_95 : decode b_Tx_endNumber 95 = .ok (.getfield 24, 3) := by decide +kernel
theorem d_Tx_endNumber_98 : decode b_Tx_endNumber 98 = .ok (.iload_n 1, 1) := by decide +kernel
theorem d_Tx_endNumber_99 : decode b_Tx_endNumber 99 = .ok (.iload 5, 2) := by decide +kernel
theorem d_Tx_endNumber_101 : decode b_Tx_endNumber 101 = .ok (.iload 4, 2) := by decide +kernel
theorem d_Tx_endNumber_103 : decode b_Tx_endNumber 103 = .ok (.if_icmp .ne 7, 3) := by decide +kernel
theorem d_Tx_endNumber_106 : decode b_Tx_endNumber 106 = .ok (.iconst 0, 1) := by decide +kernel
theorem d_Tx_endNumber_107 : decode b_Tx_endNumber 107 = .ok (.goto 12, 3) := by decide +kernel
theorem d_Tx_endNumber_110 : decode b_Tx_endNumber 110 = .ok (.iload_n 3, 1) := by decide +kernel
theorem d_Tx_endNumber_111 : decode b_Tx_endNumber 111 = .ok (.aload_n 0, 1) := by decide +kernel
theorem d_Tx_endNumber_112 : decode b_Tx_endNumber 112 = .ok (.getfield 47, 3) := by decide +kernel
theorem d_Tx_endNumber_115 : decode b_Tx_endNumber 115 = .ok (.iadd, 1) := by decide +kernel
theorem d_Tx_endNumber_116 : decode b_Tx_endNumber 116 = .ok (.iload 5, 2) := by decide +kernel
theorem d_Tx_endNumber_118 : decode b_Tx_endNumber 118 = .ok (.isub, 1) := by decide +kernel
theorem d_Tx_endNumber_119 : decode b_Tx_endNumber 119 = .ok (.iastore, 1) := by decide +kernel
theorem d_Tx_endNumber_120 : decode b_Tx_endNumber 120 = .ok (.aload_n 0, 1) := by decide +kernel
theorem d_Tx_endNumber_121 : decode b_Tx_endNumber 121 = .ok (.getfield 36, 3) := by decide +kernel
theorem d_Tx_endNumber_124 : decode b_Tx_endNumber 124 = .ok (.iload_n 1, 1) := by decide +kernel
theorem d_Tx_endNumber_125 : decode b_Tx_endNumber 125 = .ok (.iload_n 2, 1) := by decide +kernel
theorem d_Tx_endNumber_126 : decode b_Tx_endNumber 126 = .ok (.ifCond .eq 14, 3) := by decide +kernel
theorem d_Tx_endNumber_129 : decode b_Tx_endNumber 129 = .ok (.iload 5, 2) := by decide +kernel
theorem d_Tx_endNumber_131 : decode b_Tx_endNumber 131 = .ok (.iload 4, 2) := by decide +kernel
theorem d_Tx_endNumber_133 : decode b_Tx_endNumber 133 = .ok (.if_icmp .le 7, 3) := by decide +kernel
theorem d_Tx_endNumber_136 : decode b_Tx_endNumber 136 = .ok (.iconst 1, 1) := by decide +kernel
theorem d_Tx_endNumber_137 : decode b_Tx_endNumber 137 = .ok (.goto 4, 3) := by decide +kernel
theorem d_Tx_endNumber_140 : decode b_Tx_endNumber 140 = .ok (.iconst 0, 1) := by decide +kernel
theorem d_Tx_endNumber_141 : decode b_Tx_endNumber 141 = .ok (.bastore, 1) := by decide +kernel
theorem d_Tx_endNumber_142 : decode b_Tx_endNumber 142 = .ok (.return_, 1) := by decide +kernel
theorem d_Tx_endString_0 : decode b_Tx_endString 0 = .ok (.iload_n 1, 1) := by decide +kernel
theorem d_Tx_endString_1 : decode b_Tx_endString 1 = .ok (.ifCond .lt 28, 3) := by decide +kernel
theorem d_Tx_endString_4 : decode b_Tx_endString 4 = .ok (.iload_n 1, 1) := by decide +kernel
theorem d_Tx_endString_5 : decode b_Tx_endString 5 = .ok (.aload_n 0, 1) := by decide +kernel
theorem d_Tx_endString_6 : decode b_Tx_endString 6 = .ok (.getfield 43, 3) := by decide +kernel
theorem d_Tx_endString_9 : decode b_Tx_endString 9 = .ok (.if_icmp .ge 20, 3) := by decide +kernel
theorem d_Tx_endString_12 : decode b_Tx_endString 12 = .ok (.aload_n 0, 1) := by decide +kernel
theorem d_Tx_endString_13 : decode b_Tx_endString 13 = .ok (.getfield 18, 3) := by decide +kernel
theorem d_Tx_endString_16 : decode b_Tx_endString 16 = .ok (.iload_n 1, 1) := by decide +kernel
theorem d_Tx_endString_17 : decode b_Tx_endString 17 = .ok (.aload_n 0, 1) := by decide +kernel
theorem d_Tx_endString_18 : decode b_Tx_endString 18 = .ok (.getfield 47, 3) := by decide +kernel
theorem d_Tx_endString_21 : decode b_Tx_endString 21 = .ok (.aload_n 0, 1) := by decide +kernel
theorem d_Tx_endString_22 : decode b_Tx_endString 22 = .ok (.getfield 27, 3) := by decide +kernel
theorem d_Tx_endString_25 : decode b_Tx_endString 25 = .ok (.iload_n 1, 1) := by decide +kernel
theorem d_Tx_endString_26 : decode b_Tx_endString 26 = .ok (.iaload, 1) := by decide +kernel
theorem d_Tx_endString_27 : decode b_Tx_endString 27 = .ok (.isub, 1) := by decide +kernel
theorem d_Tx_endString_28 : decode b_Tx_endString 28 = .ok (.iastore, 1) := by decide +kernel
theorem d_Tx_endString_29 : decode b_Tx_endString 29 = .ok (.return_, 1) := by decide +kernel
theorem d_Tx_addCharacter_0 : decode b_Tx_addCharacter 0 = .ok (.aload_n 0, 1) := by decide +kernel
theorem d_Tx_addCharacter_1 : decode b_Tx_addCharacter 1 = .ok (.getfield 50, 3) := by decide +kernel
theorem d_Tx_addCharacter_4 : decode b_Tx_addCharacter 4 = .ok (.sipush 4000, 3) := by decide +kernel
theorem d_Tx_addCharacter_7 : decode b_Tx_addCharacter 7 = .ok (.if_icmp .ge 15, 3) := by decide +kernel
theorem d_Tx_addCharacter_10 : decode b_Tx_addCharacter 10 = .ok (.aload_n 0, 1) := by decide +kernel
theorem d_Tx_addCharacter_11 : decode b_Tx_addCharacter 11 = .ok (.getfield 47, 3) := by decide +kernel
theorem d_Tx_addCharacter_14 : decode b_Tx_addCharacter 14 = .ok (.aload_n 0, 1) := by decide +kernel
theorem d_Tx_addCharacter_15 : decode b_Tx_addCharacter 15 = .ok (.getfield 40, 3) := by decide +kernel
theorem d_Tx_addCharacter_18 : decode b_Tx_addCharacter 18 = .ok (.arraylength, 1) := by decide +kernel
theorem d_Tx_addCharacter_19 : decode b_Tx_addCharacter 19 = .ok (.if_icmp .lt 5, 3) := by decide +kernel
theorem d_Tx_addCharacter_22 : decode b_Tx_addCharacter 22 = .ok (.iconst 0, 1) := by decide +kernel
theorem d_Tx_addCharacter_23 : decode b_Tx_addCharacter 23 = .ok (.ireturn, 1) := by decide +kernel
theorem d_Tx_addCharacter_24 : decode b_Tx_addCharacter 24 = .ok (.aload_n 0, 1) := by decide +kernel
theorem d_Tx_addCharacter_25 : decode b_Tx_addCharacter 25 = .ok (.dup, 1) := by decide +kernel
theorem d_Tx_addCharacter_26 : decode b_Tx_addCharacter 26 = .ok (.getfield 50, 3) := by decide +kernel
theorem d_Tx_addCharacter_29 : decode b_Tx_addCharacter 29 = .ok (.iconst 1, 1) := by decide +kernel
theorem d_Tx_addCharacter_30 : decode b_Tx_addCharacter 30 = .ok (.iadd, 1) := by decide +kernel
theorem d_Tx_addCharacter_31 : decode b_Tx_addCharacter 31 = .ok (.putfield 50, 3) := by decide +kernel
theorem d_Tx_addCharacter_34 : decode b_Tx_addCharacter 34 = .ok (.aload_n 0, 1) := by decide +kernel
theorem d_Tx_addCharacter_35 : decode b_Tx_addCharacter 35 = .ok (.getfield 40, 3) := by decide +kernel
theorem d_Tx_addCharacter_38 : decode b_Tx_addCharacter 38 = .ok (.aload_n 0, 1) := by decide +kernel
theorem d_Tx_addCharacter_39 : decode b_Tx_addCharacter 39 = .ok (.getfield 47, 3) := by decide +kernel
theorem d_Tx_addCharacter_42 : decode b_Tx_addCharacter 42 = .ok (.iload_n 1, 1) := by decide +kernel
theorem d_Tx_addCharacter_43 : decode b_Tx_addCharacter 43 = .ok (.iastore, 1) := by decide +kernel
theorem d_Tx_addCharacter_44 : decode b_Tx_addCharacter 44 = .ok (.aload_n 0, 1) := by decide +kernel
theorem d_Tx_addCharacter_45 : decode b_Tx_addCharacter 45 = .ok (.dup, 1) := by decide +kernel
theorem d_Tx_addCharacter_46 : decode b_Tx_addCharacter 46 = .ok (.getfield 47, 3) := by decide +kernel
theorem d_Tx_addCharacter_49 : decode b_Tx_addCharacter 49 = .ok (.iconst 1, 1) := by decide +kernel
theorem d_Tx_addCharacter_50 : decode b_Tx_addCharacter 50 = .ok (.iadd, 1) := by decide +kernel
theorem d_Tx_addCharacter_51 : decode b_Tx_addCharacter 51 = .ok (.putfield 47, 3) := by decide +kernel
theorem d_Tx_addCharacter_54 : decode b_Tx_addCharacter 54 = .ok (.iconst 1, 1) := by decide +kernel
theorem d_Tx_addCharacter_55 : decode b_Tx_addCharacter 55 = .ok (.ireturn, 1) := by decide +kernel
theorem d_Tx_endParent_0 : decode b_Tx_endParent 0 = .ok (.iload_n 1, 1) := by decide +kernel
theorem d_Tx_endParent_1 : decode b_Tx_endParent 1 = .ok (.ifCond .lt 28, 3) := by decide +kernel
theorem d_Tx_endParent_4 : decode b_Tx_endParent 4 = .ok (.iload_n 1, 1) := by decide +kernel
theorem d_Tx_endParent_5 : decode b_Tx_endParent 5 = .ok (.aload_n 0, 1) := by decide +kernel
theorem d_Tx_endParent_6 : decode b_Tx_endParent 6 = .ok (.getfield 43, 3) := by decide +kernel
theorem d_Tx_endParent_9 : decode b_Tx_endParent 9 = .ok (.if_icmp .ge 20, 3) := by decide +kernel
theorem d_Tx_endParent_12 : decode b_Tx_endParent 12 = .ok (.aload_n 0, 1) := by decide +kernel
theorem d_Tx_endParent_13 : decode b_Tx_endParent 13 = .ok (.getfield 18, 3) := by decide +kernel
theorem d_Tx_endParent_16 : decode b_Tx_endParent 16 = .ok (.iload_n 1, 1) := by decide +kernel
theorem d_Tx_endParent_17 : decode b_Tx_endParent 17 = .ok (.iload_n 2, 1) := by decide +kernel
theorem d_Tx_endParent_18 : decode b_Tx_endParent 18 = .ok (.iastore, 1) := by decide +kernel
theorem d_Tx_endParent_19 : decode b_Tx_endParent 19 = .ok (.aload_n 0, 1) := by decide +kernel
theorem d_Tx_endParent_20 : decode b_Tx_endParent 20 = .ok (.getfield 30, 3) := by decide +kernel
theorem d_Tx_endParent_23 : decode b_Tx_endParent 23 = .ok (.iload_n 1, 1) := by decide +kernel
theorem d_Tx_endParent_24 : decode b_Tx_endParent 24 = .ok (.aload_n 0, 1) := by decide +kernel
theorem d_Tx_endParent_25 : decode b_Tx_endParent 25 = .ok (.getfield 43, 3) := by decide +kernel
theorem d_Tx_endParent_28 : decode b_Tx_endParent 28 = .ok (.iastore, 1) := by decide +kernel
theorem d_Tx_endParent_29 : decode b_Tx_endParent 29 = .ok (.return_, 1) := by decide +kernel
theorem d_Tx_firstChild_0 : decode b_Tx_firstChild 0 = .ok (.iload_n 1, 1) := by decide +kernel
theorem d_Tx_firstChild_1 : decode b_Tx_firstChild 1 = .ok (.ifCond .lt 30, 3) := by decide +kernel
theorem d_Tx_firstChild_4 : decode b_Tx_firstChild 4 = .ok (.iload_n 1, 1) := by decide +kernel
theorem d_Tx_firstChild_5 : decode b_Tx_firstChild 5 = .ok (.aload_n 0, 1) := by decide +kernel
theorem d_Tx_firstChild_6 : decode b_Tx_firstChild 6 = .ok (.getfield 43, 3) := by decide +kernel
theorem d_Tx_firstChild_9 : decode b_Tx_firstChild 9 = .ok (.if_icmp .ge 22, 3) := by decide +kernel
theorem d_Tx_firstChild_12 : decode b_Tx_firstChild 12 = .ok (.aload_n 0, 1) := by decide +kernel
theorem d_Tx_firstChild_13 : decode b_Tx_firstChild 13 = .ok (.getfield 18, 3) := by decide +kernel
theorem d_Tx_firstChild_16 : decode b_Tx_firstChild 16 = .ok (.iload_n 1, 1) := by decide +kernel
theorem d_Tx_firstChild_17 : decode b_Tx_firstChild 17 = .ok (.iaload, 1) := by decide +kernel
theorem d_Tx_firstChild_18 : decode b_Tx_firstChild 18 = .ok (.ifCond .eq 13, 3) := by decide +kernel
theorem d_Tx_firstChild_21 : decode b_Tx_firstChild 21 = .ok (.aload_n 0, 1) := by decide +kernel
theorem d_Tx_firstChild_22 : decode b_Tx_firstChild 22 = .ok (.getfield 9, 3) := by decide +kernel
theorem d_Tx_firstChild_25 : decode b_Tx_firstChild 25 = .ok (.iload_n 1, 1) := by decide +kernel
theorem d_Tx_firstChild_26 : decode b_Tx_firstChild 26 = .ok (.iaload, 1) := by decide +kernel
theorem d_Tx_firstChild_27 : decode b_Tx_firstChild 27 = .ok (.iconst 5, 1) := by decide +kernel
theorem d_Tx_firstChild_28 : decode b_Tx_firstChild 28 = .ok (.if_icmp .ge 5, 3) := by decide +kernel
theorem d_Tx_firstChild_31 : decode b_Tx_firstChild 31 = .ok (.iconst (-1), 1) := by decide +kernel
theorem d_Tx_firstChild_32 : decode b_Tx_firstChild 32 = .ok (.ireturn, 1) := by decide +kernel
theorem d_Tx_firstChild_33 : decode b_Tx_firstChild 33 = .ok (.aload_n 0, 1) := by decide +kernel
theorem d_Tx_firstChild_34 : decode b_Tx_firstChild 34 = .ok (.getfield 9, 3) := by decide +kernel
theorem d_Tx_firstChild_37 : decode b_Tx_firstChild 37 = .ok (.iload_n 1, 1) := by decide +kernel
theorem d_Tx_firstChild_38 : decode b_Tx_firstChild 38 = .ok (.iaload, 1) := by decide +kernel
theorem d_Tx_firstChild_39 : decode b_Tx_firstChild 39 = .ok (.iconst 5, 1) := by decide +kernel
theorem d_Tx_firstChild_40 : decode b_Tx_firstChild 40 = .ok (.if_icmp .ne 9, 3) := by decide +kernel
theorem d_Tx_firstChild_43 : decode b_Tx_firstChild 43 = .ok (.iload_n 1, 1) := by decide +kernel
theorem d_Tx_firstChild_44 : decode b_Tx_firstChild 44 = .ok (.iconst 1, 1) := by decide +kernel
theorem d_Tx_firstChild_45 : decode b_Tx_firstChild 45 = .ok (.iadd, 1) := by decide +kernel
theorem d_Tx_firstChild_46 : decode b_Tx_firstChild 46 = .ok (.goto 6, 3) := by decide +kernel
theorem d_Tx_firstChild_49 : decode b_Tx_firstChild 49 = .ok (.iload_n 1, 1) := by decide +kernel
theorem d_Tx_firstChild_50 : decode b_Tx_firstChild 50 = .ok (.iconst 2, 1) := by decide +kernel
theorem d_Tx_firstChild_51 : decode b_Tx_firstChild 51 = .ok (.iadd, 1) := by decide +kernel
theorem d_Tx_firstChild_52 : decode b_Tx_firstChild 52 = .ok (.ireturn, 1) := by decide +kernel
theorem d_Tx_size_0 : decode b_Tx_size 0 = .ok (.iload_n 1, 1) := by decide +kernel
theorem d_Tx_size_1 : decode b_Tx_size 1 = .ok (.ifCond .lt 20, 3) := by decide +kernel
theorem d_Tx_size_4 : decode b_Tx_size 4 = .ok (.iload_n 1, 1) := by decide +kernel
theorem d_Tx_size_5 : decode b_Tx_size 5 = .ok (.aload_n 0, 1) := by decide +kernel
theorem d_Tx_size_6 : decode b_Tx_size 6 = .ok (.getfield 43, 3) := by decide +kernel
theorem d_Tx_size_9 : decode b_Tx_size 9 = .ok (.if_icmp .ge 12, 3) := by decide +kernel
theorem d_Tx_size_12 : decode b_Tx_size 12 = .ok (.aload_n 0, 1) := by decide +kernel
theorem d_Tx_size_13 : decode b_Tx_size 13 = .ok (.getfield 18, 3) := by decide +kernel
theorem d_Tx_size_16 : decode b_Tx_size 16 = .ok (.iload_n 1, 1) := by decide +kernel
theorem d_Tx_size_17 : decode b_Tx_size 17 = .ok (.iaload, 1) := by decide +kernel
theorem d_Tx_size_18 : decode b_Tx_size 18 = .ok (.goto 4, 3) := by decide +kernel
theorem d_Tx_size_21 : decode b_Tx_size 21 = .ok (.iconst 0, 1) := by decide +kernel
theorem d_Tx_size_22 : decode b_Tx_size 22 = .ok (.ireturn, 1) := by decide +kernel
theorem d_Tx_sameString_0 : decode b_Tx_sameString 0 = .ok (.iload_n 1, 1) := by decide +kernel
theorem d_Tx_sameString_1 : decode b_Tx_sameString 1 = .ok (.ifCond .lt 38, 3) := by decide +kernel
theorem d_Tx_sameString_4 : decode b_Tx_sameString 4 = .ok (.iload_n 1, 1) := by decide +kernel
theorem d_Tx_sameString_5 : decode b_Tx_sameString 5 = .ok (.aload_n 0, 1) := by decide +kernel
theorem d_Tx_sameString_6 : decode b_Tx_sameString 6 = .ok (.getfield 43, 3) := by decide +kernel
theorem d_Tx_sameString_9 : decode b_Tx_sameString 9 = .ok (.if_icmp .ge 30, 3) := by decide +kernel
theorem d_Tx_sameString_12 : decode b_Tx_sameString 12 = .ok (.iload_n 3, 1) := by decide +kernel
theorem d_Tx_sameString_13 : decode b_Tx_sameString 13 = .ok (.ifCond .lt 26, 3) := by decide +kernel
theorem d_Tx_sameString_16 : decode b_Tx_sameString 16 = .ok (.iload_n 3, 1) := by decide +kernel
theorem d_Tx_sameString_17 : decode b_Tx_sameString 17 = .ok (.aload_n 2, 1) := by decide +kernel
theorem d_Tx_sameString_18 : decode b_Tx_sameString 18 = .ok (.getfield 43, 3) := by decide +kernel
theorem d_Tx_sameString_21 : decode b_Tx_sameString 21 = .ok (.if_icmp .ge 18, 3) := by decide +kernel
theorem d_Tx_sameString_24 : decode b_Tx_sameString 24 = .ok (.aload_n 0, 1) := by decide +kernel
theorem d_Tx_sameString_25 : decode b_Tx_sameString 25 = .ok (.getfield 18, 3) := by decide +kernel
theorem d_Tx_sameString_28 : decode b_Tx_sameString 28 = .ok (.iload_n 1, 1) := by decide +kernel
theorem d_Tx_sameString_29 : decode b_Tx_sameString 29 = .ok (.iaload, 1) := by decide +kernel
theorem d_Tx_sameString_30 : decode b_Tx_sameString 30 = .ok (.aload_n 2, 1) := by decide +kernel
theorem d_Tx_sameString_31 : decode b_Tx_sameString 31 = .ok (.getfield 18, 3) := by decide +kernel
theorem d_Tx_sameString_34 : decode b_Tx_sameString 34 = .ok (.iload_n 3, 1) := by decide +kernel
theorem d_Tx_sameString_35 : decode b_Tx_sameString 35 = .ok (.iaload, 1) := by decide +kernel
theorem d_Tx_sameString_36 : decode b_Tx_sameString 36 = .ok (.if_icmp .eq 5, 3) := by decide +kernel
theorem d_Tx_sameString_39 : decode b_Tx_sameString 39 = .ok (.iconst 0, 1) := by decide +kernel
theorem d_Tx_sameString_40 : decode b_Tx_sameString 40 = .ok (.ireturn, 1) := by decide +kernel
theorem d_Tx_sameString_41 : decode b_Tx_sameString 41 = .ok (.aload_n 0, 1) := by decide +kernel
theorem d_Tx_sameString_42 : decode b_Tx_sameString 42 = .ok (.getfield 27, 3) := by decide +kernel
theorem d_Tx_sameString_45 : decode b_Tx_sameString 45 = .ok (.iload_n 1, 1) := by decide +kernel
theorem d_Tx_sameString_46 : decode b_Tx_sameString 46 = .ok (.iaload, 1) := by decide +kernel
theorem d_Tx_sameString_47 : decode b_Tx_sameString 47 = .ok (.istore 4, 2) := by decide +kernel
theorem d_Tx_sameString_49 : decode b_Tx_sameString 49 = .ok (.aload_n 2, 1) := by decide +kernel
theorem d_Tx_sameString_50 : decode b_Tx_sameString 50 = .ok (.getfield 27, 3) := by decide +kernel
theorem d_Tx_sameString_53 : decode b_Tx_sameString 53 = .ok (.iload_n 3, 1) := by decide +kernel
theorem d_Tx_sameString_54 : decode b_Tx_sameString 54 = .ok (.iaload, 1) := by decide +kernel
theorem d_Tx_sameString_55 : decode b_Tx_sameString 55 = .ok (.istore 5, 2) := by decide +kernel
theorem d_Tx_sameString_57 : decode b_Tx_sameString 57 = .ok (.aload_n 0, 1) := by decide +kernel
theorem d_Tx_sameString_58 : decode b_Tx_sameString 58 = .ok (.getfield 18, 3) := by decide +kernel
theorem d_Tx_sameString_61 : decode b_Tx_sameString 61 = .ok (.iload_n 1, 1) := by decide +kernel
theorem d_Tx_sameString_62 : decode b_Tx_sameString 62 = .ok (.iaload, 1) := by decide +kernel
theorem d_Tx_sameString_63 : decode b_Tx_sameString 63 = .ok (.istore 6, 2) := by decide +kernel
theorem d_Tx_sameString_65 : decode b_Tx_sameString 65 = .ok (.iload 4, 2) := by decide +kernel
theorem d_Tx_sameString_67 : decode b_Tx_sameString 67 = .ok (.ifCond .lt 30, 3) := by decide +kernel
theorem d_Tx_sameString_70 : decode b_Tx_sameString 70 = .ok (.iload 4, 2) := by decide +kernel
theorem d_Tx_sameString_72 : decode b_Tx_sameString 72 = .ok (.iload 6, 2) := by decide +kernel
theorem d_Tx_sameString_74 : decode b_Tx_sameString 74 = .ok (.iadd, 1) := by decide +kernel
theorem d_Tx_sameString_75 : decode b_Tx_sameString 75 = .ok (.sipush 8192, 3) := by decide +kernel
theorem d_Tx_sameString_78 : decode b_Tx_sameString 78 = .ok (.if_icmp .gt 19, 3) := by decide +kernel
theorem d_Tx_sameString_81 : decode b_Tx_sameString 81 = .ok (.iload 5, 2) := by decide +kernel
theorem d_Tx_sameString_83 : decode b_Tx_sameString 83 = .ok (.ifCond .lt 14, 3) := by decide +kernel
theorem d_Tx_sameString_86 : decode b_Tx_sameString 86 = .ok (.iload 5, 2) := by decide +kernel
theorem d_Tx_sameString_88 : decode b_Tx_sameString 88 = .ok (.iload 6, 2) := by decide +kernel
theorem d_Tx_sameString_90 : decode b_Tx_sameString 90 = .ok (.iadd, 1) := by decide +kernel
theorem d_Tx_sameString_91 : decode b_Tx_sameString 91 = .ok (.sipush 8192, 3) := by decide +kernel
theorem d_Tx_sameString_94 : decode b_Tx_sameString 94 = .ok (.if_icmp .le 5, 3) := by decide +kernel
theorem d_Tx_sameString_97 : decode b_Tx_sameString 97 = .ok (.iconst 0, 1) := by decide +kernel
theorem d_Tx_sameString_98 : decode b_Tx_sameString 98 = .ok (.ireturn, 1) := by decide +kernel
theorem d_Tx_sameString_99 : decode b_Tx_sameString 99 = .ok (.iconst 0, 1) := by decide +kernel
theorem d_Tx_sameString_100 : decode b_Tx_sameString 100 = .ok (.istore 7, 2) := by decide +kernel
theorem d_Tx_sameString_102 : decode b_Tx_sameString 102 = .ok (.iload 7, 2) := by decide +kernel
theorem d_Tx_sameString_104 : decode b_Tx_sameString 104 = .ok (.iload 6, 2) := by decide +kernel
theorem d_Tx_sameString_106 : decode b_Tx_sameString 106 = .ok (.if_icmp .ge 34, 3) := by decide +kernel
theorem d_Tx_sameString_109 : decode b_Tx_sameString 109 = .ok (.aload_n 0, 1) := by decide +kernel
theorem d_Tx_sameString_110 : decode b_Tx_sameString 110 = .ok (.getfield 40, 3) := by decide +kernel
theorem d_Tx_sameString_113 : decode b_Tx_sameString 113 = .ok (.iload 4, 2) := by decide +kernel
theorem d_Tx_sameString_115 : decode b_Tx_sameString 115 = .ok (.iload 7, 2) := by decide +kernel
theorem d_Tx_sameString_117 : decode b_Tx_sameString 117 = .ok (.iadd, 1) := by decide +kernel
theorem d_Tx_sameString_118 : decode b_Tx_sameString 118 = .ok (.iaload, 1) := by decide +kernel
theorem d_Tx_sameString_119 : decode b_Tx_sameString 119 = .ok (.aload_n 2, 1) := by decide +kernel
theorem d_Tx_sameString_120 : decode b_Tx_sameString 120 = .ok (.getfield 40, 3) := by decide +kernel
theorem d_Tx_sameString_123 : decode b_Tx_sameString 123 = .ok (.iload 5, 2) := by decide +kernel
theorem d_Tx_sameString_125 : decode b_Tx_sameString 125 = .ok (.iload 7, 2) := by decide +kernel
theorem d_Tx_sameString_127 : decode b_Tx_sameString 127 = .ok (.iadd, 1) := by decide +kernel
theorem d_Tx_sameString_128 : decode b_Tx_sameString 128 = .ok (.iaload, 1) := by decide +kernel
theorem d_Tx_sameString_129 : decode b_Tx_sameString 129 = .ok (.if_icmp .eq 5, 3) := by decide +kernel
theorem d_Tx_sameString_132 : decode b_Tx_sameString 132 = .ok (.iconst 0, 1) := by decide +kernel
theorem d_Tx_sameString_133 : decode b_Tx_sameString 133 = .ok (.ireturn, 1) := by decide +kernel
theorem d_Tx_sameString_134 : decode b_Tx_sameString 134 = .ok (.iinc 7 1, 3) := by decide +kernel
theorem d_Tx_sameString_137 : decode b_Tx_sameString 137 = .ok (.goto (-35), 3) := by decide +kernel
theorem d_Tx_sameString_140 : decode b_Tx_sameString 140 = .ok (.iconst 1, 1) := by decide +kernel
theorem d_Tx_sameString_141 : decode b_Tx_sameString 141 = .ok (.ireturn, 1) := by decide +kernel
theorem d_Tx_nextChild_0 : decode b_Tx_nextChild 0 = .ok (.iload_n 1, 1) := by decide +kernel
theorem d_Tx_nextChild_1 : decode b_Tx_nextChild 1 = .ok (.ifCond .lt 20, 3) := by decide +kernel
theorem d_Tx_nextChild_4 : decode b_Tx_nextChild 4 = .ok (.iload_n 1, 1) := by decide +kernel
theorem d_Tx_nextChild_5 : decode b_Tx_nextChild 5 = .ok (.aload_n 0, 1) := by decide +kernel
theorem d_Tx_nextChild_6 : decode b_Tx_nextChild 6 = .ok (.getfield 43, 3) := by decide +kernel
theorem d_Tx_nextChild_9 : decode b_Tx_nextChild 9 = .ok (.if_icmp .ge 12, 3) := by decide +kernel
theorem d_Tx_nextChild_12 : decode b_Tx_nextChild 12 = .ok (.aload_n 0, 1) := by decide +kernel
theorem d_Tx_nextChild_13 : decode b_Tx_nextChild 13 = .ok (.getfield 21, 3) := by decide +kernel
theorem d_Tx_nextChild_16 : decode b_Tx_nextChild 16 = .ok (.iload_n 1, 1) := by decide +kernel
theorem d_Tx_nextChild_17 : decode b_Tx_nextChild 17 = .ok (.iaload, 1) := by decide +kernel
theorem d_Tx_nextChild_18 : decode b_Tx_nextChild 18 = .ok (.goto 4, 3) := by decide +kernel
theorem d_Tx_nextChild_21 : decode b_Tx_nextChild 21 = .ok (.iconst (-1), 1) := by decide +kernel
theorem d_Tx_nextChild_22 : decode b_Tx_nextChild 22 = .ok (.istore_n 2, 1) := by decide +kernel
theorem d_Tx_nextChild_23 : decode b_Tx_nextChild 23 = .ok (.iload_n 2, 1) := by decide +kernel
theorem d_Tx_nextChild_24 : decode b_Tx_nextChild 24 = .ok (.ifCond .lt 28, 3) := by decide +kernel
theorem d_Tx_nextChild_27 : decode b_Tx_nextChild 27 = .ok (.iload_n 2, 1) := by decide +kernel
theorem d_Tx_nextChild_28 : decode b_Tx_nextChild 28 = .ok (.aload_n 0, 1) := by decide +kernel
theorem d_Tx_nextChild_29 : decode b_Tx_nextChild 29 = .ok (.getfield 43, 3) := by decide +kernel
theorem d_Tx_nextChild_32 : decode b_Tx_nextChild 32 = .ok (.if_icmp .ge 20, 3) := by decide +kernel
theorem d_Tx_nextChild_35 : decode b_Tx_nextChild 35 = .ok (.aload_n 0, 1) := by decide +kernel
theorem d_Tx_nextChild_36 : decode b_Tx_nextChild 36 = .ok (.getfield 33, 3) := by decide +kernel
theorem d_Tx_nextChild_39 : decode b_Tx_nextChild 39 = .ok (.iload_n 1, 1) := by decide +kernel
theorem d_Tx_nextChild_40 : decode b_Tx_nextChild 40 = .ok (.iaload, 1) := by decide +kernel
theorem d_Tx_nextChild_41 : decode b_Tx_nextChild 41 = .ok (.iconst 1, 1) := by decide +kernel
theorem d_Tx_nextChild_42 : decode b_Tx_nextChild 42 = .ok (.iadd, 1) := by decide +kernel
theorem d_Tx_nextChild_43 : decode b_Tx_nextChild 43 = .ok (.aload_n 0, 1) := by decide +kernel
theorem d_Tx_nextChild_44 : decode b_Tx_nextChild 44 = .ok (.getfield 18, 3) := by decide +kernel
theorem d_Tx_nextChild_47 : decode b_Tx_nextChild 47 = .ok (.iload_n 2, 1) := by decide +kernel
theorem d_Tx_nextChild_48 : decode b_Tx_nextChild 48 = .ok (.iaload, 1) := by decide +kernel
theorem d_Tx_nextChild_49 : decode b_Tx_nextChild 49 = .ok (.if_icmp .lt 5, 3) := by decide +kernel
theorem d_Tx_nextChild_52 : decode b_Tx_nextChild 52 = .ok (.iconst (-1), 1) := by decide +kernel
theorem d_Tx_nextChild_53 : decode b_Tx_nextChild 53 = .ok (.ireturn, 1) := by decide +kernel
theorem d_Tx_nextChild_54 : decode b_Tx_nextChild 54 = .ok (.aload_n 0, 1) := by decide +kernel
theorem d_Tx_nextChild_55 : decode b_Tx_nextChild 55 = .ok (.getfield 9, 3) := by decide +kernel
theorem d_Tx_nextChild_58 : decode b_Tx_nextChild 58 = .ok (.iload_n 2, 1) := by decide +kernel
theorem d_Tx_nextChild_59 : decode b_Tx_nextChild 59 = .ok (.iaload, 1) := by decide +kernel
theorem d_Tx_nextChild_60 : decode b_Tx_nextChild 60 = .ok (.iconst 5, 1) := by decide +kernel
theorem d_Tx_nextChild_61 : decode b_Tx_nextChild 61 = .ok (.if_icmp .ne 12, 3) := by decide +kernel
theorem d_Tx_nextChild_64 : decode b_Tx_nextChild 64 = .ok (.aload_n 0, 1) := by decide +kernel
theorem d_Tx_nextChild_65 : decode b_Tx_nextChild 65 = .ok (.getfield 30, 3) := by decide +kernel
theorem d_Tx_nextChild_68 : decode b_Tx_nextChild 68 = .ok (.iload_n 1, 1) := by decide +kernel
theorem d_Tx_nextChild_69 : decode b_Tx_nextChild 69 = .ok (.iaload, 1) := by decide +kernel
theorem d_Tx_nextChild_70 : decode b_Tx_nextChild 70 = .ok (.goto 11, 3) := by decide +kernel
theorem d_Tx_nextChild_73 : decode b_Tx_nextChild 73 = .ok (.aload_n 0, 1) := by decide +kernel
theorem d_Tx_nextChild_74 : decode b_Tx_nextChild 74 = .ok (.getfield 30, 3) := by decide +kernel
theorem d_Tx_nextChild_77 : decode b_Tx_nextChild 77 = .ok (.iload_n 1, 1) := by decide +kernel
theorem d_Tx_nextChild_78 : decode b_Tx_nextChild 78 = .ok (.iaload, 1) := by decide +kernel
theorem d_Tx_nextChild_79 : decode b_Tx_nextChild 79 = .ok (.iconst 1, 1) := by decide +kernel
theorem d_Tx_nextChild_80 : decode b_Tx_nextChild 80 = .ok (.iadd, 1) := by decide +kernel
theorem d_Tx_nextChild_81 : decode b_Tx_nextChild 81 = .ok (.ireturn, 1) := by decide +kernel
theorem d_Tx_member_0 : decode b_Tx_member 0 = .ok (.aload_n 0, 1) := by decide +kernel
theorem d_Tx_member_1 : decode b_Tx_member 1 = .ok (.iload_n 1, 1) := by decide +kernel
theorem d_Tx_member_2 : decode b_Tx_member 2 = .ok (.invokevirtual 53, 3) := by decide +kernel
theorem d_Tx_member_5 : decode b_Tx_member 5 = .ok (.istore 4, 2) := by decide +kernel
theorem d_Tx_member_7 : decode b_Tx_member 7 = .ok (.iconst 0, 1) := by decide +kernel
theorem d_Tx_member_8 : decode b_Tx_member 8 = .ok (.istore 5, 2) := by decide +kernel
theorem d_Tx_member_10 : decode b_Tx_member 10 = .ok (.iload 5, 2) := by decide +kernel
theorem d_Tx_member_12 : decode b_Tx_member 12 = .ok (.aload_n 0, 1) := by decide +kernel
theorem d_Tx_member_13 : decode b_Tx_member 13 = .ok (.iload_n 1, 1) := by decide +kernel
theorem d_Tx_member_14 : decode b_Tx_member 14 = .ok (.invokevirtual 60, 3) := by decide +kernel
theorem d_Tx_member_17 : decode b_Tx_member 17 = .ok (.if_icmp .ge 33, 3) := by decide +kernel
theorem d_Tx_member_20 : decode b_Tx_member 20 = .ok (.aload_n 0, 1) := by decide +kernel
theorem d_Tx_member_21 : decode b_Tx_member 21 = .ok (.iload 4, 2) := by decide +kernel
theorem d_Tx_member_23 : decode b_Tx_member 23 = .ok (.iconst 1, 1) := by decide +kernel
theorem d_Tx_member_24 : decode b_Tx_member 24 = .ok (.isub, 1) := by decide +kernel
theorem d_Tx_member_25 : decode b_Tx_member 25 = .ok (.aload_n 2, 1) := by decide +kernel
theorem d_Tx_member_26 : decode b_Tx_member 26 = .ok (.iload_n 3, 1) := by decide +kernel
theorem d_Tx_member_27 : decode b_Tx_member 27 = .ok (.invokestatic 63, 3) := by decide +kernel
theorem d_Tx_member_30 : decode b_Tx_member 30 = .ok (.ifCond .eq 6, 3) := by decide +kernel
theorem d_Tx_member_33 : decode b_Tx_member 33 = .ok (.iload 4, 2) := by decide +kernel
theorem d_Tx_member_35 : decode b_Tx_member 35 = .ok (.ireturn, 1) := by decide +kernel
theorem d_Tx_member_36 : decode b_Tx_member 36 = .ok (.aload_n 0, 1) := by decide +kernel
theorem d_Tx_member_37 : decode b_Tx_member 37 = .ok (.iload 4, 2) := by decide +kernel
theorem d_Tx_member_39 : decode b_Tx_member 39 = .ok (.invokevirtual 57, 3) := by decide +kernel
theorem d_Tx_member_42 : decode b_Tx_member 42 = .ok (.istore 4, 2) := by decide +kernel
theorem d_Tx_member_44 : decode b_Tx_member 44 = .ok (.iinc 5 1, 3) := by decide +kernel
theorem d_Tx_member_47 : decode b_Tx_member 47 = .ok (.goto (-37), 3) := by decide +kernel
theorem d_Tx_member_50 : decode b_Tx_member 50 = .ok (.iconst (-1), 1) := by decide +kernel
theorem d_Tx_member_51 : decode b_Tx_member 51 = .ok (.ireturn, 1) := by decide +kernel
theorem d_Tx_place_0 : decode b_Tx_place 0 = .ok (.iload_n 1, 1) := by decide +kernel
theorem d_Tx_place_1 : decode b_Tx_place 1 = .ok (.ifCond .lt 20, 3) := by decide +kernel
theorem d_Tx_place_4 : decode b_Tx_place 4 = .ok (.iload_n 1, 1) := by decide +kernel
theorem d_Tx_place_5 : decode b_Tx_place 5 = .ok (.aload_n 0, 1) := by decide +kernel
theorem d_Tx_place_6 : decode b_Tx_place 6 = .ok (.getfield 43, 3) := by decide +kernel
theorem d_Tx_place_9 : decode b_Tx_place 9 = .ok (.if_icmp .ge 12, 3) := by decide +kernel
theorem d_Tx_place_12 : decode b_Tx_place 12 = .ok (.aload_n 0, 1) := by decide +kernel
theorem d_Tx_place_13 : decode b_Tx_place 13 = .ok (.getfield 15, 3) := by decide +kernel
theorem d_Tx_place_16 : decode b_Tx_place 16 = .ok (.iload_n 1, 1) := by decide +kernel
theorem d_Tx_place_17 : decode b_Tx_place 17 = .ok (.iaload, 1) := by decide +kernel
theorem d_Tx_place_18 : decode b_Tx_place 18 = .ok (.goto 4, 3) := by decide +kernel
theorem d_Tx_place_21 : decode b_Tx_place 21 = .ok (.iconst (-1), 1) := by decide +kernel
theorem d_Tx_place_22 : decode b_Tx_place 22 = .ok (.ireturn, 1) := by decide +kernel
theorem d_Tx_total_0 : decode b_Tx_total 0 = .ok (.aload_n 0, 1) := by decide +kernel
theorem d_Tx_total_1 : decode b_Tx_total 1 = .ok (.getfield 43, 3) := by decide +kernel
theorem d_Tx_total_4 : decode b_Tx_total 4 = .ok (.ireturn, 1) := by decide +kernel
theorem d_Tx_kind_0 : decode b_Tx_kind 0 = .ok (.iload_n 1, 1) := by decide +kernel
theorem d_Tx_kind_1 : decode b_Tx_kind 1 = .ok (.ifCond .lt 20, 3) := by decide +kernel
theorem d_Tx_kind_4 : decode b_Tx_kind 4 = .ok (.iload_n 1, 1) := by decide +kernel
theorem d_Tx_kind_5 : decode b_Tx_kind 5 = .ok (.aload_n 0, 1) := by decide +kernel
theorem d_Tx_kind_6 : decode b_Tx_kind 6 = .ok (.getfield 43, 3) := by decide +kernel
theorem d_Tx_kind_9 : decode b_Tx_kind 9 = .ok (.if_icmp .ge 12, 3) := by decide +kernel
theorem d_Tx_kind_12 : decode b_Tx_kind 12 = .ok (.aload_n 0, 1) := by decide +kernel
theorem d_Tx_kind_13 : decode b_Tx_kind 13 = .ok (.getfield 9, 3) := by decide +kernel
theorem d_Tx_kind_16 : decode b_Tx_kind 16 = .ok (.iload_n 1, 1) := by decide +kernel
theorem d_Tx_kind_17 : decode b_Tx_kind 17 = .ok (.iaload, 1) := by decide +kernel
theorem d_Tx_kind_18 : decode b_Tx_kind 18 = .ok (.goto 4, 3) := by decide +kernel
theorem d_Tx_kind_21 : decode b_Tx_kind 21 = .ok (.iconst (-1), 1) := by decide +kernel
theorem d_Tx_kind_22 : decode b_Tx_kind 22 = .ok (.ireturn, 1) := by decide +kernel
theorem d_Tx_spells_0 : decode b_Tx_spells 0 = .ok (.iload_n 1, 1) := by decide +kernel
theorem d_Tx_spells_1 : decode b_Tx_spells 1 = .ok (.ifCond .lt 45, 3) := by decide +kernel
theorem d_Tx_spells_4 : decode b_Tx_spells 4 = .ok (.iload_n 1, 1) := by decide +kernel
theorem d_Tx_spells_5 : decode b_Tx_spells 5 = .ok (.aload_n 0, 1) := by decide +kernel
theorem d_Tx_spells_6 : decode b_Tx_spells 6 = .ok (.getfield 43, 3) := by decide +kernel
theorem d_Tx_spells_9 : decode b_Tx_spells 9 = .ok (.if_icmp .ge 37, 3) := by decide +kernel
theorem d_Tx_spells_12 : decode b_Tx_spells 12 = .ok (.aload_n 0, 1) := by decide +kernel
theorem d_Tx_spells_13 : decode b_Tx_spells 13 = .ok (.getfield 18, 3) := by decide +kernel
theorem d_Tx_spells_16 : decode b_Tx_spells 16 = .ok (.iload_n 1, 1) := by decide +kernel
theorem d_Tx_spells_17 : decode b_Tx_spells 17 = .ok (.iaload, 1) := by decide +kernel
theorem d_Tx_spells_18 : decode b_Tx_spells 18 = .ok (.aload_n 2, 1) := by decide +kernel
theorem d_Tx_spells_19 : decode b_Tx_spells 19 = .ok (.invokevirtual 67, 3) := by decide +kernel
theorem d_Tx_spells_22 : decode b_Tx_spells 22 = .ok (.if_icmp .ne 24, 3) := by decide +kernel
theorem d_Tx_spells_25 : decode b_Tx_spells 25 = .ok (.aload_n 0, 1) := by decide +kernel
theorem d_Tx_spells_26 : decode b_Tx_spells 26 = .ok (.getfield 27, 3) := by decide +kernel
theorem d_Tx_spells_29 : decode b_Tx_spells 29 = .ok (.iload_n 1, 1) := by decide +kernel
theorem d_Tx_spells_30 : decode b_Tx_spells 30 = .ok (.iaload, 1) := by decide +kernel
theorem d_Tx_spells_31 : decode b_Tx_spells 31 = .ok (.aload_n 0, 1) := by decide +kernel
theorem d_Tx_spells_32 : decode b_Tx_spells 32 = .ok (.getfield 18, 3) := by decide +kernel
theorem d_Tx_spells_35 : decode b_Tx_spells 35 = .ok (.iload_n 1, 1) := by decide +kernel
theorem d_Tx_spells_36 : decode b_Tx_spells 36 = .ok (.iaload, 1) := by decide +kernel
theorem d_Tx_spells_37 : decode b_Tx_spells 37 = .ok (.iadd, 1) := by decide +kernel
theorem d_Tx_spells_38 : decode b_Tx_spells 38 = .ok (.aload_n 0, 1) := by decide +kernel
theorem d_Tx_spells_39 : decode b_Tx_spells 39 = .ok (.getfield 40, 3) := by decide +kernel
theorem d_Tx_spells_42 : decode b_Tx_spells 42 = .ok (.arraylength, 1) := by decide +kernel
theorem d_Tx_spells_43 : decode b_Tx_spells 43 = .ok (.if_icmp .le 5, 3) := by decide +kernel
theorem d_Tx_spells_46 : decode b_Tx_spells 46 = .ok (.iconst 0, 1) := by decide +kernel
theorem d_Tx_spells_47 : decode b_Tx_spells 47 = .ok (.ireturn, 1) := by decide +kernel
theorem d_Tx_spells_48 : decode b_Tx_spells 48 = .ok (.iconst 0, 1) := by decide +kernel
theorem d_Tx_spells_49 : decode b_Tx_spells 49 = .ok (.istore_n 3, 1) := by decide +kernel
theorem d_Tx_spells_50 : decode b_Tx_spells 50 = .ok (.iload_n 3, 1) := by decide +kernel
theorem d_Tx_spells_51 : decode b_Tx_spells 51 = .ok (.aload_n 2, 1) := by decide +kernel
theorem d_Tx_spells_52 : decode b_Tx_spells 52 = .ok (.invokevirtual 67, 3) := by decide +kernel
theorem d_Tx_spells_55 : decode b_Tx_spells 55 = .ok (.if_icmp .ge 32, 3) := by decide +kernel
theorem d_Tx_spells_58 : decode b_Tx_spells 58 = .ok (.aload_n 0, 1) := by decide +kernel
theorem d_Tx_spells_59 : decode b_Tx_spells 59 = .ok (.getfield 40, 3) := by decide +kernel
theorem d_Tx_spells_62 : decode b_Tx_spells 62 = .ok (.aload_n 0, 1) := by decide +kernel
theorem d_Tx_spells_63 : decode b_Tx_spells 63 = .ok (.getfield 27, 3) := by decide +kernel
theorem d_Tx_spells_66 : decode b_Tx_spells 66 = .ok (.iload_n 1, 1) := by decide +kernel
theorem d_Tx_spells_67 : decode b_Tx_spells 67 = .ok (.iaload, 1) := by decide +kernel
theorem d_Tx_spells_68 : decode b_Tx_spells 68 = .ok (.iload_n 3, 1) := by decide +kernel
theorem d_Tx_spells_69 : decode b_Tx_spells 69 = .ok (.iadd, 1) := by decide +kernel
theorem d_Tx_spells_70 : decode b_Tx_spells 70 = .ok (.iaload, 1) := by decide +kernel
theorem d_Tx_spells_71 : decode b_Tx_spells 71 = .ok (.aload_n 2, 1) := by decide +kernel
theorem d_Tx_spells_72 : decode b_Tx_spells 72 = .ok (.iload_n 3, 1) := by decide +kernel
theorem d_Tx_spells_73 : decode b_Tx_spells 73 = .ok (.invokevirtual 73, 3) := by decide +kernel
theorem d_Tx_spells_76 : decode b_Tx_spells 76 = .ok (.if_icmp .eq 5, 3) := by decide +kernel
theorem d_Tx_spells_79 : decode b_Tx_spells 79 = .ok (.iconst 0, 1) := by decide +kernel
theorem d_Tx_spells_80 : decode b_Tx_spells 80 = .ok (.ireturn, 1) := by decide +kernel
theorem d_Tx_spells_81 : decode b_Tx_spells 81 = .ok (.iinc 3 1, 3) := by decide +kernel
theorem d_Tx_spells_84 : decode b_Tx_spells 84 = .ok (.goto (-34), 3) := by decide +kernel
theorem d_Tx_spells_87 : decode b_Tx_spells 87 = .ok (.iconst 1, 1) := by decide +kernel
theorem d_Tx_spells_88 : decode b_Tx_spells 88 = .ok (.ireturn, 1) := by decide +kernel
theorem d_Tx_cell_0 : decode b_Tx_cell 0 = .ok (.iload_n 1, 1) := by decide +kernel
theorem d_Tx_cell_1 : decode b_Tx_cell 1 = .ok (.ifCond .lt 25, 3) := by decide +kernel
theorem d_Tx_cell_4 : decode b_Tx_cell 4 = .ok (.iload_n 1, 1) := by decide +kernel
theorem d_Tx_cell_5 : decode b_Tx_cell 5 = .ok (.aload_n 0, 1) := by decide +kernel
theorem d_Tx_cell_6 : decode b_Tx_cell 6 = .ok (.getfield 43, 3) := by decide +kernel
theorem d_Tx_cell_9 : decode b_Tx_cell 9 = .ok (.if_icmp .ge 17, 3) := by decide +kernel
theorem d_Tx_cell_12 : decode b_Tx_cell 12 = .ok (.iload_n 2, 1) := by decide +kernel
theorem d_Tx_cell_13 : decode b_Tx_cell 13 = .ok (.ifCond .lt 13, 3) := by decide +kernel
theorem d_Tx_cell_16 : decode b_Tx_cell 16 = .ok (.iload_n 2, 1) := by decide +kernel
theorem d_Tx_cell_17 : decode b_Tx_cell 17 = .ok (.aload_n 0, 1) := by decide +kernel
theorem d_Tx_cell_18 : decode b_Tx_cell 18 = .ok (.getfield 18, 3) := by decide +kernel
theorem d_Tx_cell_21 : decode b_Tx_cell 21 = .ok (.iload_n 1, 1) := by decide +kernel
theorem d_Tx_cell_22 : decode b_Tx_cell 22 = .ok (.iaload, 1) := by decide +kernel
theorem d_Tx_cell_23 : decode b_Tx_cell 23 = .ok (.if_icmp .lt 5, 3) := by decide +kernel
theorem d_Tx_cell_26 : decode b_Tx_cell 26 = .ok (.iconst 0, 1) := by decide +kernel
theorem d_Tx_cell_27 : decode b_Tx_cell 27 = .ok (.ireturn, 1) := by decide +kernel
theorem d_Tx_cell_28 : decode b_Tx_cell 28 = .ok (.aload_n 0, 1) := by decide +kernel
theorem d_Tx_cell_29 : decode b_Tx_cell 29 = .ok (.getfield 27, 3) := by decide +kernel
theorem d_Tx_cell_32 : decode b_Tx_cell 32 = .ok (.iload_n 1, 1) := by decide +kernel
theorem d_Tx_cell_33 : decode b_Tx_cell 33 = .ok (.iaload, 1) := by decide +kernel
theorem d_Tx_cell_34 : decode b_Tx_cell 34 = .ok (.iload_n 2, 1) := by decide +kernel
theorem d_Tx_cell_35 : decode b_Tx_cell 35 = .ok (.iadd, 1) := by decide +kernel
theorem d_Tx_cell_36 : decode b_Tx_cell 36 = .ok (.istore_n 3, 1) := by decide +kernel
theorem d_Tx_cell_37 : decode b_Tx_cell 37 = .ok (.iload_n 3, 1) := by decide +kernel
theorem d_Tx_cell_38 : decode b_Tx_cell 38 = .ok (.ifCond .lt 21, 3) := by decide +kernel
theorem d_Tx_cell_41 : decode b_Tx_cell 41 = .ok (.iload_n 3, 1) := by decide +kernel
theorem d_Tx_cell_42 : decode b_Tx_cell 42 = .ok (.aload_n 0, 1) := by decide +kernel
theorem d_Tx_cell_43 : decode b_Tx_cell 43 = .ok (.getfield 40, 3) := by decide +kernel
theorem d_Tx_cell_46 : decode b_Tx_cell 46 = .ok (.arraylength, 1) := by decide +kernel
theorem d_Tx_cell_47 : decode b_Tx_cell 47 = .ok (.if_icmp .ge 12, 3) := by decide +kernel
theorem d_Tx_cell_50 : decode b_Tx_cell 50 = .ok (.aload_n 0, 1) := by decide +kernel
theorem d_Tx_cell_51 : decode b_Tx_cell 51 = .ok (.getfield 40, 3) := by decide +kernel
theorem d_Tx_cell_54 : decode b_Tx_cell 54 = .ok (.iload_n 3, 1) := by decide +kernel
theorem d_Tx_cell_55 : decode b_Tx_cell 55 = .ok (.iaload, 1) := by decide +kernel
theorem d_Tx_cell_56 : decode b_Tx_cell 56 = .ok (.goto 4, 3) := by decide +kernel
theorem d_Tx_cell_59 : decode b_Tx_cell 59 = .ok (.iconst 0, 1) := by decide +kernel
theorem d_Tx_cell_60 : decode b_Tx_cell 60 = .ok (.ireturn, 1) := by decide +kernel
theorem d_Tx_sign_0 : decode b_Tx_sign 0 = .ok (.iload_n 1, 1) := by decide +kernel
theorem d_Tx_sign_1 : decode b_Tx_sign 1 = .ok (.ifCond .lt 20, 3) := by decide +kernel
theorem d_Tx_sign_4 : decode b_Tx_sign 4 = .ok (.iload_n 1, 1) := by decide +kernel
theorem d_Tx_sign_5 : decode b_Tx_sign 5 = .ok (.aload_n 0, 1) := by decide +kernel
theorem d_Tx_sign_6 : decode b_Tx_sign 6 = .ok (.getfield 43, 3) := by decide +kernel
theorem d_Tx_sign_9 : decode b_Tx_sign 9 = .ok (.if_icmp .ge 12, 3) := by decide +kernel
theorem d_Tx_sign_12 : decode b_Tx_sign 12 = .ok (.aload_n 0, 1) := by decide +kernel
theorem d_Tx_sign_13 : decode b_Tx_sign 13 = .ok (.getfield 18, 3) := by decide +kernel
theorem d_Tx_sign_16 : decode b_Tx_sign 16 = .ok (.iload_n 1, 1) := by decide +kernel
theorem d_Tx_sign_17 : decode b_Tx_sign 17 = .ok (.iaload, 1) := by decide +kernel
theorem d_Tx_sign_18 : decode b_Tx_sign 18 = .ok (.ifCond .ne 5, 3) := by decide +kernel
theorem d_Tx_sign_21 : decode b_Tx_sign 21 = .ok (.iconst 0, 1) := by decide +kernel
theorem d_Tx_sign_22 : decode b_Tx_sign 22 = .ok (.ireturn, 1) := by decide +kernel
theorem d_Tx_sign_23 : decode b_Tx_sign 23 = .ok (.aload_n 0, 1) := by decide +kernel
theorem d_Tx_sign_24 : decode b_Tx_sign 24 = .ok (.getfield 36, 3) := by decide +kernel
theorem d_Tx_sign_27 : decode b_Tx_sign 27 = .ok (.iload_n 1, 1) := by decide +kernel
theorem d_Tx_sign_28 : decode b_Tx_sign 28 = .ok (.baload, 1) := by decide +kernel
theorem d_Tx_sign_29 : decode b_Tx_sign 29 = .ok (.ifCond .eq 7, 3) := by decide +kernel
theorem d_Tx_sign_32 : decode b_Tx_sign 32 = .ok (.iconst (-1), 1) := by decide +kernel
theorem d_Tx_sign_33 : decode b_Tx_sign 33 = .ok (.goto 4, 3) := by decide +kernel
theorem d_Tx_sign_36 : decode b_Tx_sign 36 = .ok (.iconst 1, 1) := by decide +kernel
theorem d_Tx_sign_37 : decode b_Tx_sign 37 = .ok (.ireturn, 1) := by decide +kernel
theorem d_Tx_exponent_0 : decode b_Tx_exponent 0 = .ok (.iload_n 1, 1) := by decide +kernel
theorem d_Tx_exponent_1 : decode b_Tx_exponent 1 = .ok (.ifCond .lt 20, 3) := by decide +kernel
theorem d_Tx_exponent_4 : decode b_Tx_exponent 4 = .ok (.iload_n 1, 1) := by decide +kernel
theorem d_Tx_exponent_5 : decode b_Tx_exponent 5 = .ok (.aload_n 0, 1) := by decide +kernel
theorem d_Tx_exponent_6 : decode b_Tx_exponent 6 = .ok (.getfield 43, 3) := by decide +kernel
theorem d_Tx_exponent_9 : decode b_Tx_exponent 9 = .ok (.if_icmp .ge 12, 3) := by decide +kernel
theorem d_Tx_exponent_12 : decode b_Tx_exponent 12 = .ok (.aload_n 0, 1) := by decide +kernel
theorem d_Tx_exponent_13 : decode b_Tx_exponent 13 = .ok (.getfield 24, 3) := by decide +kernel
theorem d_Tx_exponent_16 : decode b_Tx_exponent 16 = .ok (.iload_n 1, 1) := by decide +kernel
theorem d_Tx_exponent_17 : decode b_Tx_exponent 17 = .ok (.iaload, 1) := by decide +kernel
theorem d_Tx_exponent_18 : decode b_Tx_exponent 18 = .ok (.goto 4, 3) := by decide +kernel
theorem d_Tx_exponent_21 : decode b_Tx_exponent 21 = .ok (.iconst 0, 1) := by decide +kernel
theorem d_Tx_exponent_22 : decode b_Tx_exponent 22 = .ok (.ireturn, 1) := by decide +kernel
theorem d_Tx_wholeNumber_0 : decode b_Tx_wholeNumber 0 = .ok (.aload_n 0, 1) := by decide +kernel
theorem d_Tx_wholeNumber_1 : decode b_Tx_wholeNumber 1 = .ok (.iload_n 1, 1) := by decide +kernel
theorem d_Tx_wholeNumber_2 : decode b_Tx_wholeNumber 2 = .ok (.invokevirtual 77, 3) := by decide +kernel
theorem d_Tx_wholeNumber_5 : decode b_Tx_wholeNumber 5 = .ok (.iconst 3, 1) := by decide +kernel
theorem d_Tx_wholeNumber_6 : decode b_Tx_wholeNumber 6 = .ok (.if_icmp .ne 35, 3) := by decide +kernel
theorem d_Tx_wholeNumber_9 : decode b_Tx_wholeNumber 9 = .ok (.aload_n 0, 1) := by decide +kernel
theorem d_Tx_wholeNumber_10 : decode b_Tx_wholeNumber 10 = .ok (.iload_n 1, 1) := by decide +kernel
theorem d_Tx_wholeNumber_11 : decode b_Tx_wholeNumber 11 = .ok (.invokevirtual 80, 3) := by decide +kernel
theorem d_Tx_wholeNumber_14 : decode b_Tx_wholeNumber 14 = .ok (.ifCond .lt 27, 3) := by decide +kernel
theorem d_Tx_wholeNumber_17 : decode b_Tx_wholeNumber 17 = .ok (.aload_n 0, 1) := by decide +kernel
theorem d_Tx_wholeNumber_18 : decode b_Tx_wholeNumber 18 = .ok (.iload_n 1, 1) := by decide +kernel
theorem d_Tx_wholeNumber_19 : decode b_Tx_wholeNumber 19 = .ok (.invokevirtual 83, 3) := by decide +kernel
theorem d_Tx_wholeNumber_22 : decode b_Tx_wholeNumber 22 = .ok (.ifCond .lt 19, 3) := by decide +kernel
theorem d_Tx_wholeNumber_25 : decode b_Tx_wholeNumber 25 = .ok (.aload_n 0, 1) := by decide +kernel
theorem d_Tx_wholeNumber_26 : decode b_Tx_wholeNumber 26 = .ok (.iload_n 1, 1) := by decide +kernel
theorem d_Tx_wholeNumber_27 : decode b_Tx_wholeNumber 27 = .ok (.invokevirtual 60, 3) := by decide +kernel
theorem d_Tx_wholeNumber_30 : decode b_Tx_wholeNumber 30 = .ok (.aload_n 0, 1) := by decide +kernel
theorem d_Tx_wholeNumber_31 : decode b_Tx_wholeNumber 31 = .ok (.iload_n 1, 1) := by decide +kernel
theorem d_Tx_wholeNumber_32 : decode b_Tx_wholeNumber 32 = .ok (.invokevirtual 83, 3) := by decide +kernel
theorem d_Tx_wholeNumber_35 : decode b_Tx_wholeNumber 35 = .ok (.iadd, 1) := by decide +kernel
theorem d_Tx_wholeNumber_36 : decode b_Tx_wholeNumber 36 = .ok (.bipush 7, 2) := by decide +kernel
theorem d_Tx_wholeNumber_38 : decode b_Tx_wholeNumber 38 = .ok (.if_icmp .le 5, 3) := by decide +kernel
theorem d_Tx_wholeNumber_41 : decode b_Tx_wholeNumber 41 = .ok (.iconst (-1), 1) := by decide +kernel
theorem d_Tx_wholeNumber_42 : decode b_Tx_wholeNumber 42 = .ok (.ireturn, 1) := by decide +kernel
theorem d_Tx_wholeNumber_43 : decode b_Tx_wholeNumber 43 = .ok (.iconst 0, 1) := by decide +kernel
theorem d_Tx_wholeNumber_44 : decode b_Tx_wholeNumber 44 = .ok (.istore_n 2, 1) := by decide +kernel
theorem d_Tx_wholeNumber_45 : decode b_Tx_wholeNumber 45 = .ok (.iconst 0, 1) := by decide +kernel
theorem d_Tx_wholeNumber_46 : decode b_Tx_wholeNumber 46 = .ok (.istore_n 3, 1) := by decide +kernel
theorem d_Tx_wholeNumber_47 : decode b_Tx_wholeNumber 47 = .ok (.iload_n 3, 1) := by decide +kernel
theorem d_Tx_wholeNumber_48 : decode b_Tx_wholeNumber 48 = .ok (.aload_n 0, 1) := by decide +kernel
theorem d_Tx_wholeNumber_49 : decode b_Tx_wholeNumber 49 = .ok (.iload_n 1, 1) := by decide +kernel
theorem d_Tx_wholeNumber_50 : decode b_Tx_wholeNumber 50 = .ok (.invokevirtual 60, 3) := by decide +kernel
theorem d_Tx_wholeNumber_53 : decode b_Tx_wholeNumber 53 = .ok (.aload_n 0, 1) := by decide +kernel
theorem d_Tx_wholeNumber_54 : decode b_Tx_wholeNumber 54 = .ok (.iload_n 1, 1) := by decide +kernel
theorem d_Tx_wholeNumber_55 : decode b_Tx_wholeNumber 55 = .ok (.invokevirtual 83, 3) := by decide +kernel
theorem d_Tx_wholeNumber_58 : decode b_Tx_wholeNumber 58 = .ok (.iadd, 1) := by decide +kernel
theorem d_Tx_wholeNumber_59 : decode b_Tx_wholeNumber 59 = .ok (.if_icmp .ge 21, 3) := by decide +kernel
theorem d_Tx_wholeNumber_62 : decode b_Tx_wholeNumber 62 = .ok (.iload_n 2, 1) := by decide +kernel
theorem d_Tx_wholeNumber_63 : decode b_Tx_wholeNumber 63 = .ok (.bipush 10, 2) := by decide +kernel
theorem d_Tx_wholeNumber_65 : decode b_Tx_wholeNumber 65 = .ok (.imul, 1) := by decide +kernel
theorem d_Tx_wholeNumber_66 : decode b_Tx_wholeNumber 66 = .ok (.aload_n 0, 1) := by decide +kernel
theorem d_Tx_wholeNumber_67 : decode b_Tx_wholeNumber 67 = .ok (.iload_n 1, 1) := by decide +kernel
theorem d_Tx_wholeNumber_68 : decode b_Tx_wholeNumber 68 = .ok (.iload_n 3, 1) := by decide +kernel
theorem d_Tx_wholeNumber_69 : decode b_Tx_wholeNumber 69 = .ok (.invokevirtual 86, 3) := by decide +kernel
theorem d_Tx_wholeNumber_72 : decode b_Tx_wholeNumber 72 = .ok (.iadd, 1) := by decide +kernel
theorem d_Tx_wholeNumber_73 : decode b_Tx_wholeNumber 73 = .ok (.istore_n 2, 1) := by decide +kernel
theorem d_Tx_wholeNumber_74 : decode b_Tx_wholeNumber 74 = .ok (.iinc 3 1, 3) := by decide +kernel
theorem d_Tx_wholeNumber_77 : decode b_Tx_wholeNumber 77 = .ok (.goto (-30), 3) := by decide +kernel
theorem d_Tx_wholeNumber_80 : decode b_Tx_wholeNumber 80 = .ok (.iload_n 2, 1) := by decide +kernel
theorem d_Tx_wholeNumber_81 : decode b_Tx_wholeNumber 81 = .ok (.ldc 90, 2) := by decide +kernel
theorem d_Tx_wholeNumber_83 : decode b_Tx_wholeNumber 83 = .ok (.if_icmp .le 7, 3) := by decide +kernel
theorem d_Tx_wholeNumber_86 : decode b_Tx_wholeNumber 86 = .ok (.iconst (-1), 1) := by decide +kernel
theorem d_Tx_wholeNumber_87 : decode b_Tx_wholeNumber 87 = .ok (.goto 4, 3) := by decide +kernel
theorem d_Tx_wholeNumber_90 : decode b_Tx_wholeNumber 90 = .ok (.iload_n 2, 1) := by decide +kernel
theorem d_Tx_wholeNumber_91 : decode b_Tx_wholeNumber 91 = .ok (.ireturn, 1) := by decide +kernel
theorem d_Tx_slot_0 : decode b_Tx_slot 0 = .ok (.iload_n 1, 1) := by decide +kernel
theorem d_Tx_slot_1 : decode b_Tx_slot 1 = .ok (.ifCond .lt 20, 3) := by decide +kernel
theorem d_Tx_slot_4 : decode b_Tx_slot 4 = .ok (.iload_n 1, 1) := by decide +kernel
theorem d_Tx_slot_5 : decode b_Tx_slot 5 = .ok (.aload_n 0, 1) := by decide +kernel
theorem d_Tx_slot_6 : decode b_Tx_slot 6 = .ok (.getfield 43, 3) := by decide +kernel
theorem d_Tx_slot_9 : decode b_Tx_slot 9 = .ok (.if_icmp .ge 12, 3) := by decide +kernel
theorem d_Tx_slot_12 : decode b_Tx_slot 12 = .ok (.aload_n 0, 1) := by decide +kernel
theorem d_Tx_slot_13 : decode b_Tx_slot 13 = .ok (.getfield 33, 3) := by decide +kernel
theorem d_Tx_slot_16 : decode b_Tx_slot 16 = .ok (.iload_n 1, 1) := by decide +kernel
theorem d_Tx_slot_17 : decode b_Tx_slot 17 = .ok (.iaload, 1) := by decide +kernel
theorem d_Tx_slot_18 : decode b_Tx_slot 18 = .ok (.goto 4, 3) := by decide +kernel
theorem d_Tx_slot_21 : decode b_Tx_slot 21 = .ok (.iconst 0, 1) := by decide +kernel
theorem d_Tx_slot_22 : decode b_Tx_slot 22 = .ok (.ireturn, 1) := by decide +kernel
theorem d_Tx_element_0 : decode b_Tx_element 0 = .ok (.aload_n 0, 1) := by decide +kernel
theorem d_Tx_element_1 : decode b_Tx_element 1 = .ok (.iload_n 1, 1) := by decide +kernel
theorem d_Tx_element_2 : decode b_Tx_element 2 = .ok (.invokevirtual 53, 3) := by decide +kernel
theorem d_Tx_element_5 : decode b_Tx_element 5 = .ok (.istore_n 3, 1) := by decide +kernel
theorem d_Tx_element_6 : decode b_Tx_element 6 = .ok (.iconst 0, 1) := by decide +kernel
theorem d_Tx_element_7 : decode b_Tx_element 7 = .ok (.istore 4, 2) := by decide +kernel
theorem d_Tx_element_9 : decode b_Tx_element 9 = .ok (.iload 4, 2) := by decide +kernel
theorem d_Tx_element_11 : decode b_Tx_element 11 = .ok (.iload_n 2, 1) := by decide +kernel
theorem d_Tx_element_12 : decode b_Tx_element 12 = .ok (.if_icmp .ge 20, 3) := by decide +kernel
theorem d_Tx_element_15 : decode b_Tx_element 15 = .ok (.iload_n 3, 1) := by decide +kernel
theorem d_Tx_element_16 : decode b_Tx_element 16 = .ok (.iconst (-1), 1) := by decide +kernel
theorem d_Tx_element_17 : decode b_Tx_element 17 = .ok (.if_icmp .eq 15, 3) := by decide +kernel
theorem d_Tx_element_20 : decode b_Tx_element 20 = .ok (.aload_n 0, 1) := by decide +kernel
theorem d_Tx_element_21 : decode b_Tx_element 21 = .ok (.iload_n 3, 1) := by decide +kernel
theorem d_Tx_element_22 : decode b_Tx_element 22 = .ok (.invokevirtual 57, 3) := by decide +kernel
theorem d_Tx_element_25 : decode b_Tx_element 25 = .ok (.istore_n 3, 1) := by decide +kernel
theorem d_Tx_element_26 : decode b_Tx_element 26 = .ok (.iinc 4 1, 3) := by decide +kernel
theorem d_Tx_element_29 : decode b_Tx_element 29 = .ok (.goto (-20), 3) := by decide +kernel
theorem d_Tx_element_32 : decode b_Tx_element 32 = .ok (.iload_n 3, 1) := by decide +kernel
theorem d_Tx_element_33 : decode b_Tx_element 33 = .ok (.ireturn, 1) := by decide +kernel
theorem d_Tx_parent_0 : decode b_Tx_parent 0 = .ok (.iload_n 1, 1) := by decide +kernel
theorem d_Tx_parent_1 : decode b_Tx_parent 1 = .ok (.ifCond .lt 20, 3) := by decide +kernel
theorem d_Tx_parent_4 : decode b_Tx_parent 4 = .ok (.iload_n 1, 1) := by decide +kernel
theorem d_Tx_parent_5 : decode b_Tx_parent 5 = .ok (.aload_n 0, 1) := by decide +kernel
theorem d_Tx_parent_6 : decode b_Tx_parent 6 = .ok (.getfield 43, 3) := by decide +kernel
theorem d_Tx_parent_9 : decode b_Tx_parent 9 = .ok (.if_icmp .ge 12, 3) := by decide +kernel
theorem d_Tx_parent_12 : decode b_Tx_parent 12 = .ok (.aload_n 0, 1) := by decide +kernel
theorem d_Tx_parent_13 : decode b_Tx_parent 13 = .ok (.getfield 21, 3) := by decide +kernel
theorem d_Tx_parent_16 : decode b_Tx_parent 16 = .ok (.iload_n 1, 1) := by decide +kernel
theorem d_Tx_parent_17 : decode b_Tx_parent 17 = .ok (.iaload, 1) := by decide +kernel
theorem d_Tx_parent_18 : decode b_Tx_parent 18 = .ok (.goto 4, 3) := by decide +kernel
theorem d_Tx_parent_21 : decode b_Tx_parent 21 = .ok (.iconst (-1), 1) := by decide +kernel
theorem d_Tx_parent_22 : decode b_Tx_parent 22 = .ok (.ireturn, 1) := by decide +kernel
theorem d_Tx_compare_0 : decode b_Tx_compare 0 = .ok (.aload_n 0, 1) := by decide +kernel
theorem d_Tx_compare_1 : decode b_Tx_compare 1 = .ok (.iload_n 1, 1) := by decide +kernel
theorem d_Tx_compare_2 : decode b_Tx_compare 2 = .ok (.invokevirtual 80, 3) := by decide +kernel
theorem d_Tx_compare_5 : decode b_Tx_compare 5 = .ok (.istore 4, 2) := by decide +kernel
theorem d_Tx_compare_7 : decode b_Tx_compare 7 = .ok (.iload 4, 2) := by decide +kernel
theorem d_Tx_compare_9 : decode b_Tx_compare 9 = .ok (.aload_n 2, 1) := by decide +kernel
theorem d_Tx_compare_10 : decode b_Tx_compare 10 = .ok (.iload_n 3, 1) := by decide +kernel
theorem d_Tx_compare_11 : decode b_Tx_compare 11 = .ok (.invokevirtual 80, 3) := by decide +kernel
theorem d_Tx_compare_14 : decode b_Tx_compare 14 = .ok (.if_icmp .ne 8, 3) := by decide +kernel
theorem d_Tx_compare_17 : decode b_Tx_compare 17 = .ok (.iload 4, 2) := by decide +kernel
theorem d_Tx_compare_19 : decode b_Tx_compare 19 = .ok (.ifCond .ne 12, 3) := by decide +kernel
theorem d_Tx_compare_22 : decode b_Tx_compare 22 = .ok (.iload 4, 2) := by decide +kernel
theorem d_Tx_compare_24 : decode b_Tx_compare 24 = .ok (.aload_n 2, 1) := by decide +kernel
theorem d_Tx_compare_25 : decode b_Tx_compare 25 = .ok (.iload_n 3, 1) := by decide +kernel
theorem d_Tx_compare_26 : decode b_Tx_compare 26 = .ok (.invokevirtual 80, 3) := by decide +kernel
theorem d_Tx_compare_29 : decode b_Tx_compare 29 = .ok (.isub, 1) := by decide +kernel
theorem d_Tx_compare_30 : decode b_Tx_compare 30 = .ok (.ireturn, 1) := by decide +kernel
theorem d_Tx_compare_31 : decode b_Tx_compare 31 = .ok (.aload_n 0, 1) := by decide +kernel
theorem d_Tx_compare_32 : decode b_Tx_compare 32 = .ok (.iload_n 1, 1) := by decide +kernel
theorem d_Tx_compare_33 : decode b_Tx_compare 33 = .ok (.invokevirtual 60, 3) := by decide +kernel
theorem d_Tx_compare_36 : decode b_Tx_compare 36 = .ok (.aload_n 0, 1) := by decide +kernel
theorem d_Tx_compare_37 : decode b_Tx_compare 37 = .ok (.iload_n 1, 1) := by decide +kernel
theorem d_Tx_compare_38 : decode b_Tx_compare 38 = .ok (.invokevirtual 83, 3) := by decide +kernel
theorem d_Tx_compare_41 : decode b_Tx_compare 41 = .ok (.iadd, 1) := by decide +kernel
theorem d_Tx_compare_42 : decode b_Tx_compare 42 = .ok (.istore 5, 2) := by decide +kernel
theorem d_Tx_compare_44 : decode b_Tx_compare 44 = .ok (.aload_n 2, 1) := by decide +kernel
theorem d_Tx_compare_45 : decode b_Tx_compare 45 = .ok (.iload_n 3, 1) := by decide +kernel
theorem d_Tx_compare_46 : decode b_Tx_compare 46 = .ok (.invokevirtual 60, 3) := by decide +kernel
theorem d_Tx_compare_49 : decode b_Tx_compare 49 = .ok (.aload_n 2, 1) := by decide +kernel
theorem d_Tx_compare_50 : decode b_Tx_compare 50 = .ok (.iload_n 3, 1) := by decide +kernel
theorem d_Tx_compare_51 : decode b_Tx_compare 51 = .ok (.invokevirtual 83, 3) := by decide +kernel
theorem d_Tx_compare_54 : decode b_Tx_compare 54 = .ok (.iadd, 1) := by decide +kernel
theorem d_Tx_compare_55 : decode b_Tx_compare 55 = .ok (.istore 6, 2) := by decide +kernel
theorem d_Tx_compare_57 : decode b_Tx_compare 57 = .ok (.iload 5, 2) := by decide +kernel
theorem d_Tx_compare_59 : decode b_Tx_compare 59 = .ok (.iload 6, 2) := by decide +kernel
theorem d_Tx_compare_61 : decode b_Tx_compare 61 = .ok (.if_icmp .eq 19, 3) := by decide +kernel
theorem d_Tx_compare_64 : decode b_Tx_compare 64 = .ok (.iload 5, 2) := by decide +kernel
theorem d_Tx_compare_66 : decode b_Tx_compare 66 = .ok (.iload 6, 2) := by decide +kernel
theorem d_Tx_compare_68 : decode b_Tx_compare 68 = .ok (.if_icmp .ge 9, 3) := by decide +kernel
theorem d_Tx_compare_71 : decode b_Tx_compare 71 = .ok (.iload 4, 2) := by decide +kernel
theorem d_Tx_compare_73 : decode b_Tx_compare 73 = .ok (.ineg, 1) := by decide +kernel
theorem d_Tx_compare_74 : decode b_Tx_compare 74 = .ok (.goto 5, 3) := by decide +kernel
theorem d_Tx_compare_77 : decode b_Tx_compare 77 = .ok (.iload 4, 2) := by decide +kernel
theorem d_Tx_compare_79 : decode b_Tx_compare 79 = .ok (.ireturn, 1) := by decide +kernel
theorem d_Tx_compare_80 : decode b_Tx_compare 80 = .ok (.iconst 0, 1) := by decide +kernel
theorem d_Tx_compare_81 : decode b_Tx_compare 81 = .ok (.istore 7, 2) := by decide +kernel
theorem d_Tx_compare_83 : decode b_Tx_compare 83 = .ok (.iload 7, 2) := by decide +kernel
theorem d_Tx_compare_85 : decode b_Tx_compare 85 = .ok (.bipush 60, 2) := by decide +kernel
theorem d_Tx_compare_87 : decode b_Tx_compare 87 = .ok (.if_icmp .ge 50, 3) := by decide +kernel
theorem d_Tx_compare_90 : decode b_Tx_compare 90 = .ok (.aload_n 0, 1) := by decide +kernel
theorem d_Tx_compare_91 : decode b_Tx_compare 91 = .ok (.iload_n 1, 1) := by decide +kernel
theorem d_Tx_compare_92 : decode b_Tx_compare 92 = .ok (.iload 7, 2) := by decide +kernel
theorem d_Tx_compare_94 : decode b_Tx_compare 94 = .ok (.invokevirtual 86, 3) := by decide +kernel
theorem d_Tx_compare_97 : decode b_Tx_compare 97 = .ok (.istore 8, 2) := by decide +kernel
theorem d_Tx_compare_99 : decode b_Tx_compare 99 = .ok (.aload_n 2, 1) := by decide +kernel
theorem d_Tx_compare_100 : decode b_Tx_compare 100 = .ok (.iload_n 3, 1) := by decide +kernel
theorem d_Tx_compare_101 : decode b_Tx_compare 101 = .ok (.iload 7, 2) := by decide +kernel
theorem d_Tx_compare_103 : decode b_Tx_compare 103 = .ok (.invokevirtual 86, 3) := by decide +kernel
theorem d_Tx_compare_106 : decode b_Tx_compare 106 = .ok (.istore 9, 2) := by decide +kernel
theorem d_Tx_compare_108 : decode b_Tx_compare 108 = .ok (.iload 8, 2) := by decide +kernel
theorem d_Tx_compare_110 : decode b_Tx_compare 110 = .ok (.iload 9, 2) := by decide +kernel
theorem d_Tx_compare_112 : decode b_Tx_compare 112 = .ok (.if_icmp .eq 19, 3) := by decide +kernel
theorem d_Tx_compare_115 : decode b_Tx_compare 115 = .ok (.iload 8, 2) := by decide +kernel
theorem d_Tx_compare_117 : decode b_Tx_compare 117 = .ok (.iload 9, 2) := by decide +kernel
theorem d_Tx_compare_119 : decode b_Tx_compare 119 = .ok (.if_icmp .ge 9, 3) := by decide +kernel
theorem d_Tx_compare_122 : decode b_Tx_compare 122 = .ok (.iload 4, 2) := by decide +kernel
theorem d_Tx_compare_124 : decode b_Tx_compare 124 = .ok (.ineg, 1) := by decide +kernel
theorem d_Tx_compare_125 : decode b_Tx_compare 125 = .ok (.goto 5, 3) := by decide +kernel
theorem d_Tx_compare_128 : decode b_Tx_compare 128 = .ok (.iload 4, 2) := by decide +kernel
theorem d_Tx_compare_130 : decode b_Tx_compare 130 = .ok (.ireturn, 1) := by decide +kernel
theorem d_Tx_compare_131 : decode b_Tx_compare 131 = .ok (.iinc 7 1, 3) := by decide +kernel
theorem d_Tx_compare_134 : decode b_Tx_compare 134 = .ok (.goto (-51), 3) := by decide +kernel
theorem d_Tx_compare_137 : decode b_Tx_compare 137 = .ok (.iconst 0, 1) := by decide +kernel
theorem d_Tx_compare_138 : decode b_Tx_compare 138 = .ok (.ireturn, 1) := by decide +kernel
theorem d_Tx_same_0 : decode b_Tx_same 0 = .ok (.aload_n 0, 1) := by decide +kernel
theorem d_Tx_same_1 : decode b_Tx_same 1 = .ok (.iload_n 1, 1) := by decide +kernel
theorem d_Tx_same_2 : decode b_Tx_same 2 = .ok (.invokevirtual 77, 3) := by decide +kernel
theorem d_Tx_same_5 : decode b_Tx_same 5 = .ok (.istore 5, 2) := by decide +kernel
theorem d_Tx_same_7 : decode b_Tx_same 7 = .ok (.iload 5, 2) := by decide +kernel
theorem d_Tx_same_9 : decode b_Tx_same 9 = .ok (.aload_n 2, 1) := by decide +kernel
theorem d_Tx_same_10 : decode b_Tx_same 10 = .ok (.iload_n 3, 1) := by decide +kernel
theorem d_Tx_same_11 : decode b_Tx_same 11 = .ok (.invokevirtual 77, 3) := by decide +kernel
theorem d_Tx_same_14 : decode b_Tx_same 14 = .ok (.if_icmp .ne 10, 3) := by decide +kernel
theorem d_Tx_same_17 : decode b_Tx_same 17 = .ok (.iload 4, 2) := by decide +kernel
theorem d_Tx_same_19 : decode b_Tx_same 19 = .ok (.bipush 40, 2) := by decide +kernel
theorem d_Tx_same_21 : decode b_Tx_same 21 = .ok (.if_icmp .le 5, 3) := by decide +kernel
theorem d_Tx_same_24 : decode b_Tx_same 24 = .ok (.iconst 0, 1) := by decide +kernel
theorem d_Tx_same_25 : decode b_Tx_same 25 = .ok (.ireturn, 1) := by decide +kernel
theorem d_Tx_same_26 : decode b_Tx_same 26 = .ok (.iload 5, 2) := by decide +kernel
theorem d_Tx_same_28 : decode b_Tx_same 28 = .ok (.iconst 3, 1) := by decide +kernel
theorem d_Tx_same_29 : decode b_Tx_same 29 = .ok (.if_icmp .ne 19, 3) := by decide +kernel
theorem d_Tx_same_32 : decode b_Tx_same 32 = .ok (.aload_n 0, 1) := by decide +kernel
theorem d_Tx_same_33 : decode b_Tx_same 33 = .ok (.iload_n 1, 1) := by decide +kernel
theorem d_Tx_same_34 : decode b_Tx_same 34 = .ok (.aload_n 2, 1) := by decide +kernel
theorem d_Tx_same_35 : decode b_Tx_same 35 = .ok (.iload_n 3, 1) := by decide +kernel
theorem d_Tx_same_36 : decode b_Tx_same 36 = .ok (.invokestatic 91, 3) := by decide +kernel
theorem d_Tx_same_39 : decode b_Tx_same 39 = .ok (.ifCond .ne 7, 3) := by decide +kernel
theorem d_Tx_same_42 : decode b_Tx_same 42 = .ok (.iconst 1, 1) := by decide +kernel
theorem d_Tx_same_43 : decode b_Tx_same 43 = .ok (.goto 4, 3) := by decide +kernel
theorem d_Tx_same_46 : decode b_Tx_same 46 = .ok (.iconst 0, 1) := by decide +kernel
theorem d_Tx_same_47 : decode b_Tx_same 47 = .ok (.ireturn, 1) := by decide +kernel
theorem d_Tx_same_48 : decode b_Tx_same 48 = .ok (.iload 5, 2) := by decide +kernel
theorem d_Tx_same_50 : decode b_Tx_same 50 = .ok (.iconst 4, 1) := by decide +kernel
theorem d_Tx_same_51 : decode b_Tx_same 51 = .ok (.if_icmp .ne 11, 3) := by decide +kernel
theorem d_Tx_same_54 : decode b_Tx_same 54 = .ok (.aload_n 0, 1) := by decide +kernel
theorem d_Tx_same_55 : decode b_Tx_same 55 = .ok (.iload_n 1, 1) := by decide +kernel
theorem d_Tx_same_56 : decode b_Tx_same 56 = .ok (.aload_n 2, 1) := by decide +kernel
theorem d_Tx_same_57 : decode b_Tx_same 57 = .ok (.iload_n 3, 1) := by decide +kernel
theorem d_Tx_same_58 : decode b_Tx_same 58 = .ok (.invokestatic 63, 3) := by decide +kernel
theorem d_Tx_same_61 : decode b_Tx_same 61 = .ok (.ireturn, 1) := by decide +kernel
theorem d_Tx_same_62 : decode b_Tx_same 62 = .ok (.aload_n 0, 1) := by decide +kernel
theorem d_Tx_same_63 : decode b_Tx_same 63 = .ok (.iload_n 1, 1) := by decide +kernel
theorem d_Tx_same_64 : decode b_Tx_same 64 = .ok (.invokevirtual 60, 3) := by decide +kernel
theorem d_Tx_same_67 : decode b_Tx_same 67 = .ok (.aload_n 2, 1) := by decide +kernel
theorem d_Tx_same_68 : decode b_Tx_same 68 = .ok (.iload_n 3, 1) := by decide +kernel
theorem d_Tx_same_69 : decode b_Tx_same 69 = .ok (.invokevirtual 60, 3) := by decide +kernel
theorem d_Tx_same_72 : decode b_Tx_same 72 = .ok (.if_icmp .eq 5, 3) := by decide +kernel
theorem d_Tx_same_75 : decode b_Tx_same 75 = .ok (.iconst 0, 1) := by decide +kernel
theorem d_Tx_same_76 : decode b_Tx_same 76 = .ok (.ireturn, 1) := by decide +kernel
theorem d_Tx_same_77 : decode b_Tx_same 77 = .ok (.aload_n 0, 1) := by decide +kernel
theorem d_Tx_same_78 : decode b_Tx_same 78 = .ok (.iload_n 1, 1) := by decide +kernel
theorem d_Tx_same_79 : decode b_Tx_same 79 = .ok (.invokevirtual 53, 3) := by decide +kernel
theorem d_Tx_same_82 : decode b_Tx_same 82 = .ok (.istore 6, 2) := by decide +kernel
theorem d_Tx_same_84 : decode b_Tx_same 84 = .ok (.aload_n 2, 1) := by decide +kernel
theorem d_Tx_same_85 : decode b_Tx_same 85 = .ok (.iload_n 3, 1) := by decide +kernel
theorem d_Tx_same_86 : decode b_Tx_same 86 = .ok (.invokevirtual 53, 3) := by decide +kernel
theorem d_Tx_same_89 : decode b_Tx_same 89 = .ok (.istore 7, 2) := by decide +kernel
theorem d_Tx_same_91 : decode b_Tx_same 91 = .ok (.iconst 0, 1) := by decide +kernel
theorem d_Tx_same_92 : decode b_Tx_same 92 = .ok (.istore 8, 2) := by decide +kernel
theorem d_Tx_same_94 : decode b_Tx_same 94 = .ok (.iload 8, 2) := by decide +kernel
theorem d_Tx_same_96 : decode b_Tx_same 96 = .ok (.aload_n 0, 1) := by decide +kernel
theorem d_Tx_same_97 : decode b_Tx_same 97 = .ok (.iload_n 1, 1) := by decide +kernel
theorem d_Tx_same_98 : decode b_Tx_same 98 = .ok (.invokevirtual 60, 3) := by decide +kernel
theorem d_Tx_same_101 : decode b_Tx_same 101 = .ok (.if_icmp .ge 72, 3) := by decide +kernel
theorem d_Tx_same_104 : decode b_Tx_same 104 = .ok (.iload 5, 2) := by decide +kernel
theorem d_Tx_same_106 : decode b_Tx_same 106 = .ok (.iconst 5, 1) := by decide +kernel
theorem d_Tx_same_107 : decode b_Tx_same 107 = .ok (.if_icmp .ne 8, 3) := by decide +kernel
theorem d_Tx_same_110 : decode b_Tx_same 110 = .ok (.iload 7, 2) := by decide +kernel
theorem d_Tx_same_112 : decode b_Tx_same 112 = .ok (.goto 13, 3) := by decide +kernel
theorem d_Tx_same_115 : decode b_Tx_same 115 = .ok (.aload_n 2, 1) := by decide +kernel
theorem d_Tx_same_116 : decode b_Tx_same 116 = .ok (.iload_n 3, 1) := by decide +kernel
theorem d_Tx_same_117 : decode b_Tx_same 117 = .ok (.aload_n 0, 1) := by decide +kernel
theorem d_Tx_same_118 : decode b_Tx_same 118 = .ok (.iload 6, 2) := by decide +kernel
theorem d_Tx_same_120 : decode b_Tx_same 120 = .ok (.iconst 1, 1) := by decide +kernel
theorem d_Tx_same_121 : decode b_Tx_same 121 = .ok (.isub, 1) := by decide +kernel
theorem d_Tx_same_122 : decode b_Tx_same 122 = .ok (.invokevirtual 95, 3) := by decide +kernel
theorem d_Tx_same_125 : decode b_Tx_same 125 = .ok (.istore 9, 2) := by decide +kernel
theorem d_Tx_same_127 : decode b_Tx_same 127 = .ok (.iload 9, 2) := by decide +kernel
theorem d_Tx_same_129 : decode b_Tx_same 129 = .ok (.iconst (-1), 1) := by decide +kernel
theorem d_Tx_same_130 : decode b_Tx_same 130 = .ok (.if_icmp .eq 19, 3) := by decide +kernel
theorem d_Tx_same_133 : decode b_Tx_same 133 = .ok (.aload_n 0, 1) := by decide +kernel
theorem d_Tx_same_134 : decode b_Tx_same 134 = .ok (.iload 6, 2) := by decide +kernel
theorem d_Tx_same_136 : decode b_Tx_same 136 = .ok (.aload_n 2, 1) := by decide +kernel
theorem d_Tx_same_137 : decode b_Tx_same 137 = .ok (.iload 9, 2) := by decide +kernel
theorem d_Tx_same_139 : decode b_Tx_same 139 = .ok (.iload 4, 2) := by decide +kernel
theorem d_Tx_same_141 : decode b_Tx_same 141 = .ok (.iconst 1, 1) := by decide +kernel
theorem d_Tx_same_142 : decode b_Tx_same 142 = .ok (.iadd, 1) := by decide +kernel
theorem d_Tx_same_143 : decode b_Tx_same 143 = .ok (.invokestatic 99, 3) := by decide +kernel
theorem d_Tx_same_146 : decode b_Tx_same 146 = .ok (.ifCond .ne 5, 3) := by decide +kernel
theorem d_Tx_same_149 : decode b_Tx_same 149 = .ok (.iconst 0, 1) := by decide +kernel
theorem d_Tx_same_150 : decode b_Tx_same 150 = .ok (.ireturn, 1) := by decide +kernel
theorem d_Tx_same_151 : decode b_Tx_same 151 = .ok (.aload_n 0, 1) := by decide +kernel
theorem d_Tx_same_152 : decode b_Tx_same 152 = .ok (.iload 6, 2) := by decide +kernel
theorem d_Tx_same_154 : decode b_Tx_same 154 = .ok (.invokevirtual 57, 3) := by decide +kernel
theorem d_Tx_same_157 : decode b_Tx_same 157 = .ok (.istore 6, 2) := by decide +kernel
theorem d_Tx_same_159 : decode b_Tx_same 159 = .ok (.aload_n 2, 1) := by decide +kernel
theorem d_Tx_same_160 : decode b_Tx_same 160 = .ok (.iload 7, 2) := by decide +kernel
theorem d_Tx_same_162 : decode b_Tx_same 162 = .ok (.invokevirtual 57, 3) := by decide +kernel
theorem d_Tx_same_165 : decode b_Tx_same 165 = .ok (.istore 7, 2) := by decide +kernel
theorem d_Tx_same_167 : decode b_Tx_same 167 = .ok (.iinc 8 1, 3) := by decide +kernel
theorem d_Tx_same_170 : decode b_Tx_same 170 = .ok (.goto (-76), 3) := by decide +kernel
theorem d_Tx_same_173 : decode b_Tx_same 173 = .ok (.iconst 1, 1) := by decide +kernel
theorem d_Tx_same_174 : decode b_Tx_same 174 = .ok (.ireturn, 1) := by decide +kernel
theorem d_Tx_has_0 : decode b_Tx_has 0 = .ok (.iload_n 1, 1) := by decide +kernel
theorem d_Tx_has_1 : decode b_Tx_has 1 = .ok (.ifCond .lt 15, 3) := by decide +kernel
theorem d_Tx_has_4 : decode b_Tx_has 4 = .ok (.iload_n 1, 1) := by decide +kernel
theorem d_Tx_has_5 : decode b_Tx_has 5 = .ok (.aload_n 0, 1) := by decide +kernel
theorem d_Tx_has_6 : decode b_Tx_has 6 = .ok (.getfield 43, 3) := by decide +kernel
theorem d_Tx_has_9 : decode b_Tx_has 9 = .ok (.if_icmp .ge 7, 3) := by decide +kernel
theorem d_Tx_has_12 : decode b_Tx_has 12 = .ok (.iconst 1, 1) := by decide +kernel
theorem d_Tx_has_13 : decode b_Tx_has 13 = .ok (.goto 4, 3) := by decide +kernel
theorem d_Tx_has_16 : decode b_Tx_has 16 = .ok (.iconst 0, 1) := by decide +kernel
theorem d_Tx_has_17 : decode b_Tx_has 17 = .ok (.ireturn, 1) := by decide +kernel
