theorem d_MM_typeOf_20 : decode b_MM_typeOf 20 = .ok (.iconst 4, 1) := by decide +kernel
theorem d_MM_typeOf_21 : decode b_MM_typeOf 21 = .ok (.if_icmp .ne 22, 3) := by decide +kernel
theorem d_MM_typeOf_24 : decode b_MM_typeOf 24 = .ok (.aload_n 0, 1) := by decide +kernel
theorem d_MM_typeOf_25 : decode b_MM_typeOf 25 = .ok (.getfield 20, 3) := by decide +kernel
theorem d_MM_typeOf_28 : decode b_MM_typeOf 28 = .ok (.iload_n 1, 1) := by decide +kernel
theorem d_MM_typeOf_29 : decode b_MM_typeOf 29 = .ok (.aload_n 0, 1) := by decide +kernel
theorem d_MM_typeOf_30 : decode b_MM_typeOf 30 = .ok (.getfield 188, 3) := by decide +kernel
theorem d_MM_typeOf_33 : decode b_MM_typeOf 33 = .ok (.iload_n 2, 1) := by decide +kernel
theorem d_MM_typeOf_34 : decode b_MM_typeOf 34 = .ok (.aaload, 1) := by decide +kernel
theorem d_MM_typeOf_35 : decode b_MM_typeOf 35 = .ok (.invokevirtual 428, 3) := by decide +kernel
theorem d_MM_typeOf_38 : decode b_MM_typeOf 38 = .ok (.ifCond .eq 5, 3) := by decide +kernel
theorem d_MM_typeOf_41 : decode b_MM_typeOf 41 = .ok (.iload_n 2, 1) := by decide +kernel
theorem d_MM_typeOf_42 : decode b_MM_typeOf 42 = .ok (.ireturn, 1) := by decide +kernel
theorem d_MM_typeOf_43 : decode b_MM_typeOf 43 = .ok (.iinc 2 1, 3) := by decide +kernel
theorem d_MM_typeOf_46 : decode b_MM_typeOf 46 = .ok (.goto (-44), 3) := by decide +kernel
theorem d_MM_typeOf_49 : decode b_MM_typeOf 49 = .ok (.iconst (-1), 1) := by decide +kernel
theorem d_MM_typeOf_50 : decode b_MM_typeOf 50 = .ok (.ireturn, 1) := by decide +kernel
theorem d_MM_type_0 : decode b_MM_type 0 = .ok (.aload_n 0, 1) := by decide +kernel
theorem d_MM_type_1 : decode b_MM_type 1 = .ok (.getfield 20, 3) := by decide +kernel
theorem d_MM_type_4 : decode b_MM_type 4 = .ok (.getfield 419, 3) := by decide +kernel
theorem d_MM_type_7 : decode b_MM_type 7 = .ok (.iload_n 1, 1) := by decide +kernel
theorem d_MM_type_8 : decode b_MM_type 8 = .ok (.iaload, 1) := by decide +kernel
theorem d_MM_type_9 : decode b_MM_type 9 = .ok (.iconst 5, 1) := by decide +kernel
theorem d_MM_type_10 : decode b_MM_type 10 = .ok (.if_icmp .eq 18, 3) := by decide +kernel
theorem d_MM_type_13 : decode b_MM_type 13 = .ok (.aload_n 0, 1) := by decide +kernel
theorem d_MM_type_14 : decode b_MM_type 14 = .ok (.iload_n 1, 1) := by decide +kernel
theorem d_MM_type_15 : decode b_MM_type 15 = .ok (.invokevirtual 472, 3) := by decide +kernel
theorem d_MM_type_18 : decode b_MM_type 18 = .ok (.ifCond .ge 9, 3) := by decide +kernel
theorem d_MM_type_21 : decode b_MM_type 21 = .ok (.aload_n 0, 1) := by decide +kernel
theorem d_MM_type_22 : decode b_MM_type 22 = .ok (.iconst 1, 1) := by decide +kernel
theorem d_MM_type_23 : decode b_MM_type 23 = .ok (.iload_n 1, 1) := by decide +kernel
theorem d_MM_type_24 : decode b_MM_type 24 = .ok (.invokevirtual 412, 3) := by decide +kernel
theorem d_MM_type_27 : decode b_MM_type 27 = .ok (.return_, 1) := by decide +kernel
theorem d_MM_type_28 : decode b_MM_type 28 = .ok (.aload_n 0, 1) := by decide +kernel
theorem d_MM_type_29 : decode b_MM_type 29 = .ok (.getfield 20, 3) := by decide +kernel
theorem d_MM_type_32 : decode b_MM_type 32 = .ok (.getfield 272, 3) := by decide +kernel
theorem d_MM_type_35 : decode b_MM_type 35 = .ok (.iload_n 1, 1) := by decide +kernel
theorem d_MM_type_36 : decode b_MM_type 36 = .ok (.iaload, 1) := by decide +kernel
theorem d_MM_type_37 : decode b_MM_type 37 = .ok (.ifCond .ne 10, 3) := by decide +kernel
theorem d_MM_type_40 : decode b_MM_type 40 = .ok (.aload_n 0, 1) := by decide +kernel
theorem d_MM_type_41 : decode b_MM_type 41 = .ok (.iconst 1, 1) := by decide +kernel
theorem d_MM_type_42 : decode b_MM_type 42 = .ok (.iload_n 1, 1) := by decide +kernel
theorem d_MM_type_43 : decode b_MM_type 43 = .ok (.invokevirtual 412, 3) := by decide +kernel
theorem d_MM_type_46 : decode b_MM_type 46 = .ok (.return_, 1) := by decide +kernel
theorem d_MM_type_47 : decode b_MM_type 47 = .ok (.aload_n 0, 1) := by decide +kernel
theorem d_MM_type_48 : decode b_MM_type 48 = .ok (.getfield 20, 3) := by decide +kernel
theorem d_MM_type_51 : decode b_MM_type 51 = .ok (.getfield 422, 3) := by decide +kernel
theorem d_MM_type_54 : decode b_MM_type 54 = .ok (.iload_n 1, 1) := by decide +kernel
theorem d_MM_type_55 : decode b_MM_type 55 = .ok (.iaload, 1) := by decide +kernel
theorem d_MM_type_56 : decode b_MM_type 56 = .ok (.istore_n 2, 1) := by decide +kernel
theorem d_MM_type_57 : decode b_MM_type 57 = .ok (.iload_n 2, 1) := by decide +kernel
theorem d_MM_type_58 : decode b_MM_type 58 = .ok (.ifCond .lt 79, 3) := by decide +kernel
theorem d_MM_type_61 : decode b_MM_type 61 = .ok (.aload_n 0, 1) := by decide +kernel
theorem d_MM_type_62 : decode b_MM_type 62 = .ok (.iload_n 2, 1) := by decide +kernel
theorem d_MM_type_63 : decode b_MM_type 63 = .ok (.invokevirtual 472, 3) := by decide +kernel
theorem d_MM_type_66 : decode b_MM_type 66 = .ok (.ifCond .ge 10, 3) := by decide +kernel
theorem d_MM_type_69 : decode b_MM_type 69 = .ok (.aload_n 0, 1) := by decide +kernel
theorem d_MM_type_70 : decode b_MM_type 70 = .ok (.iconst 1, 1) := by decide +kernel
theorem d_MM_type_71 : decode b_MM_type 71 = .ok (.iload_n 2, 1) := by decide +kernel
theorem d_MM_type_72 : decode b_MM_type 72 = .ok (.invokevirtual 412, 3) := by decide +kernel
theorem d_MM_type_75 : decode b_MM_type 75 = .ok (.return_, 1) := by decide +kernel
theorem d_MM_type_76 : decode b_MM_type 76 = .ok (.aload_n 0, 1) := by decide +kernel
theorem d_MM_type_77 : decode b_MM_type 77 = .ok (.getfield 20, 3) := by decide +kernel
theorem d_MM_type_80 : decode b_MM_type 80 = .ok (.getfield 422, 3) := by decide +kernel
theorem d_MM_type_83 : decode b_MM_type 83 = .ok (.iload_n 1, 1) := by decide +kernel
theorem d_MM_type_84 : decode b_MM_type 84 = .ok (.iaload, 1) := by decide +kernel
theorem d_MM_type_85 : decode b_MM_type 85 = .ok (.istore_n 3, 1) := by decide +kernel
theorem d_MM_type_86 : decode b_MM_type 86 = .ok (.iload_n 3, 1) := by decide +kernel
theorem d_MM_type_87 : decode b_MM_type 87 = .ok (.iload_n 2, 1) := by decide +kernel
theorem d_MM_type_88 : decode b_MM_type 88 = .ok (.if_icmp .eq 36, 3) := by decide +kernel
theorem d_MM_type_91 : decode b_MM_type 91 = .ok (.aload_n 0, 1) := by decide +kernel
theorem d_MM_type_92 : decode b_MM_type 92 = .ok (.iload_n 3, 1) := by decide +kernel
theorem d_MM_type_93 : decode b_MM_type 93 = .ok (.invokevirtual 472, 3) := by decide +kernel
theorem d_MM_type_96 : decode b_MM_type 96 = .ok (.aload_n 0, 1) := by decide +kernel
theorem d_MM_type_97 : decode b_MM_type 97 = .ok (.iload_n 2, 1) := by decide +kernel
theorem d_MM_type_98 : decode b_MM_type 98 = .ok (.invokevirtual 472, 3) := by decide +kernel
theorem d_MM_type_101 : decode b_MM_type 101 = .ok (.if_icmp .ne 10, 3) := by decide +kernel
theorem d_MM_type_104 : decode b_MM_type 104 = .ok (.aload_n 0, 1) := by decide +kernel
theorem d_MM_type_105 : decode b_MM_type 105 = .ok (.iconst 1, 1) := by decide +kernel
theorem d_MM_type_106 : decode b_MM_type 106 = .ok (.iload_n 2, 1) := by decide +kernel
theorem d_MM_type_107 : decode b_MM_type 107 = .ok (.invokevirtual 412, 3) := by decide +kernel
theorem d_MM_type_110 : decode b_MM_type 110 = .ok (.return_, 1) := by decide +kernel
theorem d_MM_type_111 : decode b_MM_type 111 = .ok (.aload_n 0, 1) := by decide +kernel
theorem d_MM_type_112 : decode b_MM_type 112 = .ok (.getfield 20, 3) := by decide +kernel
theorem d_MM_type_115 : decode b_MM_type 115 = .ok (.getfield 436, 3) := by decide +kernel
theorem d_MM_type_118 : decode b_MM_type 118 = .ok (.iload_n 3, 1) := by decide +kernel
theorem d_MM_type_119 : decode b_MM_type 119 = .ok (.iaload, 1) := by decide +kernel
theorem d_MM_type_120 : decode b_MM_type 120 = .ok (.istore_n 3, 1) := by decide +kernel
theorem d_MM_type_121 : decode b_MM_type 121 = .ok (.goto (-35), 3) := by decide +kernel
theorem d_MM_type_124 : decode b_MM_type 124 = .ok (.aload_n 0, 1) := by decide +kernel
theorem d_MM_type_125 : decode b_MM_type 125 = .ok (.getfield 20, 3) := by decide +kernel
theorem d_MM_type_128 : decode b_MM_type 128 = .ok (.getfield 436, 3) := by decide +kernel
theorem d_MM_type_131 : decode b_MM_type 131 = .ok (.iload_n 2, 1) := by decide +kernel
theorem d_MM_type_132 : decode b_MM_type 132 = .ok (.iaload, 1) := by decide +kernel
theorem d_MM_type_133 : decode b_MM_type 133 = .ok (.istore_n 2, 1) := by decide +kernel
theorem d_MM_type_134 : decode b_MM_type 134 = .ok (.goto (-77), 3) := by decide +kernel
theorem d_MM_type_137 : decode b_MM_type 137 = .ok (.return_, 1) := by decide +kernel
theorem d_MM_strings_0 : decode b_MM_strings 0 = .ok (.aload_n 0, 1) := by decide +kernel
theorem d_MM_strings_1 : decode b_MM_strings 1 = .ok (.getfield 20, 3) := by decide +kernel
theorem d_MM_strings_4 : decode b_MM_strings 4 = .ok (.getfield 419, 3) := by decide +kernel
theorem d_MM_strings_7 : decode b_MM_strings 7 = .ok (.iload_n 1, 1) := by decide +kernel
theorem d_MM_strings_8 : decode b_MM_strings 8 = .ok (.iaload, 1) := by decide +kernel
theorem d_MM_strings_9 : decode b_MM_strings 9 = .ok (.iconst 5, 1) := by decide +kernel
theorem d_MM_strings_10 : decode b_MM_strings 10 = .ok (.if_icmp .eq 10, 3) := by decide +kernel
theorem d_MM_strings_13 : decode b_MM_strings 13 = .ok (.aload_n 0, 1) := by decide +kernel
theorem d_MM_strings_14 : decode b_MM_strings 14 = .ok (.iconst 1, 1) := by decide +kernel
theorem d_MM_strings_15 : decode b_MM_strings 15 = .ok (.iload_n 1, 1) := by decide +kernel
theorem d_MM_strings_16 : decode b_MM_strings 16 = .ok (.invokevirtual 412, 3) := by decide +kernel
theorem d_MM_strings_19 : decode b_MM_strings 19 = .ok (.return_, 1) := by decide +kernel
theorem d_MM_strings_20 : decode b_MM_strings 20 = .ok (.aload_n 0, 1) := by decide +kernel
theorem d_MM_strings_21 : decode b_MM_strings 21 = .ok (.getfield 20, 3) := by decide +kernel
theorem d_MM_strings_24 : decode b_MM_strings 24 = .ok (.getfield 422, 3) := by decide +kernel
theorem d_MM_strings_27 : decode b_MM_strings 27 = .ok (.iload_n 1, 1) := by decide +kernel
theorem d_MM_strings_28 : decode b_MM_strings 28 = .ok (.iaload, 1) := by decide +kernel
theorem d_MM_strings_29 : decode b_MM_strings 29 = .ok (.istore_n 2, 1) := by decide +kernel
theorem d_MM_strings_30 : decode b_MM_strings 30 = .ok (.iload_n 2, 1) := by decide +kernel
theorem d_MM_strings_31 : decode b_MM_strings 31 = .ok (.ifCond .lt 87, 3) := by decide +kernel
theorem d_MM_strings_34 : decode b_MM_strings 34 = .ok (.aload_n 0, 1) := by decide +kernel
theorem d_MM_strings_35 : decode b_MM_strings 35 = .ok (.getfield 20, 3) := by decide +kernel
theorem d_MM_strings_38 : decode b_MM_strings 38 = .ok (.getfield 419, 3) := by decide +kernel
theorem d_MM_strings_41 : decode b_MM_strings 41 = .ok (.iload_n 2, 1) := by decide +kernel
theorem d_MM_strings_42 : decode b_MM_strings 42 = .ok (.iaload, 1) := by decide +kernel
theorem d_MM_strings_43 : decode b_MM_strings 43 = .ok (.iconst 4, 1) := by decide +kernel
theorem d_MM_strings_44 : decode b_MM_strings 44 = .ok (.if_icmp .eq 10, 3) := by decide +kernel
theorem d_MM_strings_47 : decode b_MM_strings 47 = .ok (.aload_n 0, 1) := by decide +kernel
theorem d_MM_strings_48 : decode b_MM_strings 48 = .ok (.iconst 1, 1) := by decide +kernel
theorem d_MM_strings_49 : decode b_MM_strings 49 = .ok (.iload_n 2, 1) := by decide +kernel
theorem d_MM_strings_50 : decode b_MM_strings 50 = .ok (.invokevirtual 412, 3) := by decide +kernel
theorem d_MM_strings_53 : decode b_MM_strings 53 = .ok (.return_, 1) := by decide +kernel
theorem d_MM_strings_54 : decode b_MM_strings 54 = .ok (.aload_n 0, 1) := by decide +kernel
theorem d_MM_strings_55 : decode b_MM_strings 55 = .ok (.getfield 20, 3) := by decide +kernel
theorem d_MM_strings_58 : decode b_MM_strings 58 = .ok (.getfield 422, 3) := by decide +kernel
theorem d_MM_strings_61 : decode b_MM_strings 61 = .ok (.iload_n 1, 1) := by decide +kernel
theorem d_MM_strings_62 : decode b_MM_strings 62 = .ok (.iaload, 1) := by decide +kernel
theorem d_MM_strings_63 : decode b_MM_strings 63 = .ok (.istore_n 3, 1) := by decide +kernel
theorem d_MM_strings_64 : decode b_MM_strings 64 = .ok (.iload_n 3, 1) := by decide +kernel
theorem d_MM_strings_65 : decode b_MM_strings 65 = .ok (.iload_n 2, 1) := by decide +kernel
theorem d_MM_strings_66 : decode b_MM_strings 66 = .ok (.if_icmp .eq 39, 3) := by decide +kernel
theorem d_MM_strings_69 : decode b_MM_strings 69 = .ok (.aload_n 0, 1) := by decide +kernel
theorem d_MM_strings_70 : decode b_MM_strings 70 = .ok (.getfield 20, 3) := by decide +kernel
theorem d_MM_strings_73 : decode b_MM_strings 73 = .ok (.iload_n 2, 1) := by decide +kernel
theorem d_MM_strings_74 : decode b_MM_strings 74 = .ok (.aload_n 0, 1) := by decide +kernel
theorem d_MM_strings_75 : decode b_MM_strings 75 = .ok (.getfield 20, 3) := by decide +kernel
theorem d_MM_strings_78 : decode b_MM_strings 78 = .ok (.iload_n 3, 1) := by decide +kernel
theorem d_MM_strings_79 : decode b_MM_strings 79 = .ok (.invokevirtual 468, 3) := by decide +kernel
theorem d_MM_strings_82 : decode b_MM_strings 82 = .ok (.ifCond .eq 10, 3) := by decide +kernel
theorem d_MM_strings_85 : decode b_MM_strings 85 = .ok (.aload_n 0, 1) := by decide +kernel
theorem d_MM_strings_86 : decode b_MM_strings 86 = .ok (.iconst 1, 1) := by decide +kernel
theorem d_MM_strings_87 : decode b_MM_strings 87 = .ok (.iload_n 2, 1) := by decide +kernel
theorem d_MM_strings_88 : decode b_MM_strings 88 = .ok (.invokevirtual 412, 3) := by decide +kernel
theorem d_MM_strings_91 : decode b_MM_strings 91 = .ok (.return_, 1) := by decide +kernel
theorem d_MM_strings_92 : decode b_MM_strings 92 = .ok (.aload_n 0, 1) := by decide +kernel
theorem d_MM_strings_93 : decode b_MM_strings 93 = .ok (.getfield 20, 3) := by decide +kernel
theorem d_MM_strings_96 : decode b_MM_strings 96 = .ok (.getfield 436, 3) := by decide +kernel
theorem d_MM_strings_99 : decode b_MM_strings 99 = .ok (.iload_n 3, 1) := by decide +kernel
theorem d_MM_strings_100 : decode b_MM_strings 100 = .ok (.iaload, 1) := by decide +kernel
theorem d_MM_strings_101 : decode b_MM_strings 101 = .ok (.istore_n 3, 1) := by decide +kernel
theorem d_MM_strings_102 : decode b_MM_strings 102 = .ok (.goto (-38), 3) := by decide +kernel
theorem d_MM_strings_105 : decode b_MM_strings 105 = .ok (.aload_n 0, 1) := by decide +kernel
theorem d_MM_strings_106 : decode b_MM_strings 106 = .ok (.getfield 20, 3) := by decide +kernel
theorem d_MM_strings_109 : decode b_MM_strings 109 = .ok (.getfield 436, 3) := by decide +kernel
theorem d_MM_strings_112 : decode b_MM_strings 112 = .ok (.iload_n 2, 1) := by decide +kernel
theorem d_MM_strings_113 : decode b_MM_strings 113 = .ok (.iaload, 1) := by decide +kernel
theorem d_MM_strings_114 : decode b_MM_strings 114 = .ok (.istore_n 2, 1) := by decide +kernel
theorem d_MM_strings_115 : decode b_MM_strings 115 = .ok (.goto (-85), 3) := by decide +kernel
theorem d_MM_strings_118 : decode b_MM_strings 118 = .ok (.return_, 1) := by decide +kernel
theorem d_MM_keyword_0 : decode b_MM_keyword 0 = .ok (.aload_n 0, 1) := by decide +kernel
theorem d_MM_keyword_1 : decode b_MM_keyword 1 = .ok (.getfield 20, 3) := by decide +kernel
theorem d_MM_keyword_4 : decode b_MM_keyword 4 = .ok (.getfield 419, 3) := by decide +kernel
theorem d_MM_keyword_7 : decode b_MM_keyword 7 = .ok (.iload_n 2, 1) := by decide +kernel
theorem d_MM_keyword_8 : decode b_MM_keyword 8 = .ok (.iaload, 1) := by decide +kernel
theorem d_MM_keyword_9 : decode b_MM_keyword 9 = .ok (.istore 4, 2) := by decide +kernel
theorem d_MM_keyword_11 : decode b_MM_keyword 11 = .ok (.iload_n 1, 1) := by decide +kernel
theorem d_MM_keyword_12 : decode b_MM_keyword 12 = .ok (.bipush 10, 2) := by decide +kernel
theorem d_MM_keyword_14 : decode b_MM_keyword 14 = .ok (.if_icmp .ge 11, 3) := by decide +kernel
theorem d_MM_keyword_17 : decode b_MM_keyword 17 = .ok (.aload_n 0, 1) := by decide +kernel
theorem d_MM_keyword_18 : decode b_MM_keyword 18 = .ok (.iload_n 2, 1) := by decide +kernel
theorem d_MM_keyword_19 : decode b_MM_keyword 19 = .ok (.invokevirtual 403, 3) := by decide +kernel
theorem d_MM_keyword_22 : decode b_MM_keyword 22 = .ok (.goto 496, 3) := by decide +kernel
theorem d_MM_keyword_25 : decode b_MM_keyword 25 = .ok (.iload_n 1, 1) := by decide +kernel
theorem d_MM_keyword_26 : decode b_MM_keyword 26 = .ok (.bipush 14, 2) := by decide +kernel
theorem d_MM_keyword_28 : decode b_MM_keyword 28 = .ok (.if_icmp .ge 70, 3) := by decide +kernel
theorem d_MM_keyword_31 : decode b_MM_keyword 31 = .ok (.iload 4, 2) := by decide +kernel
theorem d_MM_keyword_33 : decode b_MM_keyword 33 = .ok (.iconst 5, 1) := by decide +kernel
theorem d_MM_keyword_34 : decode b_MM_keyword 34 = .ok (.if_icmp .ne 15, 3) := by decide +kernel
theorem d_MM_keyword_37 : decode b_MM_keyword 37 = .ok (.aload_n 0, 1) := by decide +kernel
theorem d_MM_keyword_38 : decode b_MM_keyword 38 = .ok (.getfield 20, 3) := by decide +kernel
theorem d_MM_keyword_41 : decode b_MM_keyword 41 = .ok (.getfield 272, 3) := by decide +kernel
theorem d_MM_keyword_44 : decode b_MM_keyword 44 = .ok (.iload_n 2, 1) := by decide +kernel
theorem d_MM_keyword_45 : decode b_MM_keyword 45 = .ok (.iaload, 1) := by decide +kernel
theorem d_MM_keyword_46 : decode b_MM_keyword 46 = .ok (.ifCond .ne 12, 3) := by decide +kernel
theorem d_MM_keyword_49 : decode b_MM_keyword 49 = .ok (.aload_n 0, 1) := by decide +kernel
theorem d_MM_keyword_50 : decode b_MM_keyword 50 = .ok (.iconst 1, 1) := by decide +kernel
theorem d_MM_keyword_51 : decode b_MM_keyword 51 = .ok (.iload_n 2, 1) := by decide +kernel
theorem d_MM_keyword_52 : decode b_MM_keyword 52 = .ok (.invokevirtual 412, 3) := by decide +kernel
theorem d_MM_keyword_55 : decode b_MM_keyword 55 = .ok (.goto 463, 3) := by decide +kernel
theorem d_MM_keyword_58 : decode b_MM_keyword 58 = .ok (.aload_n 0, 1) := by decide +kernel
theorem d_MM_keyword_59 : decode b_MM_keyword 59 = .ok (.getfield 20, 3) := by decide +kernel
theorem d_MM_keyword_62 : decode b_MM_keyword 62 = .ok (.getfield 422, 3) := by decide +kernel
theorem d_MM_keyword_65 : decode b_MM_keyword 65 = .ok (.iload_n 2, 1) := by decide +kernel
theorem d_MM_keyword_66 : decode b_MM_keyword 66 = .ok (.iaload, 1) := by decide +kernel
theorem d_MM_keyword_67 : decode b_MM_keyword 67 = .ok (.istore 5, 2) := by decide +kernel
theorem d_MM_keyword_69 : decode b_MM_keyword 69 = .ok (.iload 5, 2) := by decide +kernel
theorem d_MM_keyword_71 : decode b_MM_keyword 71 = .ok (.ifCond .lt 24, 3) := by decide +kernel
theorem d_MM_keyword_74 : decode b_MM_keyword 74 = .ok (.aload_n 0, 1) := by decide +kernel
theorem d_MM_keyword_75 : decode b_MM_keyword 75 = .ok (.iload 5, 2) := by decide +kernel
theorem d_MM_keyword_77 : decode b_MM_keyword 77 = .ok (.invokevirtual 403, 3) := by decide +kernel
theorem d_MM_keyword_80 : decode b_MM_keyword 80 = .ok (.aload_n 0, 1) := by decide +kernel
theorem d_MM_keyword_81 : decode b_MM_keyword 81 = .ok (.getfield 20, 3) := by decide +kernel
theorem d_MM_keyword_84 : decode b_MM_keyword 84 = .ok (.getfield 436, 3) := by decide +kernel
theorem d_MM_keyword_87 : decode b_MM_keyword 87 = .ok (.iload 5, 2) := by decide +kernel
theorem d_MM_keyword_89 : decode b_MM_keyword 89 = .ok (.iaload, 1) := by decide +kernel
theorem d_MM_keyword_90 : decode b_MM_keyword 90 = .ok (.istore 5, 2) := by decide +kernel
theorem d_MM_keyword_92 : decode b_MM_keyword 92 = .ok (.goto (-23), 3) := by decide +kernel
theorem d_MM_keyword_95 : decode b_MM_keyword 95 = .ok (.goto 423, 3) := by decide +kernel
theorem d_MM_keyword_98 : decode b_MM_keyword 98 = .ok (.iload_n 1, 1) := by decide +kernel
theorem d_MM_keyword_99 : decode b_MM_keyword 99 = .ok (.bipush 18, 2) := by decide +kernel
theorem d_MM_keyword_101 : decode b_MM_keyword 101 = .ok (.if_icmp .ge 91, 3) := by decide +kernel
theorem d_MM_keyword_104 : decode b_MM_keyword 104 = .ok (.iload 4, 2) := by decide +kernel
theorem d_MM_keyword_106 : decode b_MM_keyword 106 = .ok (.bipush 6, 2) := by decide +kernel
theorem d_MM_keyword_108 : decode b_MM_keyword 108 = .ok (.if_icmp .eq 10, 3) := by decide +kernel
theorem d_MM_keyword_111 : decode b_MM_keyword 111 = .ok (.aload_n 0, 1) := by decide +kernel
theorem d_MM_keyword_112 : decode b_MM_keyword 112 = .ok (.iconst 1, 1) := by decide +kernel
theorem d_MM_keyword_113 : decode b_MM_keyword 113 = .ok (.iload_n 2, 1) := by decide +kernel
theorem d_MM_keyword_114 : decode b_MM_keyword 114 = .ok (.invokevirtual 412, 3) := by decide +kernel
theorem d_MM_keyword_117 : decode b_MM_keyword 117 = .ok (.return_, 1) := by decide +kernel
theorem d_MM_keyword_118 : decode b_MM_keyword 118 = .ok (.aload_n 0, 1) := by decide +kernel
theorem d_MM_keyword_119 : decode b_MM_keyword 119 = .ok (.getfield 20, 3) := by decide +kernel
theorem d_MM_keyword_122 : decode b_MM_keyword 122 = .ok (.getfield 422, 3) := by decide +kernel
theorem d_MM_keyword_125 : decode b_MM_keyword 125 = .ok (.iload_n 2, 1) := by decide +kernel
theorem d_MM_keyword_126 : decode b_MM_keyword 126 = .ok (.iaload, 1) := by decide +kernel
theorem d_MM_keyword_127 : decode b_MM_keyword 127 = .ok (.istore 5, 2) := by decide +kernel
theorem d_MM_keyword_129 : decode b_MM_keyword 129 = .ok (.iload 5, 2) := by decide +kernel
theorem d_MM_keyword_131 : decode b_MM_keyword 131 = .ok (.ifCond .lt 58, 3) := by decide +kernel
theorem d_MM_keyword_134 : decode b_MM_keyword 134 = .ok (.iload_n 1, 1) := by decide +kernel
theorem d_MM_keyword_135 : decode b_MM_keyword 135 = .ok (.bipush 16, 2) := by decide +kernel
theorem d_MM_keyword_137 : decode b_MM_keyword 137 = .ok (.if_icmp .ne 31, 3) := by decide +kernel
theorem d_MM_keyword_140 : decode b_MM_keyword 140 = .ok (.aload_n 0, 1) := by decide +kernel
theorem d_MM_keyword_141 : decode b_MM_keyword 141 = .ok (.aload_n 0, 1) := by decide +kernel
theorem d_MM_keyword_142 : decode b_MM_keyword 142 = .ok (.getfield 20, 3) := by decide +kernel
theorem d_MM_keyword_145 : decode b_MM_keyword 145 = .ok (.aload_n 0, 1) := by decide +kernel
theorem d_MM_keyword_146 : decode b_MM_keyword 146 = .ok (.getfield 20, 3) := by decide +kernel
theorem d_MM_keyword_149 : decode b_MM_keyword 149 = .ok (.getfield 425, 3) := by decide +kernel
theorem d_MM_keyword_152 : decode b_MM_keyword 152 = .ok (.iload 5, 2) := by decide +kernel
theorem d_MM_keyword_154 : decode b_MM_keyword 154 = .ok (.iaload, 1) := by decide +kernel
theorem d_MM_keyword_155 : decode b_MM_keyword 155 = .ok (.invokevirtual 439, 3) := by decide +kernel
theorem d_MM_keyword_158 : decode b_MM_keyword 158 = .ok (.ifCond .ne 10, 3) := by decide +kernel
theorem d_MM_keyword_161 : decode b_MM_keyword 161 = .ok (.aload_n 0, 1) := by decide +kernel
theorem d_MM_keyword_162 : decode b_MM_keyword 162 = .ok (.iconst 4, 1) := by decide +kernel
theorem d_MM_keyword_163 : decode b_MM_keyword 163 = .ok (.iload 5, 2) := by decide +kernel
theorem d_MM_keyword_165 : decode b_MM_keyword 165 = .ok (.invokevirtual 412, 3) := by decide +kernel
theorem d_MM_keyword_168 : decode b_MM_keyword 168 = .ok (.aload_n 0, 1) := by decide +kernel
theorem d_MM_keyword_169 : decode b_MM_keyword 169 = .ok (.iload 5, 2) := by decide +kernel
theorem d_MM_keyword_171 : decode b_MM_keyword 171 = .ok (.invokevirtual 403, 3) := by decide +kernel
theorem d_MM_keyword_174 : decode b_MM_keyword 174 = .ok (.aload_n 0, 1) := by decide +kernel
theorem d_MM_keyword_175 : decode b_MM_keyword 175 = .ok (.getfield 20, 3) := by decide +kernel
theorem d_MM_keyword_178 : decode b_MM_keyword 178 = .ok (.getfield 436, 3) := by decide +kernel
theorem d_MM_keyword_181 : decode b_MM_keyword 181 = .ok (.iload 5, 2) := by decide +kernel
theorem d_MM_keyword_183 : decode b_MM_keyword 183 = .ok (.iaload, 1) := by decide +kernel
theorem d_MM_keyword_184 : decode b_MM_keyword 184 = .ok (.istore 5, 2) := by decide +kernel
theorem d_MM_keyword_186 : decode b_MM_keyword 186 = .ok (.goto (-57), 3) := by decide +kernel
theorem d_MM_keyword_189 : decode b_MM_keyword 189 = .ok (.goto 329, 3) := by decide +kernel
theorem d_MM_keyword_192 : decode b_MM_keyword 192 = .ok (.iload_n 1, 1) := by decide +kernel
theorem d_MM_keyword_193 : decode b_MM_keyword 193 = .ok (.bipush 23, 2) := by decide +kernel
theorem d_MM_keyword_195 : decode b_MM_keyword 195 = .ok (.if_icmp .ge 48, 3) := by decide +kernel
theorem d_MM_keyword_198 : decode b_MM_keyword 198 = .ok (.iload 4, 2) := by decide +kernel
theorem d_MM_keyword_200 : decode b_MM_keyword 200 = .ok (.iconst 3, 1) := by decide +kernel
theorem d_MM_keyword_201 : decode b_MM_keyword 201 = .ok (.if_icmp .ne 33, 3) := by decide +kernel
theorem d_MM_keyword_204 : decode b_MM_keyword 204 = .ok (.iload_n 1, 1) := by decide +kernel
theorem d_MM_keyword_205 : decode b_MM_keyword 205 = .ok (.bipush 22, 2) := by decide +kernel
theorem d_MM_keyword_207 : decode b_MM_keyword 207 = .ok (.if_icmp .ne 311, 3) := by decide +kernel
theorem d_MM_keyword_210 : decode b_MM_keyword 210 = .ok (.aload_n 0, 1) := by decide +kernel
theorem d_MM_keyword_211 : decode b_MM_keyword 211 = .ok (.getfield 20, 3) := by decide +kernel
theorem d_MM_keyword_214 : decode b_MM_keyword 214 = .ok (.getfield 272, 3) := by decide +kernel
theorem d_MM_keyword_217 : decode b_MM_keyword 217 = .ok (.iload_n 2, 1) := by decide +kernel
theorem d_MM_keyword_218 : decode b_MM_keyword 218 = .ok (.iaload, 1) := by decide +kernel
theorem d_MM_keyword_219 : decode b_MM_keyword 219 = .ok (.ifCond .eq 15, 3) := by decide +kernel
theorem d_MM_keyword_222 : decode b_MM_keyword 222 = .ok (.aload_n 0, 1) := by decide +kernel
theorem d_MM_keyword_223 : decode b_MM_keyword 223 = .ok (.getfield 20, 3) := by decide +kernel
theorem d_MM_keyword_226 : decode b_MM_keyword 226 = .ok (.getfield 443, 3) := by decide +kernel
theorem d_MM_keyword_229 : decode b_MM_keyword 229 = .ok (.iload_n 2, 1) := by decide +kernel
theorem d_MM_keyword_230 : decode b_MM_keyword 230 = .ok (.baload, 1) := by decide +kernel
theorem d_MM_keyword_231 : decode b_MM_keyword 231 = .ok (.ifCond .eq 287, 3) := by decide +kernel
theorem d_MM_keyword_234 : decode b_MM_keyword 234 = .ok (.aload_n 0, 1) := by decide +kernel
theorem d_MM_keyword_235 : decode b_MM_keyword 235 = .ok (.iconst 1, 1) := by decide +kernel
theorem d_MM_keyword_236 : decode b_MM_keyword 236 = .ok (.iload_n 2, 1) := by decide +kernel
theorem d_MM_keyword_237 : decode b_MM_keyword 237 = .ok (.invokevirtual 412, 3) := by decide +kernel
theorem d_MM_keyword_240 : decode b_MM_keyword 240 = .ok (.goto 278, 3) := by decide +kernel
theorem d_MM_keyword_243 : decode b_MM_keyword 243 = .ok (.iload_n 1, 1) := by decide +kernel
theorem d_MM_keyword_244 : decode b_MM_keyword 244 = .ok (.bipush 31, 2) := by decide +kernel
theorem d_MM_keyword_246 : decode b_MM_keyword 246 = .ok (.if_icmp .ge 46, 3) := by decide +kernel
theorem d_MM_keyword_249 : decode b_MM_keyword 249 = .ok (.aload_n 0, 1) := by decide +kernel
theorem d_MM_keyword_250 : decode b_MM_keyword 250 = .ok (.getfield 20, 3) := by decide +kernel
theorem d_MM_keyword_253 : decode b_MM_keyword 253 = .ok (.iload_n 2, 1) := by decide +kernel
theorem d_MM_keyword_254 : decode b_MM_keyword 254 = .ok (.invokevirtual 446, 3) := by decide +kernel
theorem d_MM_keyword_257 : decode b_MM_keyword 257 = .ok (.ifCond .eq 26, 3) := by decide +kernel
theorem d_MM_keyword_260 : decode b_MM_keyword 260 = .ok (.aload_n 0, 1) := by decide +kernel
theorem d_MM_keyword_261 : decode b_MM_keyword 261 = .ok (.getfield 20, 3) := by decide +kernel
theorem d_MM_keyword_264 : decode b_MM_keyword 264 = .ok (.getfield 443, 3) := by decide +kernel
theorem d_MM_keyword_267 : decode b_MM_keyword 267 = .ok (.iload_n 2, 1) := by decide +kernel
theorem d_MM_keyword_268 : decode b_MM_keyword 268 = .ok (.baload, 1) := by decide +kernel
theorem d_MM_keyword_269 : decode b_MM_keyword 269 = .ok (.ifCond .ne 14, 3) := by decide +kernel
theorem d_MM_keyword_272 : decode b_MM_keyword 272 = .ok (.aload_n 0, 1) := by decide +kernel
theorem d_MM_keyword_273 : decode b_MM_keyword 273 = .ok (.iload_n 2, 1) := by decide +kernel
theorem d_MM_keyword_274 : decode b_MM_keyword 274 = .ok (.invokevirtual 449, 3) := by decide +kernel
theorem d_MM_keyword_277 : decode b_MM_keyword 277 = .ok (.ldc_w 452, 3) := by decide +kernel
theorem d_MM_keyword_280 : decode b_MM_keyword 280 = .ok (.if_icmp .le 238, 3) := by decide +kernel
theorem d_MM_keyword_283 : decode b_MM_keyword 283 = .ok (.aload_n 0, 1) := by decide +kernel
theorem d_MM_keyword_284 : decode b_MM_keyword 284 = .ok (.iconst 1, 1) := by decide +kernel
theorem d_MM_keyword_285 : decode b_MM_keyword 285 = .ok (.iload_n 2, 1) := by decide +kernel
theorem d_MM_keyword_286 : decode b_MM_keyword 286 = .ok (.invokevirtual 412, 3) := by decide +kernel
theorem d_MM_keyword_289 : decode b_MM_keyword 289 = .ok (.goto 229, 3) := by decide +kernel
theorem d_MM_keyword_292 : decode b_MM_keyword 292 = .ok (.iload_n 1, 1) := by decide +kernel
theorem d_MM_keyword_293 : decode b_MM_keyword 293 = .ok (.bipush 31, 2) := by decide +kernel
theorem d_MM_keyword_295 : decode b_MM_keyword 295 = .ok (.if_icmp .ne 39, 3) := by decide +kernel
theorem d_MM_keyword_298 : decode b_MM_keyword 298 = .ok (.iload 4, 2) := by decide +kernel
theorem d_MM_keyword_300 : decode b_MM_keyword 300 = .ok (.iconst 4, 1) := by decide +kernel
theorem d_MM_keyword_301 : decode b_MM_keyword 301 = .ok (.if_icmp .eq 12, 3) := by decide +kernel
theorem d_MM_keyword_304 : decode b_MM_keyword 304 = .ok (.aload_n 0, 1) := by decide +kernel
theorem d_MM_keyword_305 : decode b_MM_keyword 305 = .ok (.iconst 1, 1) := by decide +kernel
theorem d_MM_keyword_306 : decode b_MM_keyword 306 = .ok (.iload_n 2, 1) := by decide +kernel
theorem d_MM_keyword_307 : decode b_MM_keyword 307 = .ok (.invokevirtual 412, 3) := by decide +kernel
theorem d_MM_keyword_310 : decode b_MM_keyword 310 = .ok (.goto 208, 3) := by decide +kernel
theorem d_MM_keyword_313 : decode b_MM_keyword 313 = .ok (.aload_n 0, 1) := by decide +kernel
theorem d_MM_keyword_314 : decode b_MM_keyword 314 = .ok (.aload_n 0, 1) := by decide +kernel
theorem d_MM_keyword_315 : decode b_MM_keyword 315 = .ok (.getfield 20, 3) := by decide +kernel
theorem d_MM_keyword_318 : decode b_MM_keyword 318 = .ok (.iload_n 2, 1) := by decide +kernel
theorem d_MM_keyword_319 : decode b_MM_keyword 319 = .ok (.invokevirtual 439, 3) := by decide +kernel
theorem d_MM_keyword_322 : decode b_MM_keyword 322 = .ok (.ifCond .ne 196, 3) := by decide +kernel
theorem d_MM_keyword_325 : decode b_MM_keyword 325 = .ok (.aload_n 0, 1) := by decide +kernel
theorem d_MM_keyword_326 : decode b_MM_keyword 326 = .ok (.iconst 4, 1) := by decide +kernel
theorem d_MM_keyword_327 : decode b_MM_keyword 327 = .ok (.iload_n 2, 1) := by decide +kernel
theorem d_MM_keyword_328 : decode b_MM_keyword 328 = .ok (.invokevirtual 412, 3) := by decide +kernel
theorem d_MM_keyword_331 : decode b_MM_keyword 331 = .ok (.goto 187, 3) := by decide +kernel
theorem d_MM_keyword_334 : decode b_MM_keyword 334 = .ok (.iload_n 1, 1) := by decide +kernel
theorem d_MM_keyword_335 : decode b_MM_keyword 335 = .ok (.bipush 32, 2) := by decide +kernel
theorem d_MM_keyword_337 : decode b_MM_keyword 337 = .ok (.if_icmp .ne 18, 3) := by decide +kernel
theorem d_MM_keyword_340 : decode b_MM_keyword 340 = .ok (.iload 4, 2) := by decide +kernel
theorem d_MM_keyword_342 : decode b_MM_keyword 342 = .ok (.iconst 4, 1) := by decide +kernel
theorem d_MM_keyword_343 : decode b_MM_keyword 343 = .ok (.if_icmp .eq 175, 3) := by decide +kernel
theorem d_MM_keyword_346 : decode b_MM_keyword 346 = .ok (.aload_n 0, 1) := by decide +kernel
theorem d_MM_keyword_347 : decode b_MM_keyword 347 = .ok (.iconst 1, 1) := by decide +kernel
theorem d_MM_keyword_348 : decode b_MM_keyword 348 = .ok (.iload_n 2, 1) := by decide +kernel
theorem d_MM_keyword_349 : decode b_MM_keyword 349 = .ok (.invokevirtual 412, 3) := by decide +kernel
theorem d_MM_keyword_352 : decode b_MM_keyword 352 = .ok (.goto 166, 3) := by decide +kernel
theorem d_MM_keyword_355 : decode b_MM_keyword 355 = .ok (.iload_n 1, 1) := by decide +kernel
theorem d_MM_keyword_356 : decode b_MM_keyword 356 = .ok (.bipush 33, 2) := by decide +kernel
theorem d_MM_keyword_358 : decode b_MM_keyword 358 = .ok (.if_icmp .ne 12, 3) := by decide +kernel
theorem d_MM_keyword_361 : decode b_MM_keyword 361 = .ok (.aload_n 0, 1) := by decide +kernel
theorem d_MM_keyword_362 : decode b_MM_keyword 362 = .ok (.iload_n 2, 1) := by decide +kernel
theorem d_MM_keyword_363 : decode b_MM_keyword 363 = .ok (.iload_n 3, 1) := by decide +kernel
theorem d_MM_keyword_364 : decode b_MM_keyword 364 = .ok (.invokevirtual 453, 3) := by decide +kernel
theorem d_MM_keyword_367 : decode b_MM_keyword 367 = .ok (.goto 151, 3) := by decide +kernel
theorem d_MM_keyword_370 : decode b_MM_keyword 370 = .ok (.iload_n 1, 1) := by decide +kernel
theorem d_MM_keyword_371 : decode b_MM_keyword 371 = .ok (.bipush 34, 2) := by decide +kernel
theorem d_MM_keyword_373 : decode b_MM_keyword 373 = .ok (.if_icmp .ne 11, 3) := by decide +kernel
theorem d_MM_keyword_376 : decode b_MM_keyword 376 = .ok (.aload_n 0, 1) := by decide +kernel
theorem d_MM_keyword_377 : decode b_MM_keyword 377 = .ok (.iload_n 2, 1) := by decide +kernel
theorem d_MM_keyword_378 : decode b_MM_keyword 378 = .ok (.invokevirtual 456, 3) := by decide +kernel
theorem d_MM_keyword_381 : decode b_MM_keyword 381 = .ok (.goto 137, 3) := by decide +kernel
theorem d_MM_keyword_384 : decode b_MM_keyword 384 = .ok (.iload_n 1, 1) := by decide +kernel
theorem d_MM_keyword_385 : decode b_MM_keyword 385 = .ok (.bipush 35, 2) := by decide +kernel
theorem d_MM_keyword_387 : decode b_MM_keyword 387 = .ok (.if_icmp .ne 18, 3) := by decide +kernel
theorem d_MM_keyword_390 : decode b_MM_keyword 390 = .ok (.iload 4, 2) := by decide +kernel
theorem d_MM_keyword_392 : decode b_MM_keyword 392 = .ok (.iconst 5, 1) := by decide +kernel
theorem d_MM_keyword_393 : decode b_MM_keyword 393 = .ok (.if_icmp .eq 125, 3) := by decide +kernel
theorem d_MM_keyword_396 : decode b_MM_keyword 396 = .ok (.aload_n 0, 1) := by decide +kernel
theorem d_MM_keyword_397 : decode b_MM_keyword 397 = .ok (.iconst 1, 1) := by decide +kernel
theorem d_MM_keyword_398 : decode b_MM_keyword 398 = .ok (.iload_n 2, 1) := by decide +kernel
theorem d_MM_keyword_399 : decode b_MM_keyword 399 = .ok (.invokevirtual 412, 3) := by decide +kernel
theorem d_MM_keyword_402 : decode b_MM_keyword 402 = .ok (.goto 116, 3) := by decide +kernel
theorem d_MM_keyword_405 : decode b_MM_keyword 405 = .ok (.iload_n 1, 1) := by decide +kernel
theorem d_MM_keyword_406 : decode b_MM_keyword 406 = .ok (.bipush 37, 2) := by decide +kernel
theorem d_MM_keyword_408 : decode b_MM_keyword 408 = .ok (.if_icmp .ne 22, 3) := by decide +kernel
theorem d_MM_keyword_411 : decode b_MM_keyword 411 = .ok (.iload 4, 2) := by decide +kernel
theorem d_MM_keyword_413 : decode b_MM_keyword 413 = .ok (.iconst 1, 1) := by decide +kernel
theorem d_MM_keyword_414 : decode b_MM_keyword 414 = .ok (.iconst 2, 1) := by decide +kernel
theorem d_MM_keyword_415 : decode b_MM_keyword 415 = .ok (.invokestatic 344, 3) := by decide +kernel
theorem d_MM_keyword_418 : decode b_MM_keyword 418 = .ok (.ifCond .ne 100, 3) := by decide +kernel
theorem d_MM_keyword_421 : decode b_MM_keyword 421 = .ok (.aload_n 0, 1) := by decide +kernel
theorem d_MM_keyword_422 : decode b_MM_keyword 422 = .ok (.iconst 1, 1) := by decide +kernel
theorem d_MM_keyword_423 : decode b_MM_keyword 423 = .ok (.iload_n 2, 1) := by decide +kernel
theorem d_MM_keyword_424 : decode b_MM_keyword 424 = .ok (.invokevirtual 412, 3) := by decide +kernel
theorem d_MM_keyword_427 : decode b_MM_keyword 427 = .ok (.goto 91, 3) := by decide +kernel
theorem d_MM_keyword_430 : decode b_MM_keyword 430 = .ok (.iload_n 1, 1) := by decide +kernel
theorem d_MM_keyword_431 : decode b_MM_keyword 431 = .ok (.bipush 38, 2) := by decide +kernel
theorem d_MM_keyword_433 : decode b_MM_keyword 433 = .ok (.if_icmp .ne 11, 3) := by decide +kernel
theorem d_MM_keyword_436 : decode b_MM_keyword 436 = .ok (.aload_n 0, 1) := by decide +kernel
theorem d_MM_keyword_437 : decode b_MM_keyword 437 = .ok (.iload_n 2, 1) := by decide +kernel
theorem d_MM_keyword_438 : decode b_MM_keyword 438 = .ok (.invokevirtual 458, 3) := by decide +kernel
theorem d_MM_keyword_441 : decode b_MM_keyword 441 = .ok (.goto 77, 3) := by decide +kernel
theorem d_MM_keyword_444 : decode b_MM_keyword 444 = .ok (.iload_n 1, 1) := by decide +kernel
theorem d_MM_keyword_445 : decode b_MM_keyword 445 = .ok (.bipush 39, 2) := by decide +kernel
theorem d_MM_keyword_447 : decode b_MM_keyword 447 = .ok (.if_icmp .ne 59, 3) := by decide +kernel
theorem d_MM_keyword_450 : decode b_MM_keyword 450 = .ok (.iload 4, 2) := by decide +kernel
theorem d_MM_keyword_452 : decode b_MM_keyword 452 = .ok (.bipush 6, 2) := by decide +kernel
theorem d_MM_keyword_454 : decode b_MM_keyword 454 = .ok (.if_icmp .eq 12, 3) := by decide +kernel
theorem d_MM_keyword_457 : decode b_MM_keyword 457 = .ok (.aload_n 0, 1) := by decide +kernel
theorem d_MM_keyword_458 : decode b_MM_keyword 458 = .ok (.iconst 1, 1) := by decide +kernel
theorem d_MM_keyword_459 : decode b_MM_keyword 459 = .ok (.iload_n 2, 1) := by decide +kernel
theorem d_MM_keyword_460 : decode b_MM_keyword 460 = .ok (.invokevirtual 412, 3) := by decide +kernel
theorem d_MM_keyword_463 : decode b_MM_keyword 463 = .ok (.goto 55, 3) := by decide +kernel
theorem d_MM_keyword_466 : decode b_MM_keyword 466 = .ok (.aload_n 0, 1) := by decide +kernel
theorem d_MM_keyword_467 : decode b_MM_keyword 467 = .ok (.getfield 20, 3) := by decide +kernel
theorem d_MM_keyword_470 : decode b_MM_keyword 470 = .ok (.getfield 422, 3) := by decide +kernel
theorem d_MM_keyword_473 : decode b_MM_keyword 473 = .ok (.iload_n 2, 1) := by decide +kernel
theorem d_MM_keyword_474 : decode b_MM_keyword 474 = .ok (.iaload, 1) := by decide +kernel
theorem d_MM_keyword_475 : decode b_MM_keyword 475 = .ok (.istore 5, 2) := by decide +kernel
theorem d_MM_keyword_477 : decode b_MM_keyword 477 = .ok (.iload 5, 2) := by decide +kernel
theorem d_MM_keyword_479 : decode b_MM_keyword 479 = .ok (.ifCond .lt 24, 3) := by decide +kernel
theorem d_MM_keyword_482 : decode b_MM_keyword 482 = .ok (.aload_n 0, 1) := by decide +kernel
theorem d_MM_keyword_483 : decode b_MM_keyword 483 = .ok (.iload 5, 2) := by decide +kernel
theorem d_MM_keyword_485 : decode b_MM_keyword 485 = .ok (.invokevirtual 458, 3) := by decide +kernel
theorem d_MM_keyword_488 : decode b_MM_keyword 488 = .ok (.aload_n 0, 1) := by decide +kernel
theorem d_MM_keyword_489 : decode b_MM_keyword 489 = .ok (.getfield 20, 3) := by decide +kernel
theorem d_MM_keyword_492 : decode b_MM_keyword 492 = .ok (.getfield 436, 3) := by decide +kernel
theorem d_MM_keyword_495 : decode b_MM_keyword 495 = .ok (.iload 5, 2) := by decide +kernel
theorem d_MM_keyword_497 : decode b_MM_keyword 497 = .ok (.iaload, 1) := by decide +kernel
theorem d_MM_keyword_498 : decode b_MM_keyword 498 = .ok (.istore 5, 2) := by decide +kernel
theorem d_MM_keyword_500 : decode b_MM_keyword 500 = .ok (.goto (-23), 3) := by decide +kernel
theorem d_MM_keyword_503 : decode b_MM_keyword 503 = .ok (.goto 15, 3) := by decide +kernel
theorem d_MM_keyword_506 : decode b_MM_keyword 506 = .ok (.iload_n 1, 1) := by decide +kernel
theorem d_MM_keyword_507 : decode b_MM_keyword 507 = .ok (.bipush 40, 2) := by decide +kernel
theorem d_MM_keyword_509 : decode b_MM_keyword 509 = .ok (.if_icmp .lt 9, 3) := by decide +kernel
theorem d_MM_keyword_512 : decode b_MM_keyword 512 = .ok (.aload_n 0, 1) := by decide +kernel
theorem d_MM_keyword_513 : decode b_MM_keyword 513 = .ok (.iconst 2, 1) := by decide +kernel
theorem d_MM_keyword_514 : decode b_MM_keyword 514 = .ok (.iload_n 2, 1) := by decide +kernel
theorem d_MM_keyword_515 : decode b_MM_keyword 515 = .ok (.invokevirtual 412, 3) := by decide +kernel
theorem d_MM_keyword_518 : decode b_MM_keyword 518 = .ok (.return_, 1) := by decide +kernel
theorem d_MM_visit_0 : decode b_MM_visit 0 = .ok (.aload_n 0, 1) := by decide +kernel
theorem d_MM_visit_1 : decode b_MM_visit 1 = .ok (.getfield 20, 3) := by decide +kernel
theorem d_MM_visit_4 : decode b_MM_visit 4 = .ok (.getfield 419, 3) := by decide +kernel
theorem d_MM_visit_7 : decode b_MM_visit 7 = .ok (.iload_n 1, 1) := by decide +kernel
theorem d_MM_visit_8 : decode b_MM_visit 8 = .ok (.iaload, 1) := by decide +kernel
theorem d_MM_visit_9 : decode b_MM_visit 9 = .ok (.iconst 1, 1) := by decide +kernel
theorem d_MM_visit_10 : decode b_MM_visit 10 = .ok (.iconst 2, 1) := by decide +kernel
theorem d_MM_visit_11 : decode b_MM_visit 11 = .ok (.invokestatic 344, 3) := by decide +kernel
theorem d_MM_visit_14 : decode b_MM_visit 14 = .ok (.ifCond .ne 24, 3) := by decide +kernel
theorem d_MM_visit_17 : decode b_MM_visit 17 = .ok (.aload_n 0, 1) := by decide +kernel
theorem d_MM_visit_18 : decode b_MM_visit 18 = .ok (.getfield 20, 3) := by decide +kernel
theorem d_MM_visit_21 : decode b_MM_visit 21 = .ok (.getfield 419, 3) := by decide +kernel
theorem d_MM_visit_24 : decode b_MM_visit 24 = .ok (.iload_n 1, 1) := by decide +kernel
theorem d_MM_visit_25 : decode b_MM_visit 25 = .ok (.iaload, 1) := by decide +kernel
theorem d_MM_visit_26 : decode b_MM_visit 26 = .ok (.bipush 6, 2) := by decide +kernel
theorem d_MM_visit_28 : decode b_MM_visit 28 = .ok (.if_icmp .eq 10, 3) := by decide +kernel
theorem d_MM_visit_31 : decode b_MM_visit 31 = .ok (.aload_n 0, 1) := by decide +kernel
theorem d_MM_visit_32 : decode b_MM_visit 32 = .ok (.iconst 1, 1) := by decide +kernel
theorem d_MM_visit_33 : decode b_MM_visit 33 = .ok (.iload_n 1, 1) := by decide +kernel
theorem d_MM_visit_34 : decode b_MM_visit 34 = .ok (.invokevirtual 412, 3) := by decide +kernel
theorem d_MM_visit_37 : decode b_MM_visit 37 = .ok (.return_, 1) := by decide +kernel
theorem d_MM_visit_38 : decode b_MM_visit 38 = .ok (.aload_n 0, 1) := by decide +kernel
theorem d_MM_visit_39 : decode b_MM_visit 39 = .ok (.getfield 212, 3) := by decide +kernel
theorem d_MM_visit_42 : decode b_MM_visit 42 = .ok (.iload_n 1, 1) := by decide +kernel
theorem d_MM_visit_43 : decode b_MM_visit 43 = .ok (.iconst 1, 1) := by decide +kernel
theorem d_MM_visit_44 : decode b_MM_visit 44 = .ok (.bastore, 1) := by decide +kernel
theorem d_MM_visit_45 : decode b_MM_visit 45 = .ok (.aload_n 0, 1) := by decide +kernel
theorem d_MM_visit_46 : decode b_MM_visit 46 = .ok (.getfield 20, 3) := by decide +kernel
theorem d_MM_visit_49 : decode b_MM_visit 49 = .ok (.getfield 422, 3) := by decide +kernel
theorem d_MM_visit_52 : decode b_MM_visit 52 = .ok (.iload_n 1, 1) := by decide +kernel
theorem d_MM_visit_53 : decode b_MM_visit 53 = .ok (.iaload, 1) := by decide +kernel
theorem d_MM_visit_54 : decode b_MM_visit 54 = .ok (.istore_n 2, 1) := by decide +kernel
theorem d_MM_visit_55 : decode b_MM_visit 55 = .ok (.iload_n 2, 1) := by decide +kernel
theorem d_MM_visit_56 : decode b_MM_visit 56 = .ok (.ifCond .lt 100, 3) := by decide +kernel
theorem d_MM_visit_59 : decode b_MM_visit 59 = .ok (.aload_n 0, 1) := by decide +kernel
theorem d_MM_visit_60 : decode b_MM_visit 60 = .ok (.getfield 20, 3) := by decide +kernel
theorem d_MM_visit_63 : decode b_MM_visit 63 = .ok (.getfield 419, 3) := by decide +kernel
theorem d_MM_visit_66 : decode b_MM_visit 66 = .ok (.iload_n 1, 1) := by decide +kernel
theorem d_MM_visit_67 : decode b_MM_visit 67 = .ok (.iaload, 1) := by decide +kernel
theorem d_MM_visit_68 : decode b_MM_visit 68 = .ok (.bipush 6, 2) := by decide +kernel
theorem d_MM_visit_70 : decode b_MM_visit 70 = .ok (.if_icmp .ne 86, 3) := by decide +kernel
theorem d_MM_visit_73 : decode b_MM_visit 73 = .ok (.iconst 0, 1) := by decide +kernel
theorem d_MM_visit_74 : decode b_MM_visit 74 = .ok (.istore_n 3, 1) := by decide +kernel
theorem d_MM_visit_75 : decode b_MM_visit 75 = .ok (.iload_n 3, 1) := by decide +kernel
theorem d_MM_visit_76 : decode b_MM_visit 76 = .ok (.aload_n 0, 1) := by decide +kernel
theorem d_MM_visit_77 : decode b_MM_visit 77 = .ok (.getfield 170, 3) := by decide +kernel
theorem d_MM_visit_80 : decode b_MM_visit 80 = .ok (.arraylength, 1) := by decide +kernel
theorem d_MM_visit_81 : decode b_MM_visit 81 = .ok (.if_icmp .ge 41, 3) := by decide +kernel
theorem d_MM_visit_84 : decode b_MM_visit 84 = .ok (.aload_n 0, 1) := by decide +kernel
theorem d_MM_visit_85 : decode b_MM_visit 85 = .ok (.getfield 20, 3) := by decide +kernel
theorem d_MM_visit_88 : decode b_MM_visit 88 = .ok (.aload_n 0, 1) := by decide +kernel
theorem d_MM_visit_89 : decode b_MM_visit 89 = .ok (.getfield 20, 3) := by decide +kernel
theorem d_MM_visit_92 : decode b_MM_visit 92 = .ok (.getfield 425, 3) := by decide +kernel
theorem d_MM_visit_95 : decode b_MM_visit 95 = .ok (.iload_n 2, 1) := by decide +kernel
theorem d_MM_visit_96 : decode b_MM_visit 96 = .ok (.iaload, 1) := by decide +kernel
theorem d_MM_visit_97 : decode b_MM_visit 97 = .ok (.aload_n 0, 1) := by decide +kernel
theorem d_MM_visit_98 : decode b_MM_visit 98 = .ok (.getfield 170, 3) := by decide +kernel
theorem d_MM_visit_101 : decode b_MM_visit 101 = .ok (.iload_n 3, 1) := by decide +kernel
theorem d_MM_visit_102 : decode b_MM_visit 102 = .ok (.aaload, 1) := by decide +kernel
theorem d_MM_visit_103 : decode b_MM_visit 103 = .ok (.invokevirtual 428, 3) := by decide +kernel
theorem d_MM_visit_106 : decode b_MM_visit 106 = .ok (.ifCond .eq 10, 3) := by decide +kernel
theorem d_MM_visit_109 : decode b_MM_visit 109 = .ok (.aload_n 0, 1) := by decide +kernel
theorem d_MM_visit_110 : decode b_MM_visit 110 = .ok (.getfield 194, 3) := by decide +kernel
theorem d_MM_visit_113 : decode b_MM_visit 113 = .ok (.iload_n 2, 1) := by decide +kernel
theorem d_MM_visit_114 : decode b_MM_visit 114 = .ok (.iload_n 3, 1) := by decide +kernel
theorem d_MM_visit_115 : decode b_MM_visit 115 = .ok (.iastore, 1) := by decide +kernel
theorem d_MM_visit_116 : decode b_MM_visit 116 = .ok (.iinc 3 1, 3) := by decide +kernel
theorem d_MM_visit_119 : decode b_MM_visit 119 = .ok (.goto (-44), 3) := by decide +kernel
theorem d_MM_visit_122 : decode b_MM_visit 122 = .ok (.aload_n 0, 1) := by decide +kernel
theorem d_MM_visit_123 : decode b_MM_visit 123 = .ok (.getfield 194, 3) := by decide +kernel
theorem d_MM_visit_126 : decode b_MM_visit 126 = .ok (.iload_n 2, 1) := by decide +kernel
theorem d_MM_visit_127 : decode b_MM_visit 127 = .ok (.iaload, 1) := by decide +kernel
theorem d_MM_visit_128 : decode b_MM_visit 128 = .ok (.ifCond .lt 15, 3) := by decide +kernel
theorem d_MM_visit_131 : decode b_MM_visit 131 = .ok (.aload_n 0, 1) := by decide +kernel
theorem d_MM_visit_132 : decode b_MM_visit 132 = .ok (.aload_n 0, 1) := by decide +kernel
theorem d_MM_visit_133 : decode b_MM_visit 133 = .ok (.getfield 194, 3) := by decide +kernel
theorem d_MM_visit_136 : decode b_MM_visit 136 = .ok (.iload_n 2, 1) := by decide +kernel
theorem d_MM_visit_137 : decode b_MM_visit 137 = .ok (.iaload, 1) := by decide +kernel
theorem d_MM_visit_138 : decode b_MM_visit 138 = .ok (.iload_n 2, 1) := by decide +kernel
theorem d_MM_visit_139 : decode b_MM_visit 139 = .ok (.iload_n 1, 1) := by decide +kernel
theorem d_MM_visit_140 : decode b_MM_visit 140 = .ok (.invokevirtual 432, 3) := by decide +kernel
theorem d_MM_visit_143 : decode b_MM_visit 143 = .ok (.aload_n 0, 1) := by decide +kernel
theorem d_MM_visit_144 : decode b_MM_visit 144 = .ok (.getfield 20, 3) := by decide +kernel
theorem d_MM_visit_147 : decode b_MM_visit 147 = .ok (.getfield 436, 3) := by decide +kernel
theorem d_MM_visit_150 : decode b_MM_visit 150 = .ok (.iload_n 2, 1) := by decide +kernel
theorem d_MM_visit_151 : decode b_MM_visit 151 = .ok (.iaload, 1) := by decide +kernel
theorem d_MM_visit_152 : decode b_MM_visit 152 = .ok (.istore_n 2, 1) := by decide +kernel
theorem d_MM_visit_153 : decode b_MM_visit 153 = .ok (.goto (-98), 3) := by decide +kernel
theorem d_MM_visit_156 : decode b_MM_visit 156 = .ok (.return_, 1) := by decide +kernel
theorem d_MM_decode_0 : decode b_MM_decode 0 = .ok (.iconst 0, 1) := by decide +kernel
theorem d_MM_decode_1 : decode b_MM_decode 1 = .ok (.istore_n 3, 1) := by decide +kernel
theorem d_MM_decode_2 : decode b_MM_decode 2 = .ok (.iload_n 1, 1) := by decide +kernel
theorem d_MM_decode_3 : decode b_MM_decode 3 = .ok (.istore 4, 2) := by decide +kernel
theorem d_MM_decode_5 : decode b_MM_decode 5 = .ok (.iload 4, 2) := by decide +kernel
theorem d_MM_decode_7 : decode b_MM_decode 7 = .ok (.iload_n 2, 1) := by decide +kernel
theorem d_MM_decode_8 : decode b_MM_decode 8 = .ok (.if_icmp .ge 372, 3) := by decide +kernel
theorem d_MM_decode_11 : decode b_MM_decode 11 = .ok (.aload_n 0, 1) := by decide +kernel
theorem d_MM_decode_12 : decode b_MM_decode 12 = .ok (.getfield 20, 3) := by decide +kernel
theorem d_MM_decode_15 : decode b_MM_decode 15 = .ok (.getfield 263, 3) := by decide +kernel
theorem d_MM_decode_18 : decode b_MM_decode 18 = .ok (.iload 4, 2) := by decide +kernel
theorem d_MM_decode_20 : decode b_MM_decode 20 = .ok (.iaload, 1) := by decide +kernel
theorem d_MM_decode_21 : decode b_MM_decode 21 = .ok (.istore 5, 2) := by decide +kernel
theorem d_MM_decode_23 : decode b_MM_decode 23 = .ok (.iload 5, 2) := by decide +kernel
theorem d_MM_decode_25 : decode b_MM_decode 25 = .ok (.bipush 37, 2) := by decide +kernel
theorem d_MM_decode_27 : decode b_MM_decode 27 = .ok (.if_icmp .ne 132, 3) := by decide +kernel
theorem d_MM_decode_30 : decode b_MM_decode 30 = .ok (.iload 4, 2) := by decide +kernel
theorem d_MM_decode_32 : decode b_MM_decode 32 = .ok (.iconst 2, 1) := by decide +kernel
theorem d_MM_decode_33 : decode b_MM_decode 33 = .ok (.iadd, 1) := by decide +kernel
theorem d_MM_decode_34 : decode b_MM_decode 34 = .ok (.iload_n 2, 1) := by decide +kernel
theorem d_MM_decode_35 : decode b_MM_decode 35 = .ok (.if_icmp .ge 124, 3) := by decide +kernel
theorem d_MM_decode_38 : decode b_MM_decode 38 = .ok (.aload_n 0, 1) := by decide +kernel
theorem d_MM_decode_39 : decode b_MM_decode 39 = .ok (.getfield 20, 3) := by decide +kernel
theorem d_MM_decode_42 : decode b_MM_decode 42 = .ok (.getfield 263, 3) := by decide +kernel
theorem d_MM_decode_45 : decode b_MM_decode 45 = .ok (.iload 4, 2) := by decide +kernel
theorem d_MM_decode_47 : decode b_MM_decode 47 = .ok (.iconst 1, 1) := by decide +kernel
theorem d_MM_decode_48 : decode b_MM_decode 48 = .ok (.iadd, 1) := by decide +kernel
theorem d_MM_decode_49 : decode b_MM_decode 49 = .ok (.iaload, 1) := by decide +kernel
theorem d_MM_decode_50 : decode b_MM_decode 50 = .ok (.invokestatic 357, 3) := by decide +kernel
theorem d_MM_decode_53 : decode b_MM_decode 53 = .ok (.ifCond .lt 106, 3) := by decide +kernel
theorem d_MM_decode_56 : decode b_MM_decode 56 = .ok (.aload_n 0, 1) := by decide +kernel
theorem d_MM_decode_57 : decode b_MM_decode 57 = .ok (.getfield 20, 3) := by decide +kernel
theorem d_MM_decode_60 : decode b_MM_decode 60 = .ok (.getfield 263, 3) := by decide +kernel
theorem d_MM_decode_63 : decode b_MM_decode 63 = .ok (.iload 4, 2) := by decide +kernel
theorem d_MM_decode_65 : decode b_MM_decode 65 = .ok (.iconst 2, 1) := by decide +kernel
theorem d_MM_decode_66 : decode b_MM_decode 66 = .ok (.iadd, 1) := by decide +kernel
theorem d_MM_decode_67 : decode b_MM_decode 67 = .ok (.iaload, 1) := by decide +kernel
theorem d_MM_decode_68 : decode b_MM_decode 68 = .ok (.invokestatic 357, 3) := by decide +kernel
theorem d_MM_decode_71 : decode b_MM_decode 71 = .ok (.ifCond .lt 88, 3) := by decide +kernel
theorem d_MM_decode_74 : decode b_MM_decode 74 = .ok (.aload_n 0, 1) := by decide +kernel
theorem d_MM_decode_75 : decode b_MM_decode 75 = .ok (.getfield 20, 3) := by decide +kernel
theorem d_MM_decode_78 : decode b_MM_decode 78 = .ok (.getfield 263, 3) := by decide +kernel
theorem d_MM_decode_81 : decode b_MM_decode 81 = .ok (.iload 4, 2) := by decide +kernel
theorem d_MM_decode_83 : decode b_MM_decode 83 = .ok (.iconst 1, 1) := by decide +kernel
theorem d_MM_decode_84 : decode b_MM_decode 84 = .ok (.iadd, 1) := by decide +kernel
theorem d_MM_decode_85 : decode b_MM_decode 85 = .ok (.iaload, 1) := by decide +kernel
theorem d_MM_decode_86 : decode b_MM_decode 86 = .ok (.sipush 128, 3) := by decide +kernel
theorem d_MM_decode_89 : decode b_MM_decode 89 = .ok (.if_icmp .ge 70, 3) := by decide +kernel
theorem d_MM_decode_92 : decode b_MM_decode 92 = .ok (.aload_n 0, 1) := by decide +kernel
theorem d_MM_decode_93 : decode b_MM_decode 93 = .ok (.getfield 20, 3) := by decide +kernel
theorem d_MM_decode_96 : decode b_MM_decode 96 = .ok (.getfield 263, 3) := by decide +kernel
theorem d_MM_decode_99 : decode b_MM_decode 99 = .ok (.iload 4, 2) := by decide +kernel
theorem d_MM_decode_101 : decode b_MM_decode 101 = .ok (.iconst 2, 1) := by decide +kernel
theorem d_MM_decode_102 : decode b_MM_decode 102 = .ok (.iadd, 1) := by decide +kernel
theorem d_MM_decode_103 : decode b_MM_decode 103 = .ok (.iaload, 1) := by decide +kernel
theorem d_MM_decode_104 : decode b_MM_decode 104 = .ok (.sipush 128, 3) := by decide +kernel
theorem d_MM_decode_107 : decode b_MM_decode 107 = .ok (.if_icmp .ge 52, 3) := by decide +kernel
theorem d_MM_decode_110 : decode b_MM_decode 110 = .ok (.aload_n 0, 1) := by decide +kernel
theorem d_MM_decode_111 : decode b_MM_decode 111 = .ok (.getfield 218, 3) := by decide +kernel
theorem d_MM_decode_114 : decode b_MM_decode 114 = .ok (.iload_n 3, 1) := by decide +kernel
theorem d_MM_decode_115 : decode b_MM_decode 115 = .ok (.iinc 3 1, 3) := by decide +kernel
theorem d_MM_decode_118 : decode b_MM_decode 118 = .ok (.bipush 16, 2) := by decide +kernel
theorem d_MM_decode_120 : decode b_MM_decode 120 = .ok (.aload_n 0, 1) := by decide +kernel
theorem d_MM_decode_121 : decode b_MM_decode 121 = .ok (.getfield 20, 3) := by decide +kernel
theorem d_MM_decode_124 : decode b_MM_decode 124 = .ok (.getfield 263, 3) := by decide +kernel
theorem d_MM_decode_127 : decode b_MM_decode 127 = .ok (.iload 4, 2) := by decide +kernel
theorem d_MM_decode_129 : decode b_MM_decode 129 = .ok (.iconst 1, 1) := by decide +kernel
theorem d_MM_decode_130 : decode b_MM_decode 130 = .ok (.iadd, 1) := by decide +kernel
theorem d_MM_decode_131 : decode b_MM_decode 131 = .ok (.iaload, 1) := by decide +kernel
theorem d_MM_decode_132 : decode b_MM_decode 132 = .ok (.invokestatic 357, 3) := by decide +kernel
theorem d_MM_decode_135 : decode b_MM_decode 135 = .ok (.imul, 1) := by decide +kernel
theorem d_MM_decode_136 : decode b_MM_decode 136 = .ok (.aload_n 0, 1) := by decide +kernel
theorem d_MM_decode_137 : decode b_MM_decode 137 = .ok (.getfield 20, 3) := by decide +kernel
theorem d_MM_decode_140 : decode b_MM_decode 140 = .ok (.getfield 263, 3) := by decide +kernel
theorem d_MM_decode_143 : decode b_MM_decode 143 = .ok (.iload 4, 2) := by decide +kernel
theorem d_MM_decode_145 : decode b_MM_decode 145 = .ok (.iconst 2, 1) := by decide +kernel
theorem d_MM_decode_146 : decode b_MM_decode 146 = .ok (.iadd, 1) := by decide +kernel
theorem d_MM_decode_147 : decode b_MM_decode 147 = .ok (.iaload, 1) := by decide +kernel
theorem d_MM_decode_148 : decode b_MM_decode 148 = .ok (.invokestatic 357, 3) := by decide +kernel
theorem d_MM_decode_151 : decode b_MM_decode 151 = .ok (.iadd, 1) := by decide +kernel
theorem d_MM_decode_152 : decode b_MM_decode 152 = .ok (.iastore, 1) := by decide +kernel
theorem d_MM_decode_153 : decode b_MM_decode 153 = .ok (.iinc 4 2, 3) := by decide +kernel
theorem d_MM_decode_156 : decode b_MM_decode 156 = .ok (.goto 218, 3) := by decide +kernel
theorem d_MM_decode_159 : decode b_MM_decode 159 = .ok (.iload 5, 2) := by decide +kernel
theorem d_MM_decode_161 : decode b_MM_decode 161 = .ok (.sipush 128, 3) := by decide +kernel
theorem d_MM_decode_164 : decode b_MM_decode 164 = .ok (.if_icmp .ge 17, 3) := by decide +kernel
theorem d_MM_decode_167 : decode b_MM_decode 167 = .ok (.aload_n 0, 1) := by decide +kernel
theorem d_MM_decode_168 : decode b_MM_decode 168 = .ok (.getfield 218, 3) := by decide +kernel
theorem d_MM_decode_171 : decode b_MM_decode 171 = .ok (.iload_n 3, 1) := by decide +kernel
theorem d_MM_decode_172 : decode b_MM_decode 172 = .ok (.iinc 3 1, 3) := by decide +kernel
theorem d_MM_decode_175 : decode b_MM_decode 175 = .ok (.iload 5, 2) := by decide +kernel
theorem d_MM_decode_177 : decode b_MM_decode 177 = .ok (.iastore, 1) := by decide +kernel
theorem d_MM_decode_178 : decode b_MM_decode 178 = .ok (.goto 196, 3) := by decide +kernel
theorem d_MM_decode_181 : decode b_MM_decode 181 = .ok (.iload 5, 2) := by decide +kernel
theorem d_MM_decode_183 : decode b_MM_decode 183 = .ok (.sipush 2048, 3) := by decide +kernel
theorem d_MM_decode_186 : decode b_MM_decode 186 = .ok (.if_icmp .ge 42, 3) := by decide +kernel
theorem d_MM_decode_189 : decode b_MM_decode 189 = .ok (.aload_n 0, 1) := by decide +kernel
theorem d_MM_decode_190 : decode b_MM_decode 190 = .ok (.getfield 218, 3) := by decide +kernel
theorem d_MM_decode_193 : decode b_MM_decode 193 = .ok (.iload_n 3, 1) := by decide +kernel
theorem d_MM_decode_194 : decode b_MM_decode 194 = .ok (.iinc 3 1, 3) := by decide +kernel
theorem d_MM_decode_197 : decode b_MM_decode 197 = .ok (.sipush 192, 3) := by decide +kernel
theorem d_MM_decode_200 : decode b_MM_decode 200 = .ok (.iload 5, 2) := by decide +kernel
theorem d_MM_decode_202 : decode b_MM_decode 202 = .ok (.bipush 6, 2) := by decide +kernel
theorem d_MM_decode_204 : decode b_MM_decode 204 = .ok (.ishr, 1) := by decide +kernel
theorem d_MM_decode_205 : decode b_MM_decode 205 = .ok (.ior, 1) := by decide +kernel
theorem d_MM_decode_206 : decode b_MM_decode 206 = .ok (.iastore, 1) := by decide +kernel
theorem d_MM_decode_207 : decode b_MM_decode 207 = .ok (.aload_n 0, 1) := by decide +kernel
theorem d_MM_decode_208 : decode b_MM_decode 208 = .ok (.getfield 218, 3) := by decide +kernel
theorem d_MM_decode_211 : decode b_MM_decode 211 = .ok (.iload_n 3, 1) := by decide +kernel
theorem d_MM_decode_212 : decode b_MM_decode 212 = .ok (.iinc 3 1, 3) := by decide +kernel
theorem d_MM_decode_215 : decode b_MM_decode 215 = .ok (.sipush 128, 3) := by decide +kernel
theorem d_MM_decode_218 : decode b_MM_decode 218 = .ok (.iload 5, 2) := by decide +kernel
theorem d_MM_decode_220 : decode b_MM_decode 220 = .ok (.bipush 63, 2) := by decide +kernel
theorem d_MM_decode_222 : decode b_MM_decode 222 = .ok (.iand, 1) := by decide +kernel
theorem d_MM_decode_223 : decode b_MM_decode 223 = .ok (.ior, 1) := by decide +kernel
theorem d_MM_decode_224 : decode b_MM_decode 224 = .ok (.iastore, 1) := by decide +kernel
theorem d_MM_decode_225 : decode b_MM_decode 225 = .ok (.goto 149, 3) := by decide +kernel
theorem d_MM_decode_228 : decode b_MM_decode 228 = .ok (.iload 5, 2) := by decide +kernel
theorem d_MM_decode_230 : decode b_MM_decode 230 = .ok (.ldc_w 488, 3) := by decide +kernel
theorem d_MM_decode_233 : decode b_MM_decode 233 = .ok (.if_icmp .ge 63, 3) := by decide +kernel
theorem d_MM_decode_236 : decode b_MM_decode 236 = .ok (.aload_n 0, 1) := by decide +kernel
theorem d_MM_decode_237 : decode b_MM_decode 237 = .ok (.getfield 218, 3) := by decide +kernel
theorem d_MM_decode_240 : decode b_MM_decode 240 = .ok (.iload_n 3, 1) := by decide +kernel
theorem d_MM_decode_241 : decode b_MM_decode 241 = .ok (.iinc 3 1, 3) := by decide +kernel
theorem d_MM_decode_244 : decode b_MM_decode 244 = .ok (.sipush 224, 3) := by decide +kernel
theorem d_MM_decode_247 : decode b_MM_decode 247 = .ok (.iload 5, 2) := by decide +kernel
theorem d_MM_decode_249 : decode b_MM_decode 249 = .ok (.bipush 12, 2) := by decide +kernel
theorem d_MM_decode_251 : decode b_MM_decode 251 = .ok (.ishr, 1) := by decide +kernel
theorem d_MM_decode_252 : decode b_MM_decode 252 = .ok (.ior, 1) := by decide +kernel
theorem d_MM_decode_253 : decode b_MM_decode 253 = .ok (.iastore, 1) := by decide +kernel
theorem d_MM_decode_254 : decode b_MM_decode 254 = .ok (.aload_n 0, 1) := by decide +kernel
theorem d_MM_decode_255 : decode b_MM_decode 255 = .ok (.getfield 218, 3) := by decide +kernel
theorem d_MM_decode_258 : decode b_MM_decode 258 = .ok (.iload_n 3, 1) := by decide +kernel
theorem d_MM_decode_259 : decode b_MM_decode 259 = .ok (.iinc 3 1, 3) := by decide +kernel
theorem d_MM_decode_262 : decode b_MM_decode 262 = .ok (.sipush 128, 3) := by decide +kernel
theorem d_MM_decode_265 : decode b_MM_decode 265 = .ok (.iload 5, 2) := by decide +kernel
theorem d_MM_decode_267 : decode b_MM_decode 267 = .ok (.bipush 6, 2) := by decide +kernel
theorem d_MM_decode_269 : decode b_MM_decode 269 = .ok (.ishr, 1) := by decide +kernel
theorem d_MM_decode_270 : decode b_MM_decode 270 = .ok (.bipush 63, 2) := by decide +kernel
theorem d_MM_decode_272 : decode b_MM_decode 272 = .ok (.iand, 1) := by decide +kernel
theorem d_MM_decode_273 : decode b_MM_decode 273 = .ok (.ior, 1) := by decide +kernel
theorem d_MM_decode_274 : decode b_MM_decode 274 = .ok (.iastore, 1) := by decide +kernel
theorem d_MM_decode_275 : decode b_MM_decode 275 = .ok (.aload_n 0, 1) := by decide +kernel
theorem d_MM_decode_276 : decode b_MM_decode 276 = .ok (.getfield 218, 3) := by decide +kernel
theorem d_MM_decode_279 : decode b_MM_decode 279 = .ok (.iload_n 3, 1) := by decide +kernel
theorem d_MM_decode_280 : decode b_MM_decode 280 = .ok (.iinc 3 1, 3) := by decide +kernel
theorem d_MM_decode_283 : decode b_MM_decode 283 = .ok (.sipush 128, 3) := by decide +kernel
theorem d_MM_decode_286 : decode b_MM_decode 286 = .ok (.iload 5, 2) := by decide +kernel
theorem d_MM_decode_288 : decode b_MM_decode 288 = .ok (.bipush 63, 2) := by decide +kernel
theorem d_MM_decode_290 : decode b_MM_decode 290 = .ok (.iand, 1) := by decide +kernel
theorem d_MM_decode_291 : decode b_MM_decode 291 = .ok (.ior, 1) := by decide +kernel
theorem d_MM_decode_292 : decode b_MM_decode 292 = .ok (.iastore, 1) := by decide +kernel
theorem d_MM_decode_293 : decode b_MM_decode 293 = .ok (.goto 81, 3) := by decide +kernel
theorem d_MM_decode_296 : decode b_MM_decode 296 = .ok (.aload_n 0, 1) := by decide +kernel
theorem d_MM_decode_297 : decode b_MM_decode 297 = .ok (.getfield 218, 3) := by decide +kernel
theorem d_MM_decode_300 : decode b_MM_decode 300 = .ok (.iload_n 3, 1) := by decide +kernel
theorem d_MM_decode_301 : decode b_MM_decode 301 = .ok (.iinc 3 1, 3) := by decide +kernel
theorem d_MM_decode_304 : decode b_MM_decode 304 = .ok (.sipush 240, 3) := by decide +kernel
theorem d_MM_decode_307 : decode b_MM_decode 307 = .ok (.iload 5, 2) := by decide +kernel
theorem d_MM_decode_309 : decode b_MM_decode 309 = .ok (.bipush 18, 2) := by decide +kernel
theorem d_MM_decode_311 : decode b_MM_decode 311 = .ok (.ishr, 1) := by decide +kernel
theorem d_MM_decode_312 : decode b_MM_decode 312 = .ok (.ior, 1) := by decide +kernel
theorem d_MM_decode_313 : decode b_MM_decode 313 = .ok (.iastore, 1) := by decide +kernel
theorem d_MM_decode_314 : decode b_MM_decode 314 = .ok (.aload_n 0, 1) := by decide +kernel
theorem d_MM_decode_315 : decode b_MM_decode 315 = .ok (.getfield 218, 3) := by decide +kernel
theorem d_MM_decode_318 : decode b_MM_decode 318 = .ok (.iload_n 3, 1) := by decide +kernel
theorem d_MM_decode_319 : decode b_MM_decode 319 = .ok (.iinc 3 1, 3) := by decide +kernel
theorem d_MM_decode_322 : decode b_MM_decode 322 = .ok (.sipush 128, 3) := by decide +kernel
theorem d_MM_decode_325 : decode b_MM_decode 325 = .ok (.iload 5, 2) := by decide +kernel
theorem d_MM_decode_327 : decode b_MM_decode 327 = .ok (.bipush 12, 2) := by decide +kernel
theorem d_MM_decode_329 : decode b_MM_decode 329 = .ok (.ishr, 1) := by decide +kernel
theorem d_MM_decode_330 : decode b_MM_decode 330 = .ok (.bipush 63, 2) := by decide +kernel
theorem d_MM_decode_332 : decode b_MM_decode 332 = .ok (.iand, 1) := by decide +kernel
theorem d_MM_decode_333 : decode b_MM_decode 333 = .ok (.ior, 1) := by decide +kernel
theorem d_MM_decode_334 : decode b_MM_decode 334 = .ok (.iastore, 1) := by decide +kernel
theorem d_MM_decode_335 : decode b_MM_decode 335 = .ok (.aload_n 0, 1) := by decide +kernel
theorem d_MM_decode_336 : decode b_MM_decode 336 = .ok (.getfield 218, 3) := by decide +kernel
theorem d_MM_decode_339 : decode b_MM_decode 339 = .ok (.iload_n 3, 1) := by decide +kernel
theorem d_MM_decode_340 : decode b_MM_decode 340 = .ok (.iinc 3 1, 3) := by decide +kernel
theorem d_MM_decode_343 : decode b_MM_decode 343 = .ok (.sipush 128, 3) := by decide +kernel
theorem d_MM_decode_346 : decode b_MM_decode 346 = .ok (.iload 5, 2) := by decide +kernel
theorem d_MM_decode_348 : decode b_MM_decode 348 = .ok (.bipush 6, 2) := by decide +kernel
theorem d_MM_decode_350 : decode b_MM_decode 350 = .ok (.ishr, 1) := by decide +kernel
theorem d_MM_decode_351 : decode b_MM_decode 351 = .ok (.bipush 63, 2) := by decide +kernel
theorem d_MM_decode_353 : decode b_MM_decode 353 = .ok (.iand, 1) := by decide +kernel
theorem d_MM_decode_354 : decode b_MM_decode 354 = .ok (.ior, 1) := by decide +kernel
theorem d_MM_decode_355 : decode b_MM_decode 355 = .ok (.iastore, 1) := by decide +kernel
theorem d_MM_decode_356 : decode b_MM_decode 356 = .ok (.aload_n 0, 1) := by decide +kernel
theorem d_MM_decode_357 : decode b_MM_decode 357 = .ok (.getfield 218, 3) := by decide +kernel
theorem d_MM_decode_360 : decode b_MM_decode 360 = .ok (.iload_n 3, 1) := by decide +kernel
theorem d_MM_decode_361 : decode b_MM_decode 361 = .ok (.iinc 3 1, 3) := by decide +kernel
theorem d_MM_decode_364 : decode b_MM_decode 364 = .ok (.sipush 128, 3) := by decide +kernel
theorem d_MM_decode_367 : decode b_MM_decode 367 = .ok (.iload 5, 2) := by decide +kernel
theorem d_MM_decode_369 : decode b_MM_decode 369 = .ok (.bipush 63, 2) := by decide +kernel
theorem d_MM_decode_371 : decode b_MM_decode 371 = .ok (.iand, 1) := by decide +kernel
theorem d_MM_decode_372 : decode b_MM_decode 372 = .ok (.ior, 1) := by decide +kernel
theorem d_MM_decode_373 : decode b_MM_decode 373 = .ok (.iastore, 1) := by decide +kernel
theorem d_MM_decode_374 : decode b_MM_decode 374 = .ok (.iinc 4 1, 3) := by decide +kernel
theorem d_MM_decode_377 : decode b_MM_decode 377 = .ok (.goto (-372), 3) := by decide +kernel
theorem d_MM_decode_380 : decode b_MM_decode 380 = .ok (.aload_n 0, 1) := by decide +kernel
theorem d_MM_decode_381 : decode b_MM_decode 381 = .ok (.iconst 0, 1) := by decide +kernel
theorem d_MM_decode_382 : decode b_MM_decode 382 = .ok (.putfield 482, 3) := by decide +kernel
theorem d_MM_decode_385 : decode b_MM_decode 385 = .ok (.iconst 0, 1) := by decide +kernel
theorem d_MM_decode_386 : decode b_MM_decode 386 = .ok (.istore 4, 2) := by decide +kernel
theorem d_MM_decode_388 : decode b_MM_decode 388 = .ok (.iload 4, 2) := by decide +kernel
theorem d_MM_decode_390 : decode b_MM_decode 390 = .ok (.iload_n 3, 1) := by decide +kernel
theorem d_MM_decode_391 : decode b_MM_decode 391 = .ok (.if_icmp .ge 288, 3) := by decide +kernel
theorem d_MM_decode_394 : decode b_MM_decode 394 = .ok (.aload_n 0, 1) := by decide +kernel
theorem d_MM_decode_395 : decode b_MM_decode 395 = .ok (.getfield 218, 3) := by decide +kernel
theorem d_MM_decode_398 : decode b_MM_decode 398 = .ok (.iload 4, 2) := by decide +kernel
theorem d_MM_decode_400 : decode b_MM_decode 400 = .ok (.iaload, 1) := by decide +kernel
theorem d_MM_decode_401 : decode b_MM_decode 401 = .ok (.istore 5, 2) := by decide +kernel
theorem d_MM_decode_403 : decode b_MM_decode 403 = .ok (.iload 5, 2) := by decide +kernel
theorem d_MM_decode_405 : decode b_MM_decode 405 = .ok (.sipush 128, 3) := by decide +kernel
theorem d_MM_decode_408 : decode b_MM_decode 408 = .ok (.if_icmp .ge 7, 3) := by decide +kernel
theorem d_MM_decode_411 : decode b_MM_decode 411 = .ok (.iconst 0, 1) := by decide +kernel
theorem d_MM_decode_412 : decode b_MM_decode 412 = .ok (.goto 64, 3) := by decide +kernel
