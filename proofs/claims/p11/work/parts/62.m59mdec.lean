theorem d_MM_sort_222 : decode b_MM_sort 222 = .ok (.return_, 1) := by decide +kernel
theorem d_MM_validate_0 : decode b_MM_validate 0 = .ok (.aload_n 0, 1) := by decide +kernel
theorem d_MM_validate_1 : decode b_MM_validate 1 = .ok (.iconst 0, 1) := by decide +kernel
theorem d_MM_validate_2 : decode b_MM_validate 2 = .ok (.putfield 230, 3) := by decide +kernel
theorem d_MM_validate_5 : decode b_MM_validate 5 = .ok (.aload_n 0, 1) := by decide +kernel
theorem d_MM_validate_6 : decode b_MM_validate 6 = .ok (.aload_n 0, 1) := by decide +kernel
theorem d_MM_validate_7 : decode b_MM_validate 7 = .ok (.getfield 24, 3) := by decide +kernel
theorem d_MM_validate_10 : decode b_MM_validate 10 = .ok (.getfield 251, 3) := by decide +kernel
theorem d_MM_validate_13 : decode b_MM_validate 13 = .ok (.ifCond .eq 20, 3) := by decide +kernel
theorem d_MM_validate_16 : decode b_MM_validate 16 = .ok (.aload_n 0, 1) := by decide +kernel
theorem d_MM_validate_17 : decode b_MM_validate 17 = .ok (.getfield 20, 3) := by decide +kernel
theorem d_MM_validate_20 : decode b_MM_validate 20 = .ok (.getfield 251, 3) := by decide +kernel
theorem d_MM_validate_23 : decode b_MM_validate 23 = .ok (.ifCond .eq 10, 3) := by decide +kernel
theorem d_MM_validate_26 : decode b_MM_validate 26 = .ok (.aload_n 0, 1) := by decide +kernel
theorem d_MM_validate_27 : decode b_MM_validate 27 = .ok (.getfield 243, 3) := by decide +kernel
theorem d_MM_validate_30 : decode b_MM_validate 30 = .ok (.ifCond .ne 7, 3) := by decide +kernel
theorem d_MM_validate_33 : decode b_MM_validate 33 = .ok (.iconst 1, 1) := by decide +kernel
theorem d_MM_validate_34 : decode b_MM_validate 34 = .ok (.goto 4, 3) := by decide +kernel
theorem d_MM_validate_37 : decode b_MM_validate 37 = .ok (.iconst 0, 1) := by decide +kernel
theorem d_MM_validate_38 : decode b_MM_validate 38 = .ok (.iconst 1, 1) := by decide +kernel
theorem d_MM_validate_39 : decode b_MM_validate 39 = .ok (.invokevirtual 236, 3) := by decide +kernel
theorem d_MM_validate_42 : decode b_MM_validate 42 = .ok (.ifCond .eq 5, 3) := by decide +kernel
theorem d_MM_validate_45 : decode b_MM_validate 45 = .ok (.iconst 0, 1) := by decide +kernel
theorem d_MM_validate_46 : decode b_MM_validate 46 = .ok (.ireturn, 1) := by decide +kernel
theorem d_MM_validate_47 : decode b_MM_validate 47 = .ok (.aload_n 0, 1) := by decide +kernel
theorem d_MM_validate_48 : decode b_MM_validate 48 = .ok (.iconst 0, 1) := by decide +kernel
theorem d_MM_validate_49 : decode b_MM_validate 49 = .ok (.putfield 494, 3) := by decide +kernel
theorem d_MM_validate_52 : decode b_MM_validate 52 = .ok (.aload_n 0, 1) := by decide +kernel
theorem d_MM_validate_53 : decode b_MM_validate 53 = .ok (.iconst 0, 1) := by decide +kernel
theorem d_MM_validate_54 : decode b_MM_validate 54 = .ok (.putfield 497, 3) := by decide +kernel
theorem d_MM_validate_57 : decode b_MM_validate 57 = .ok (.aload_n 0, 1) := by decide +kernel
theorem d_MM_validate_58 : decode b_MM_validate 58 = .ok (.iconst 0, 1) := by decide +kernel
theorem d_MM_validate_59 : decode b_MM_validate 59 = .ok (.putfield 500, 3) := by decide +kernel
theorem d_MM_validate_62 : decode b_MM_validate 62 = .ok (.aload_n 0, 1) := by decide +kernel
theorem d_MM_validate_63 : decode b_MM_validate 63 = .ok (.iconst 0, 1) := by decide +kernel
theorem d_MM_validate_64 : decode b_MM_validate 64 = .ok (.putfield 503, 3) := by decide +kernel
theorem d_MM_validate_67 : decode b_MM_validate 67 = .ok (.aload_n 0, 1) := by decide +kernel
theorem d_MM_validate_68 : decode b_MM_validate 68 = .ok (.iconst 0, 1) := by decide +kernel
theorem d_MM_validate_69 : decode b_MM_validate 69 = .ok (.putfield 506, 3) := by decide +kernel
theorem d_MM_validate_72 : decode b_MM_validate 72 = .ok (.aload_n 0, 1) := by decide +kernel
theorem d_MM_validate_73 : decode b_MM_validate 73 = .ok (.iconst 0, 1) := by decide +kernel
theorem d_MM_validate_74 : decode b_MM_validate 74 = .ok (.iconst 0, 1) := by decide +kernel
theorem d_MM_validate_75 : decode b_MM_validate 75 = .ok (.invokevirtual 509, 3) := by decide +kernel
theorem d_MM_validate_78 : decode b_MM_validate 78 = .ok (.istore_n 1, 1) := by decide +kernel
theorem d_MM_validate_79 : decode b_MM_validate 79 = .ok (.aload_n 0, 1) := by decide +kernel
theorem d_MM_validate_80 : decode b_MM_validate 80 = .ok (.getfield 506, 3) := by decide +kernel
theorem d_MM_validate_83 : decode b_MM_validate 83 = .ok (.ifCond .eq 8, 3) := by decide +kernel
theorem d_MM_validate_86 : decode b_MM_validate 86 = .ok (.aload_n 0, 1) := by decide +kernel
theorem d_MM_validate_87 : decode b_MM_validate 87 = .ok (.iconst 0, 1) := by decide +kernel
theorem d_MM_validate_88 : decode b_MM_validate 88 = .ok (.putfield 494, 3) := by decide +kernel
theorem d_MM_validate_91 : decode b_MM_validate 91 = .ok (.aload_n 0, 1) := by decide +kernel
theorem d_MM_validate_92 : decode b_MM_validate 92 = .ok (.aload_n 0, 1) := by decide +kernel
theorem d_MM_validate_93 : decode b_MM_validate 93 = .ok (.getfield 506, 3) := by decide +kernel
theorem d_MM_validate_96 : decode b_MM_validate 96 = .ok (.iconst 2, 1) := by decide +kernel
theorem d_MM_validate_97 : decode b_MM_validate 97 = .ok (.invokevirtual 236, 3) := by decide +kernel
theorem d_MM_validate_100 : decode b_MM_validate 100 = .ok (.ifCond .eq 5, 3) := by decide +kernel
theorem d_MM_validate_103 : decode b_MM_validate 103 = .ok (.iconst 0, 1) := by decide +kernel
theorem d_MM_validate_104 : decode b_MM_validate 104 = .ok (.ireturn, 1) := by decide +kernel
theorem d_MM_validate_105 : decode b_MM_validate 105 = .ok (.aload_n 0, 1) := by decide +kernel
theorem d_MM_validate_106 : decode b_MM_validate 106 = .ok (.invokevirtual 512, 3) := by decide +kernel
theorem d_MM_validate_109 : decode b_MM_validate 109 = .ok (.iload_n 1, 1) := by decide +kernel
theorem d_MM_validate_110 : decode b_MM_validate 110 = .ok (.ireturn, 1) := by decide +kernel
theorem d_MM_pairs_0 : decode b_MM_pairs 0 = .ok (.aload_n 0, 1) := by decide +kernel
theorem d_MM_pairs_1 : decode b_MM_pairs 1 = .ok (.iconst 0, 1) := by decide +kernel
theorem d_MM_pairs_2 : decode b_MM_pairs 2 = .ok (.putfield 230, 3) := by decide +kernel
theorem d_MM_pairs_5 : decode b_MM_pairs 5 = .ok (.aload_n 0, 1) := by decide +kernel
theorem d_MM_pairs_6 : decode b_MM_pairs 6 = .ok (.getfield 494, 3) := by decide +kernel
theorem d_MM_pairs_9 : decode b_MM_pairs 9 = .ok (.ireturn, 1) := by decide +kernel
theorem d_MM_pair_1_0 : decode b_MM_pair_1 0 = .ok (.aload_n 0, 1) := by decide +kernel
theorem d_MM_pair_1_1 : decode b_MM_pair_1 1 = .ok (.iconst 0, 1) := by decide +kernel
theorem d_MM_pair_1_2 : decode b_MM_pair_1 2 = .ok (.putfield 230, 3) := by decide +kernel
theorem d_MM_pair_1_5 : decode b_MM_pair_1 5 = .ok (.aload_n 0, 1) := by decide +kernel
theorem d_MM_pair_1_6 : decode b_MM_pair_1 6 = .ok (.iload_n 1, 1) := by decide +kernel
theorem d_MM_pair_1_7 : decode b_MM_pair_1 7 = .ok (.iconst 0, 1) := by decide +kernel
theorem d_MM_pair_1_8 : decode b_MM_pair_1 8 = .ok (.aload_n 0, 1) := by decide +kernel
theorem d_MM_pair_1_9 : decode b_MM_pair_1 9 = .ok (.getfield 494, 3) := by decide +kernel
theorem d_MM_pair_1_12 : decode b_MM_pair_1 12 = .ok (.iconst 1, 1) := by decide +kernel
theorem d_MM_pair_1_13 : decode b_MM_pair_1 13 = .ok (.isub, 1) := by decide +kernel
theorem d_MM_pair_1_14 : decode b_MM_pair_1 14 = .ok (.invokestatic 344, 3) := by decide +kernel
theorem d_MM_pair_1_17 : decode b_MM_pair_1 17 = .ok (.ifCond .ne 7, 3) := by decide +kernel
theorem d_MM_pair_1_20 : decode b_MM_pair_1 20 = .ok (.iconst 1, 1) := by decide +kernel
theorem d_MM_pair_1_21 : decode b_MM_pair_1 21 = .ok (.goto 4, 3) := by decide +kernel
theorem d_MM_pair_1_24 : decode b_MM_pair_1 24 = .ok (.iconst 0, 1) := by decide +kernel
theorem d_MM_pair_1_25 : decode b_MM_pair_1 25 = .ok (.iconst 1, 1) := by decide +kernel
theorem d_MM_pair_1_26 : decode b_MM_pair_1 26 = .ok (.invokevirtual 236, 3) := by decide +kernel
theorem d_MM_pair_1_29 : decode b_MM_pair_1 29 = .ok (.ifCond .eq 5, 3) := by decide +kernel
theorem d_MM_pair_1_32 : decode b_MM_pair_1 32 = .ok (.iconst 0, 1) := by decide +kernel
theorem d_MM_pair_1_33 : decode b_MM_pair_1 33 = .ok (.ireturn, 1) := by decide +kernel
theorem d_MM_pair_1_34 : decode b_MM_pair_1 34 = .ok (.iload_n 2, 1) := by decide +kernel
theorem d_MM_pair_1_35 : decode b_MM_pair_1 35 = .ok (.ifCond .eq 12, 3) := by decide +kernel
theorem d_MM_pair_1_38 : decode b_MM_pair_1 38 = .ok (.aload_n 0, 1) := by decide +kernel
theorem d_MM_pair_1_39 : decode b_MM_pair_1 39 = .ok (.getfield 227, 3) := by decide +kernel
theorem d_MM_pair_1_42 : decode b_MM_pair_1 42 = .ok (.iload_n 1, 1) := by decide +kernel
theorem d_MM_pair_1_43 : decode b_MM_pair_1 43 = .ok (.iaload, 1) := by decide +kernel
theorem d_MM_pair_1_44 : decode b_MM_pair_1 44 = .ok (.goto 9, 3) := by decide +kernel
theorem d_MM_pair_1_47 : decode b_MM_pair_1 47 = .ok (.aload_n 0, 1) := by decide +kernel
theorem d_MM_pair_1_48 : decode b_MM_pair_1 48 = .ok (.getfield 224, 3) := by decide +kernel
theorem d_MM_pair_1_51 : decode b_MM_pair_1 51 = .ok (.iload_n 1, 1) := by decide +kernel
theorem d_MM_pair_1_52 : decode b_MM_pair_1 52 = .ok (.iaload, 1) := by decide +kernel
theorem d_MM_pair_1_53 : decode b_MM_pair_1 53 = .ok (.ireturn, 1) := by decide +kernel
theorem d_MM_value_0 : decode b_MM_value 0 = .ok (.aload_n 0, 1) := by decide +kernel
theorem d_MM_value_1 : decode b_MM_value 1 = .ok (.iconst 0, 1) := by decide +kernel
theorem d_MM_value_2 : decode b_MM_value 2 = .ok (.putfield 230, 3) := by decide +kernel
theorem d_MM_value_5 : decode b_MM_value 5 = .ok (.iload_n 1, 1) := by decide +kernel
theorem d_MM_value_6 : decode b_MM_value 6 = .ok (.ifCond .eq 10, 3) := by decide +kernel
theorem d_MM_value_9 : decode b_MM_value 9 = .ok (.aload_n 0, 1) := by decide +kernel
theorem d_MM_value_10 : decode b_MM_value 10 = .ok (.getfield 20, 3) := by decide +kernel
theorem d_MM_value_13 : decode b_MM_value 13 = .ok (.goto 7, 3) := by decide +kernel
theorem d_MM_value_16 : decode b_MM_value 16 = .ok (.aload_n 0, 1) := by decide +kernel
theorem d_MM_value_17 : decode b_MM_value 17 = .ok (.getfield 24, 3) := by decide +kernel
theorem d_MM_value_20 : decode b_MM_value 20 = .ok (.astore 4, 2) := by decide +kernel
theorem d_MM_value_22 : decode b_MM_value 22 = .ok (.aload_n 0, 1) := by decide +kernel
theorem d_MM_value_23 : decode b_MM_value 23 = .ok (.iload_n 3, 1) := by decide +kernel
theorem d_MM_value_24 : decode b_MM_value 24 = .ok (.iconst 0, 1) := by decide +kernel
theorem d_MM_value_25 : decode b_MM_value 25 = .ok (.iconst 4, 1) := by decide +kernel
theorem d_MM_value_26 : decode b_MM_value 26 = .ok (.invokestatic 344, 3) := by decide +kernel
theorem d_MM_value_29 : decode b_MM_value 29 = .ok (.ifCond .ne 7, 3) := by decide +kernel
theorem d_MM_value_32 : decode b_MM_value 32 = .ok (.iconst 1, 1) := by decide +kernel
theorem d_MM_value_33 : decode b_MM_value 33 = .ok (.goto 4, 3) := by decide +kernel
theorem d_MM_value_36 : decode b_MM_value 36 = .ok (.iconst 0, 1) := by decide +kernel
theorem d_MM_value_37 : decode b_MM_value 37 = .ok (.iconst 1, 1) := by decide +kernel
theorem d_MM_value_38 : decode b_MM_value 38 = .ok (.invokevirtual 236, 3) := by decide +kernel
theorem d_MM_value_41 : decode b_MM_value 41 = .ok (.ifCond .ne 31, 3) := by decide +kernel
theorem d_MM_value_44 : decode b_MM_value 44 = .ok (.aload_n 0, 1) := by decide +kernel
theorem d_MM_value_45 : decode b_MM_value 45 = .ok (.iload_n 2, 1) := by decide +kernel
theorem d_MM_value_46 : decode b_MM_value 46 = .ok (.iconst 0, 1) := by decide +kernel
theorem d_MM_value_47 : decode b_MM_value 47 = .ok (.aload 4, 2) := by decide +kernel
theorem d_MM_value_49 : decode b_MM_value 49 = .ok (.getfield 251, 3) := by decide +kernel
theorem d_MM_value_52 : decode b_MM_value 52 = .ok (.iconst 1, 1) := by decide +kernel
theorem d_MM_value_53 : decode b_MM_value 53 = .ok (.isub, 1) := by decide +kernel
theorem d_MM_value_54 : decode b_MM_value 54 = .ok (.invokestatic 344, 3) := by decide +kernel
theorem d_MM_value_57 : decode b_MM_value 57 = .ok (.ifCond .ne 7, 3) := by decide +kernel
theorem d_MM_value_60 : decode b_MM_value 60 = .ok (.iconst 1, 1) := by decide +kernel
theorem d_MM_value_61 : decode b_MM_value 61 = .ok (.goto 4, 3) := by decide +kernel
theorem d_MM_value_64 : decode b_MM_value 64 = .ok (.iconst 0, 1) := by decide +kernel
theorem d_MM_value_65 : decode b_MM_value 65 = .ok (.iconst 2, 1) := by decide +kernel
theorem d_MM_value_66 : decode b_MM_value 66 = .ok (.invokevirtual 236, 3) := by decide +kernel
theorem d_MM_value_69 : decode b_MM_value 69 = .ok (.ifCond .eq 5, 3) := by decide +kernel
theorem d_MM_value_72 : decode b_MM_value 72 = .ok (.iconst 0, 1) := by decide +kernel
theorem d_MM_value_73 : decode b_MM_value 73 = .ok (.ireturn, 1) := by decide +kernel
theorem d_MM_value_74 : decode b_MM_value 74 = .ok (.iload_n 3, 1) := by decide +kernel
theorem d_MM_value_75 : decode b_MM_value 75 = .ok (.ifCond .ne 13, 3) := by decide +kernel
theorem d_MM_value_78 : decode b_MM_value 78 = .ok (.aload 4, 2) := by decide +kernel
theorem d_MM_value_80 : decode b_MM_value 80 = .ok (.getfield 419, 3) := by decide +kernel
theorem d_MM_value_83 : decode b_MM_value 83 = .ok (.iload_n 2, 1) := by decide +kernel
theorem d_MM_value_84 : decode b_MM_value 84 = .ok (.iaload, 1) := by decide +kernel
theorem d_MM_value_85 : decode b_MM_value 85 = .ok (.goto 55, 3) := by decide +kernel
theorem d_MM_value_88 : decode b_MM_value 88 = .ok (.iload_n 3, 1) := by decide +kernel
theorem d_MM_value_89 : decode b_MM_value 89 = .ok (.iconst 1, 1) := by decide +kernel
theorem d_MM_value_90 : decode b_MM_value 90 = .ok (.if_icmp .ne 13, 3) := by decide +kernel
theorem d_MM_value_93 : decode b_MM_value 93 = .ok (.aload 4, 2) := by decide +kernel
theorem d_MM_value_95 : decode b_MM_value 95 = .ok (.getfield 577, 3) := by decide +kernel
theorem d_MM_value_98 : decode b_MM_value 98 = .ok (.iload_n 2, 1) := by decide +kernel
theorem d_MM_value_99 : decode b_MM_value 99 = .ok (.iaload, 1) := by decide +kernel
theorem d_MM_value_100 : decode b_MM_value 100 = .ok (.goto 40, 3) := by decide +kernel
theorem d_MM_value_103 : decode b_MM_value 103 = .ok (.iload_n 3, 1) := by decide +kernel
theorem d_MM_value_104 : decode b_MM_value 104 = .ok (.iconst 2, 1) := by decide +kernel
theorem d_MM_value_105 : decode b_MM_value 105 = .ok (.if_icmp .ne 13, 3) := by decide +kernel
theorem d_MM_value_108 : decode b_MM_value 108 = .ok (.aload 4, 2) := by decide +kernel
theorem d_MM_value_110 : decode b_MM_value 110 = .ok (.getfield 272, 3) := by decide +kernel
theorem d_MM_value_113 : decode b_MM_value 113 = .ok (.iload_n 2, 1) := by decide +kernel
theorem d_MM_value_114 : decode b_MM_value 114 = .ok (.iaload, 1) := by decide +kernel
theorem d_MM_value_115 : decode b_MM_value 115 = .ok (.goto 25, 3) := by decide +kernel
theorem d_MM_value_118 : decode b_MM_value 118 = .ok (.iload_n 3, 1) := by decide +kernel
theorem d_MM_value_119 : decode b_MM_value 119 = .ok (.iconst 3, 1) := by decide +kernel
theorem d_MM_value_120 : decode b_MM_value 120 = .ok (.if_icmp .ne 13, 3) := by decide +kernel
theorem d_MM_value_123 : decode b_MM_value 123 = .ok (.aload 4, 2) := by decide +kernel
theorem d_MM_value_125 : decode b_MM_value 125 = .ok (.getfield 406, 3) := by decide +kernel
theorem d_MM_value_128 : decode b_MM_value 128 = .ok (.iload_n 2, 1) := by decide +kernel
theorem d_MM_value_129 : decode b_MM_value 129 = .ok (.iaload, 1) := by decide +kernel
theorem d_MM_value_130 : decode b_MM_value 130 = .ok (.goto 10, 3) := by decide +kernel
theorem d_MM_value_133 : decode b_MM_value 133 = .ok (.aload 4, 2) := by decide +kernel
theorem d_MM_value_135 : decode b_MM_value 135 = .ok (.getfield 461, 3) := by decide +kernel
theorem d_MM_value_138 : decode b_MM_value 138 = .ok (.iload_n 2, 1) := by decide +kernel
theorem d_MM_value_139 : decode b_MM_value 139 = .ok (.iaload, 1) := by decide +kernel
theorem d_MM_value_140 : decode b_MM_value 140 = .ok (.ireturn, 1) := by decide +kernel
theorem d_MM_alike_0 : decode b_MM_alike 0 = .ok (.aload_n 0, 1) := by decide +kernel
theorem d_MM_alike_1 : decode b_MM_alike 1 = .ok (.iconst 0, 1) := by decide +kernel
theorem d_MM_alike_2 : decode b_MM_alike 2 = .ok (.putfield 230, 3) := by decide +kernel
theorem d_MM_alike_5 : decode b_MM_alike 5 = .ok (.aload_n 0, 1) := by decide +kernel
theorem d_MM_alike_6 : decode b_MM_alike 6 = .ok (.iload_n 1, 1) := by decide +kernel
theorem d_MM_alike_7 : decode b_MM_alike 7 = .ok (.iconst 0, 1) := by decide +kernel
theorem d_MM_alike_8 : decode b_MM_alike 8 = .ok (.aload_n 0, 1) := by decide +kernel
theorem d_MM_alike_9 : decode b_MM_alike 9 = .ok (.getfield 24, 3) := by decide +kernel
theorem d_MM_alike_12 : decode b_MM_alike 12 = .ok (.getfield 251, 3) := by decide +kernel
theorem d_MM_alike_15 : decode b_MM_alike 15 = .ok (.iconst 1, 1) := by decide +kernel
theorem d_MM_alike_16 : decode b_MM_alike 16 = .ok (.isub, 1) := by decide +kernel
theorem d_MM_alike_17 : decode b_MM_alike 17 = .ok (.invokestatic 344, 3) := by decide +kernel
theorem d_MM_alike_20 : decode b_MM_alike 20 = .ok (.ifCond .eq 20, 3) := by decide +kernel
theorem d_MM_alike_23 : decode b_MM_alike 23 = .ok (.iload_n 2, 1) := by decide +kernel
theorem d_MM_alike_24 : decode b_MM_alike 24 = .ok (.iconst 0, 1) := by decide +kernel
theorem d_MM_alike_25 : decode b_MM_alike 25 = .ok (.aload_n 0, 1) := by decide +kernel
theorem d_MM_alike_26 : decode b_MM_alike 26 = .ok (.getfield 24, 3) := by decide +kernel
theorem d_MM_alike_29 : decode b_MM_alike 29 = .ok (.getfield 251, 3) := by decide +kernel
theorem d_MM_alike_32 : decode b_MM_alike 32 = .ok (.iconst 1, 1) := by decide +kernel
theorem d_MM_alike_33 : decode b_MM_alike 33 = .ok (.isub, 1) := by decide +kernel
theorem d_MM_alike_34 : decode b_MM_alike 34 = .ok (.invokestatic 344, 3) := by decide +kernel
theorem d_MM_alike_37 : decode b_MM_alike 37 = .ok (.ifCond .ne 7, 3) := by decide +kernel
theorem d_MM_alike_40 : decode b_MM_alike 40 = .ok (.iconst 1, 1) := by decide +kernel
theorem d_MM_alike_41 : decode b_MM_alike 41 = .ok (.goto 4, 3) := by decide +kernel
theorem d_MM_alike_44 : decode b_MM_alike 44 = .ok (.iconst 0, 1) := by decide +kernel
theorem d_MM_alike_45 : decode b_MM_alike 45 = .ok (.iconst 1, 1) := by decide +kernel
theorem d_MM_alike_46 : decode b_MM_alike 46 = .ok (.invokevirtual 236, 3) := by decide +kernel
theorem d_MM_alike_49 : decode b_MM_alike 49 = .ok (.ifCond .eq 5, 3) := by decide +kernel
theorem d_MM_alike_52 : decode b_MM_alike 52 = .ok (.iconst 0, 1) := by decide +kernel
theorem d_MM_alike_53 : decode b_MM_alike 53 = .ok (.ireturn, 1) := by decide +kernel
theorem d_MM_alike_54 : decode b_MM_alike 54 = .ok (.aload_n 0, 1) := by decide +kernel
theorem d_MM_alike_55 : decode b_MM_alike 55 = .ok (.getfield 24, 3) := by decide +kernel
theorem d_MM_alike_58 : decode b_MM_alike 58 = .ok (.iload_n 1, 1) := by decide +kernel
theorem d_MM_alike_59 : decode b_MM_alike 59 = .ok (.aload_n 0, 1) := by decide +kernel
theorem d_MM_alike_60 : decode b_MM_alike 60 = .ok (.getfield 24, 3) := by decide +kernel
theorem d_MM_alike_63 : decode b_MM_alike 63 = .ok (.iload_n 2, 1) := by decide +kernel
theorem d_MM_alike_64 : decode b_MM_alike 64 = .ok (.invokevirtual 540, 3) := by decide +kernel
theorem d_MM_alike_67 : decode b_MM_alike 67 = .ok (.ireturn, 1) := by decide +kernel
theorem d_MM_matches_1_0 : decode b_MM_matches_1 0 = .ok (.aload_n 0, 1) := by decide +kernel
theorem d_MM_matches_1_1 : decode b_MM_matches_1 1 = .ok (.iconst 0, 1) := by decide +kernel
theorem d_MM_matches_1_2 : decode b_MM_matches_1 2 = .ok (.putfield 230, 3) := by decide +kernel
theorem d_MM_matches_1_5 : decode b_MM_matches_1 5 = .ok (.aload_n 0, 1) := by decide +kernel
theorem d_MM_matches_1_6 : decode b_MM_matches_1 6 = .ok (.iload_n 1, 1) := by decide +kernel
theorem d_MM_matches_1_7 : decode b_MM_matches_1 7 = .ok (.iconst 0, 1) := by decide +kernel
theorem d_MM_matches_1_8 : decode b_MM_matches_1 8 = .ok (.aload_n 0, 1) := by decide +kernel
theorem d_MM_matches_1_9 : decode b_MM_matches_1 9 = .ok (.getfield 24, 3) := by decide +kernel
theorem d_MM_matches_1_12 : decode b_MM_matches_1 12 = .ok (.getfield 251, 3) := by decide +kernel
theorem d_MM_matches_1_15 : decode b_MM_matches_1 15 = .ok (.iconst 1, 1) := by decide +kernel
theorem d_MM_matches_1_16 : decode b_MM_matches_1 16 = .ok (.isub, 1) := by decide +kernel
theorem d_MM_matches_1_17 : decode b_MM_matches_1 17 = .ok (.invokestatic 344, 3) := by decide +kernel
theorem d_MM_matches_1_20 : decode b_MM_matches_1 20 = .ok (.ifCond .eq 20, 3) := by decide +kernel
theorem d_MM_matches_1_23 : decode b_MM_matches_1 23 = .ok (.iload_n 2, 1) := by decide +kernel
theorem d_MM_matches_1_24 : decode b_MM_matches_1 24 = .ok (.iconst 0, 1) := by decide +kernel
theorem d_MM_matches_1_25 : decode b_MM_matches_1 25 = .ok (.aload_n 0, 1) := by decide +kernel
theorem d_MM_matches_1_26 : decode b_MM_matches_1 26 = .ok (.getfield 24, 3) := by decide +kernel
theorem d_MM_matches_1_29 : decode b_MM_matches_1 29 = .ok (.getfield 251, 3) := by decide +kernel
theorem d_MM_matches_1_32 : decode b_MM_matches_1 32 = .ok (.iconst 1, 1) := by decide +kernel
theorem d_MM_matches_1_33 : decode b_MM_matches_1 33 = .ok (.isub, 1) := by decide +kernel
theorem d_MM_matches_1_34 : decode b_MM_matches_1 34 = .ok (.invokestatic 344, 3) := by decide +kernel
theorem d_MM_matches_1_37 : decode b_MM_matches_1 37 = .ok (.ifCond .ne 7, 3) := by decide +kernel
theorem d_MM_matches_1_40 : decode b_MM_matches_1 40 = .ok (.iconst 1, 1) := by decide +kernel
theorem d_MM_matches_1_41 : decode b_MM_matches_1 41 = .ok (.goto 4, 3) := by decide +kernel
theorem d_MM_matches_1_44 : decode b_MM_matches_1 44 = .ok (.iconst 0, 1) := by decide +kernel
theorem d_MM_matches_1_45 : decode b_MM_matches_1 45 = .ok (.iconst 1, 1) := by decide +kernel
theorem d_MM_matches_1_46 : decode b_MM_matches_1 46 = .ok (.invokevirtual 236, 3) := by decide +kernel
theorem d_MM_matches_1_49 : decode b_MM_matches_1 49 = .ok (.ifCond .ne 54, 3) := by decide +kernel
theorem d_MM_matches_1_52 : decode b_MM_matches_1 52 = .ok (.aload_n 0, 1) := by decide +kernel
theorem d_MM_matches_1_53 : decode b_MM_matches_1 53 = .ok (.aload_n 0, 1) := by decide +kernel
theorem d_MM_matches_1_54 : decode b_MM_matches_1 54 = .ok (.getfield 24, 3) := by decide +kernel
theorem d_MM_matches_1_57 : decode b_MM_matches_1 57 = .ok (.getfield 419, 3) := by decide +kernel
theorem d_MM_matches_1_60 : decode b_MM_matches_1 60 = .ok (.iload_n 1, 1) := by decide +kernel
theorem d_MM_matches_1_61 : decode b_MM_matches_1 61 = .ok (.iaload, 1) := by decide +kernel
theorem d_MM_matches_1_62 : decode b_MM_matches_1 62 = .ok (.iconst 4, 1) := by decide +kernel
theorem d_MM_matches_1_63 : decode b_MM_matches_1 63 = .ok (.if_icmp .ne 28, 3) := by decide +kernel
theorem d_MM_matches_1_66 : decode b_MM_matches_1 66 = .ok (.aload_n 0, 1) := by decide +kernel
theorem d_MM_matches_1_67 : decode b_MM_matches_1 67 = .ok (.getfield 24, 3) := by decide +kernel
theorem d_MM_matches_1_70 : decode b_MM_matches_1 70 = .ok (.getfield 419, 3) := by decide +kernel
theorem d_MM_matches_1_73 : decode b_MM_matches_1 73 = .ok (.iload_n 2, 1) := by decide +kernel
theorem d_MM_matches_1_74 : decode b_MM_matches_1 74 = .ok (.iaload, 1) := by decide +kernel
theorem d_MM_matches_1_75 : decode b_MM_matches_1 75 = .ok (.iconst 4, 1) := by decide +kernel
theorem d_MM_matches_1_76 : decode b_MM_matches_1 76 = .ok (.if_icmp .ne 15, 3) := by decide +kernel
theorem d_MM_matches_1_79 : decode b_MM_matches_1 79 = .ok (.aload_n 0, 1) := by decide +kernel
theorem d_MM_matches_1_80 : decode b_MM_matches_1 80 = .ok (.aload_n 0, 1) := by decide +kernel
theorem d_MM_matches_1_81 : decode b_MM_matches_1 81 = .ok (.getfield 24, 3) := by decide +kernel
theorem d_MM_matches_1_84 : decode b_MM_matches_1 84 = .ok (.iload_n 2, 1) := by decide +kernel
theorem d_MM_matches_1_85 : decode b_MM_matches_1 85 = .ok (.invokevirtual 439, 3) := by decide +kernel
theorem d_MM_matches_1_88 : decode b_MM_matches_1 88 = .ok (.ifCond .ne 7, 3) := by decide +kernel
theorem d_MM_matches_1_91 : decode b_MM_matches_1 91 = .ok (.iconst 1, 1) := by decide +kernel
theorem d_MM_matches_1_92 : decode b_MM_matches_1 92 = .ok (.goto 4, 3) := by decide +kernel
theorem d_MM_matches_1_95 : decode b_MM_matches_1 95 = .ok (.iconst 0, 1) := by decide +kernel
theorem d_MM_matches_1_96 : decode b_MM_matches_1 96 = .ok (.iconst 2, 1) := by decide +kernel
theorem d_MM_matches_1_97 : decode b_MM_matches_1 97 = .ok (.invokevirtual 236, 3) := by decide +kernel
theorem d_MM_matches_1_100 : decode b_MM_matches_1 100 = .ok (.ifCond .eq 5, 3) := by decide +kernel
theorem d_MM_matches_1_103 : decode b_MM_matches_1 103 = .ok (.iconst 0, 1) := by decide +kernel
theorem d_MM_matches_1_104 : decode b_MM_matches_1 104 = .ok (.ireturn, 1) := by decide +kernel
theorem d_MM_matches_1_105 : decode b_MM_matches_1 105 = .ok (.aload_n 0, 1) := by decide +kernel
theorem d_MM_matches_1_106 : decode b_MM_matches_1 106 = .ok (.aload_n 0, 1) := by decide +kernel
theorem d_MM_matches_1_107 : decode b_MM_matches_1 107 = .ok (.getfield 24, 3) := by decide +kernel
theorem d_MM_matches_1_110 : decode b_MM_matches_1 110 = .ok (.iload_n 1, 1) := by decide +kernel
theorem d_MM_matches_1_111 : decode b_MM_matches_1 111 = .ok (.invokevirtual 543, 3) := by decide +kernel
theorem d_MM_matches_1_114 : decode b_MM_matches_1 114 = .ok (.ireturn, 1) := by decide +kernel
theorem d_MM_count_0 : decode b_MM_count 0 = .ok (.aload_n 0, 1) := by decide +kernel
theorem d_MM_count_1 : decode b_MM_count 1 = .ok (.iconst 0, 1) := by decide +kernel
theorem d_MM_count_2 : decode b_MM_count 2 = .ok (.putfield 230, 3) := by decide +kernel
theorem d_MM_count_5 : decode b_MM_count 5 = .ok (.aload_n 0, 1) := by decide +kernel
theorem d_MM_count_6 : decode b_MM_count 6 = .ok (.iload_n 1, 1) := by decide +kernel
theorem d_MM_count_7 : decode b_MM_count 7 = .ok (.iconst 0, 1) := by decide +kernel
theorem d_MM_count_8 : decode b_MM_count 8 = .ok (.iconst 3, 1) := by decide +kernel
theorem d_MM_count_9 : decode b_MM_count 9 = .ok (.invokestatic 344, 3) := by decide +kernel
theorem d_MM_count_12 : decode b_MM_count 12 = .ok (.ifCond .ne 7, 3) := by decide +kernel
theorem d_MM_count_15 : decode b_MM_count 15 = .ok (.iconst 1, 1) := by decide +kernel
theorem d_MM_count_16 : decode b_MM_count 16 = .ok (.goto 4, 3) := by decide +kernel
theorem d_MM_count_19 : decode b_MM_count 19 = .ok (.iconst 0, 1) := by decide +kernel
theorem d_MM_count_20 : decode b_MM_count 20 = .ok (.iconst 1, 1) := by decide +kernel
theorem d_MM_count_21 : decode b_MM_count 21 = .ok (.invokevirtual 236, 3) := by decide +kernel
theorem d_MM_count_24 : decode b_MM_count 24 = .ok (.ifCond .eq 5, 3) := by decide +kernel
theorem d_MM_count_27 : decode b_MM_count 27 = .ok (.iconst 0, 1) := by decide +kernel
theorem d_MM_count_28 : decode b_MM_count 28 = .ok (.ireturn, 1) := by decide +kernel
theorem d_MM_count_29 : decode b_MM_count 29 = .ok (.iload_n 1, 1) := by decide +kernel
theorem d_MM_count_30 : decode b_MM_count 30 = .ok (.ifCond .ne 13, 3) := by decide +kernel
theorem d_MM_count_33 : decode b_MM_count 33 = .ok (.aload_n 0, 1) := by decide +kernel
theorem d_MM_count_34 : decode b_MM_count 34 = .ok (.getfield 20, 3) := by decide +kernel
theorem d_MM_count_37 : decode b_MM_count 37 = .ok (.getfield 251, 3) := by decide +kernel
theorem d_MM_count_40 : decode b_MM_count 40 = .ok (.goto 34, 3) := by decide +kernel
theorem d_MM_count_43 : decode b_MM_count 43 = .ok (.iload_n 1, 1) := by decide +kernel
theorem d_MM_count_44 : decode b_MM_count 44 = .ok (.iconst 1, 1) := by decide +kernel
theorem d_MM_count_45 : decode b_MM_count 45 = .ok (.if_icmp .ne 13, 3) := by decide +kernel
theorem d_MM_count_48 : decode b_MM_count 48 = .ok (.aload_n 0, 1) := by decide +kernel
theorem d_MM_count_49 : decode b_MM_count 49 = .ok (.getfield 24, 3) := by decide +kernel
theorem d_MM_count_52 : decode b_MM_count 52 = .ok (.getfield 251, 3) := by decide +kernel
theorem d_MM_count_55 : decode b_MM_count 55 = .ok (.goto 19, 3) := by decide +kernel
theorem d_MM_count_58 : decode b_MM_count 58 = .ok (.iload_n 1, 1) := by decide +kernel
theorem d_MM_count_59 : decode b_MM_count 59 = .ok (.iconst 2, 1) := by decide +kernel
theorem d_MM_count_60 : decode b_MM_count 60 = .ok (.if_icmp .ne 10, 3) := by decide +kernel
theorem d_MM_count_63 : decode b_MM_count 63 = .ok (.aload_n 0, 1) := by decide +kernel
theorem d_MM_count_64 : decode b_MM_count 64 = .ok (.getfield 497, 3) := by decide +kernel
theorem d_MM_count_67 : decode b_MM_count 67 = .ok (.goto 7, 3) := by decide +kernel
theorem d_MM_count_70 : decode b_MM_count 70 = .ok (.aload_n 0, 1) := by decide +kernel
theorem d_MM_count_71 : decode b_MM_count 71 = .ok (.getfield 500, 3) := by decide +kernel
theorem d_MM_count_74 : decode b_MM_count 74 = .ok (.ireturn, 1) := by decide +kernel
theorem d_MM_init_0 : decode b_MM_init 0 = .ok (.aload_n 0, 1) := by decide +kernel
theorem d_MM_init_1 : decode b_MM_init 1 = .ok (.invokespecial 1, 3) := by decide +kernel
theorem d_MM_init_4 : decode b_MM_init 4 = .ok (.aload_n 0, 1) := by decide +kernel
theorem d_MM_init_5 : decode b_MM_init 5 = .ok (.iconst (-1), 1) := by decide +kernel
theorem d_MM_init_6 : decode b_MM_init 6 = .ok (.putfield 7, 3) := by decide +kernel
theorem d_MM_init_9 : decode b_MM_init 9 = .ok (.aload_n 0, 1) := by decide +kernel
theorem d_MM_init_10 : decode b_MM_init 10 = .ok (.sipush 8200, 3) := by decide +kernel
theorem d_MM_init_13 : decode b_MM_init 13 = .ok (.newarray .int, 2) := by decide +kernel
theorem d_MM_init_15 : decode b_MM_init 15 = .ok (.putfield 13, 3) := by decide +kernel
theorem d_MM_init_18 : decode b_MM_init 18 = .ok (.aload_n 0, 1) := by decide +kernel
theorem d_MM_init_19 : decode b_MM_init 19 = .ok (.new 17, 3) := by decide +kernel
theorem d_MM_init_22 : decode b_MM_init 22 = .ok (.dup, 1) := by decide +kernel
theorem d_MM_init_23 : decode b_MM_init 23 = .ok (.invokespecial 19, 3) := by decide +kernel
theorem d_MM_init_26 : decode b_MM_init 26 = .ok (.putfield 20, 3) := by decide +kernel
theorem d_MM_init_29 : decode b_MM_init 29 = .ok (.aload_n 0, 1) := by decide +kernel
theorem d_MM_init_30 : decode b_MM_init 30 = .ok (.new 17, 3) := by decide +kernel
theorem d_MM_init_33 : decode b_MM_init 33 = .ok (.dup, 1) := by decide +kernel
theorem d_MM_init_34 : decode b_MM_init 34 = .ok (.invokespecial 19, 3) := by decide +kernel
theorem d_MM_init_37 : decode b_MM_init 37 = .ok (.putfield 24, 3) := by decide +kernel
theorem d_MM_init_40 : decode b_MM_init 40 = .ok (.aload_n 0, 1) := by decide +kernel
theorem d_MM_init_41 : decode b_MM_init 41 = .ok (.sipush 16000, 3) := by decide +kernel
theorem d_MM_init_44 : decode b_MM_init 44 = .ok (.newarray .int, 2) := by decide +kernel
theorem d_MM_init_46 : decode b_MM_init 46 = .ok (.putfield 27, 3) := by decide +kernel
theorem d_MM_init_49 : decode b_MM_init 49 = .ok (.aload_n 0, 1) := by decide +kernel
theorem d_MM_init_50 : decode b_MM_init 50 = .ok (.sipush 16000, 3) := by decide +kernel
theorem d_MM_init_53 : decode b_MM_init 53 = .ok (.newarray .int, 2) := by decide +kernel
theorem d_MM_init_55 : decode b_MM_init 55 = .ok (.putfield 30, 3) := by decide +kernel
theorem d_MM_init_58 : decode b_MM_init 58 = .ok (.aload_n 0, 1) := by decide +kernel
theorem d_MM_init_59 : decode b_MM_init 59 = .ok (.sipush 16000, 3) := by decide +kernel
theorem d_MM_init_62 : decode b_MM_init 62 = .ok (.newarray .int, 2) := by decide +kernel
theorem d_MM_init_64 : decode b_MM_init 64 = .ok (.putfield 33, 3) := by decide +kernel
theorem d_MM_init_67 : decode b_MM_init 67 = .ok (.aload_n 0, 1) := by decide +kernel
theorem d_MM_init_68 : decode b_MM_init 68 = .ok (.sipush 16000, 3) := by decide +kernel
theorem d_MM_init_71 : decode b_MM_init 71 = .ok (.newarray .int, 2) := by decide +kernel
theorem d_MM_init_73 : decode b_MM_init 73 = .ok (.putfield 36, 3) := by decide +kernel
theorem d_MM_init_76 : decode b_MM_init 76 = .ok (.aload_n 0, 1) := by decide +kernel
theorem d_MM_init_77 : decode b_MM_init 77 = .ok (.sipush 16000, 3) := by decide +kernel
theorem d_MM_init_80 : decode b_MM_init 80 = .ok (.newarray .int, 2) := by decide +kernel
theorem d_MM_init_82 : decode b_MM_init 82 = .ok (.putfield 39, 3) := by decide +kernel
theorem d_MM_init_85 : decode b_MM_init 85 = .ok (.aload_n 0, 1) := by decide +kernel
theorem d_MM_init_86 : decode b_MM_init 86 = .ok (.ldc 42, 2) := by decide +kernel
theorem d_MM_init_88 : decode b_MM_init 88 = .ok (.newarray .int, 2) := by decide +kernel
theorem d_MM_init_90 : decode b_MM_init 90 = .ok (.putfield 43, 3) := by decide +kernel
theorem d_MM_init_93 : decode b_MM_init 93 = .ok (.aload_n 0, 1) := by decide +kernel
theorem d_MM_init_94 : decode b_MM_init 94 = .ok (.ldc 42, 2) := by decide +kernel
theorem d_MM_init_96 : decode b_MM_init 96 = .ok (.newarray .int, 2) := by decide +kernel
theorem d_MM_init_98 : decode b_MM_init 98 = .ok (.putfield 46, 3) := by decide +kernel
theorem d_MM_init_101 : decode b_MM_init 101 = .ok (.aload_n 0, 1) := by decide +kernel
theorem d_MM_init_102 : decode b_MM_init 102 = .ok (.sipush 8000, 3) := by decide +kernel
theorem d_MM_init_105 : decode b_MM_init 105 = .ok (.newarray .int, 2) := by decide +kernel
theorem d_MM_init_107 : decode b_MM_init 107 = .ok (.putfield 49, 3) := by decide +kernel
theorem d_MM_init_110 : decode b_MM_init 110 = .ok (.aload_n 0, 1) := by decide +kernel
theorem d_MM_init_111 : decode b_MM_init 111 = .ok (.sipush 8000, 3) := by decide +kernel
theorem d_MM_init_114 : decode b_MM_init 114 = .ok (.newarray .int, 2) := by decide +kernel
theorem d_MM_init_116 : decode b_MM_init 116 = .ok (.putfield 52, 3) := by decide +kernel
theorem d_MM_init_119 : decode b_MM_init 119 = .ok (.aload_n 0, 1) := by decide +kernel
theorem d_MM_init_120 : decode b_MM_init 120 = .ok (.sipush 8000, 3) := by decide +kernel
theorem d_MM_init_123 : decode b_MM_init 123 = .ok (.newarray .boolean, 2) := by decide +kernel
theorem d_MM_init_125 : decode b_MM_init 125 = .ok (.putfield 55, 3) := by decide +kernel
theorem d_MM_init_128 : decode b_MM_init 128 = .ok (.aload_n 0, 1) := by decide +kernel
theorem d_MM_init_129 : decode b_MM_init 129 = .ok (.sipush 25000, 3) := by decide +kernel
theorem d_MM_init_132 : decode b_MM_init 132 = .ok (.newarray .int, 2) := by decide +kernel
theorem d_MM_init_134 : decode b_MM_init 134 = .ok (.putfield 59, 3) := by decide +kernel
theorem d_MM_init_137 : decode b_MM_init 137 = .ok (.aload_n 0, 1) := by decide +kernel
theorem d_MM_init_138 : decode b_MM_init 138 = .ok (.sipush 25000, 3) := by decide +kernel
theorem d_MM_init_141 : decode b_MM_init 141 = .ok (.newarray .int, 2) := by decide +kernel
theorem d_MM_init_143 : decode b_MM_init 143 = .ok (.putfield 62, 3) := by decide +kernel
theorem d_MM_init_146 : decode b_MM_init 146 = .ok (.aload_n 0, 1) := by decide +kernel
theorem d_MM_init_147 : decode b_MM_init 147 = .ok (.sipush 25000, 3) := by decide +kernel
theorem d_MM_init_150 : decode b_MM_init 150 = .ok (.newarray .int, 2) := by decide +kernel
theorem d_MM_init_152 : decode b_MM_init 152 = .ok (.putfield 65, 3) := by decide +kernel
theorem d_MM_init_155 : decode b_MM_init 155 = .ok (.aload_n 0, 1) := by decide +kernel
theorem d_MM_init_156 : decode b_MM_init 156 = .ok (.sipush 25000, 3) := by decide +kernel
theorem d_MM_init_159 : decode b_MM_init 159 = .ok (.newarray .int, 2) := by decide +kernel
theorem d_MM_init_161 : decode b_MM_init 161 = .ok (.putfield 68, 3) := by decide +kernel
theorem d_MM_init_164 : decode b_MM_init 164 = .ok (.aload_n 0, 1) := by decide +kernel
theorem d_MM_init_165 : decode b_MM_init 165 = .ok (.sipush 25000, 3) := by decide +kernel
theorem d_MM_init_168 : decode b_MM_init 168 = .ok (.newarray .int, 2) := by decide +kernel
theorem d_MM_init_170 : decode b_MM_init 170 = .ok (.putfield 71, 3) := by decide +kernel
theorem d_MM_init_173 : decode b_MM_init 173 = .ok (.aload_n 0, 1) := by decide +kernel
theorem d_MM_init_174 : decode b_MM_init 174 = .ok (.sipush 25000, 3) := by decide +kernel
theorem d_MM_init_177 : decode b_MM_init 177 = .ok (.newarray .int, 2) := by decide +kernel
theorem d_MM_init_179 : decode b_MM_init 179 = .ok (.putfield 74, 3) := by decide +kernel
theorem d_MM_init_182 : decode b_MM_init 182 = .ok (.aload_n 0, 1) := by decide +kernel
theorem d_MM_init_183 : decode b_MM_init 183 = .ok (.ldc 77, 2) := by decide +kernel
theorem d_MM_init_185 : decode b_MM_init 185 = .ok (.newarray .int, 2) := by decide +kernel
theorem d_MM_init_187 : decode b_MM_init 187 = .ok (.putfield 78, 3) := by decide +kernel
theorem d_MM_init_190 : decode b_MM_init 190 = .ok (.aload_n 0, 1) := by decide +kernel
theorem d_MM_init_191 : decode b_MM_init 191 = .ok (.bipush 44, 2) := by decide +kernel
theorem d_MM_init_193 : decode b_MM_init 193 = .ok (.anewarray 81, 3) := by decide +kernel
theorem d_MM_init_196 : decode b_MM_init 196 = .ok (.dup, 1) := by decide +kernel
theorem d_MM_init_197 : decode b_MM_init 197 = .ok (.iconst 0, 1) := by decide +kernel
theorem d_MM_init_198 : decode b_MM_init 198 = .ok (.ldc 83, 2) := by decide +kernel
theorem d_MM_init_200 : decode b_MM_init 200 = .ok (.aastore, 1) := by decide +kernel
theorem d_MM_init_201 : decode b_MM_init 201 = .ok (.dup, 1) := by decide +kernel
theorem d_MM_init_202 : decode b_MM_init 202 = .ok (.iconst 1, 1) := by decide +kernel
theorem d_MM_init_203 : decode b_MM_init 203 = .ok (.ldc 85, 2) := by decide +kernel
theorem d_MM_init_205 : decode b_MM_init 205 = .ok (.aastore, 1) := by decide +kernel
theorem d_MM_init_206 : decode b_MM_init 206 = .ok (.dup, 1) := by decide +kernel
theorem d_MM_init_207 : decode b_MM_init 207 = .ok (.iconst 2, 1) := by decide +kernel
theorem d_MM_init_208 : decode b_MM_init 208 = .ok (.ldc 87, 2) := by decide +kernel
theorem d_MM_init_210 : decode b_MM_init 210 = .ok (.aastore, 1) := by decide +kernel
theorem d_MM_init_211 : decode b_MM_init 211 = .ok (.dup, 1) := by decide +kernel
theorem d_MM_init_212 : decode b_MM_init 212 = .ok (.iconst 3, 1) := by decide +kernel
theorem d_MM_init_213 : decode b_MM_init 213 = .ok (.ldc 88, 2) := by decide +kernel
theorem d_MM_init_215 : decode b_MM_init 215 = .ok (.aastore, 1) := by decide +kernel
theorem d_MM_init_216 : decode b_MM_init 216 = .ok (.dup, 1) := by decide +kernel
theorem d_MM_init_217 : decode b_MM_init 217 = .ok (.iconst 4, 1) := by decide +kernel
theorem d_MM_init_218 : decode b_MM_init 218 = .ok (.ldc 90, 2) := by decide +kernel
theorem d_MM_init_220 : decode b_MM_init 220 = .ok (.aastore, 1) := by decide +kernel
theorem d_MM_init_221 : decode b_MM_init 221 = .ok (.dup, 1) := by decide +kernel
theorem d_MM_init_222 : decode b_MM_init 222 = .ok (.iconst 5, 1) := by decide +kernel
theorem d_MM_init_223 : decode b_MM_init 223 = .ok (.ldc 92, 2) := by decide +kernel
theorem d_MM_init_225 : decode b_MM_init 225 = .ok (.aastore, 1) := by decide +kernel
theorem d_MM_init_226 : decode b_MM_init 226 = .ok (.dup, 1) := by decide +kernel
theorem d_MM_init_227 : decode b_MM_init 227 = .ok (.bipush 6, 2) := by decide +kernel
theorem d_MM_init_229 : decode b_MM_init 229 = .ok (.ldc 94, 2) := by decide +kernel
theorem d_MM_init_231 : decode b_MM_init 231 = .ok (.aastore, 1) := by decide +kernel
theorem d_MM_init_232 : decode b_MM_init 232 = .ok (.dup, 1) := by decide +kernel
theorem d_MM_init_233 : decode b_MM_init 233 = .ok (.bipush 7, 2) := by decide +kernel
theorem d_MM_init_235 : decode b_MM_init 235 = .ok (.ldc 96, 2) := by decide +kernel
theorem d_MM_init_237 : decode b_MM_init 237 = .ok (.aastore, 1) := by decide +kernel
theorem d_MM_init_238 : decode b_MM_init 238 = .ok (.dup, 1) := by decide +kernel
theorem d_MM_init_239 : decode b_MM_init 239 = .ok (.bipush 8, 2) := by decide +kernel
theorem d_MM_init_241 : decode b_MM_init 241 = .ok (.ldc 98, 2) := by decide +kernel
theorem d_MM_init_243 : decode b_MM_init 243 = .ok (.aastore, 1) := by decide +kernel
theorem d_MM_init_244 : decode b_MM_init 244 = .ok (.dup, 1) := by decide +kernel
theorem d_MM_init_245 : decode b_MM_init 245 = .ok (.bipush 9, 2) := by decide +kernel
theorem d_MM_init_247 : decode b_MM_init 247 = .ok (.ldc 100, 2) := by decide +kernel
theorem d_MM_init_249 : decode b_MM_init 249 = .ok (.aastore, 1) := by decide +kernel
theorem d_MM_init_250 : decode b_MM_init 250 = .ok (.dup, 1) := by decide +kernel
theorem d_MM_init_251 : decode b_MM_init 251 = .ok (.bipush 10, 2) := by decide +kernel
theorem d_MM_init_253 : decode b_MM_init 253 = .ok (.ldc 102, 2) := by decide +kernel
theorem d_MM_init_255 : decode b_MM_init 255 = .ok (.aastore, 1) := by decide +kernel
theorem d_MM_init_256 : decode b_MM_init 256 = .ok (.dup, 1) := by decide +kernel
theorem d_MM_init_257 : decode b_MM_init 257 = .ok (.bipush 11, 2) := by decide +kernel
theorem d_MM_init_259 : decode b_MM_init 259 = .ok (.ldc 104, 2) := by decide +kernel
theorem d_MM_init_261 : decode b_MM_init 261 = .ok (.aastore, 1) := by decide +kernel
theorem d_MM_init_262 : decode b_MM_init 262 = .ok (.dup, 1) := by decide +kernel
theorem d_MM_init_263 : decode b_MM_init 263 = .ok (.bipush 12, 2) := by decide +kernel
theorem d_MM_init_265 : decode b_MM_init 265 = .ok (.ldc 106, 2) := by decide +kernel
theorem d_MM_init_267 : decode b_MM_init 267 = .ok (.aastore, 1) := by decide +kernel
theorem d_MM_init_268 : decode b_MM_init 268 = .ok (.dup, 1) := by decide +kernel
theorem d_MM_init_269 : decode b_MM_init 269 = .ok (.bipush 13, 2) := by decide +kernel
theorem d_MM_init_271 : decode b_MM_init 271 = .ok (.ldc 108, 2) := by decide +kernel
theorem d_MM_init_273 : decode b_MM_init 273 = .ok (.aastore, 1) := by decide +kernel
theorem d_MM_init_274 : decode b_MM_init 274 = .ok (.dup, 1) := by decide +kernel
theorem d_MM_init_275 : decode b_MM_init 275 = .ok (.bipush 14, 2) := by decide +kernel
theorem d_MM_init_277 : decode b_MM_init 277 = .ok (.ldc 110, 2) := by decide +kernel
theorem d_MM_init_279 : decode b_MM_init 279 = .ok (.aastore, 1) := by decide +kernel
theorem d_MM_init_280 : decode b_MM_init 280 = .ok (.dup, 1) := by decide +kernel
theorem d_MM_init_281 : decode b_MM_init 281 = .ok (.bipush 15, 2) := by decide +kernel
theorem d_MM_init_283 : decode b_MM_init 283 = .ok (.ldc 112, 2) := by decide +kernel
theorem d_MM_init_285 : decode b_MM_init 285 = .ok (.aastore, 1) := by decide +kernel
theorem d_MM_init_286 : decode b_MM_init 286 = .ok (.dup, 1) := by decide +kernel
theorem d_MM_init_287 : decode b_MM_init 287 = .ok (.bipush 16, 2) := by decide +kernel
theorem d_MM_init_289 : decode b_MM_init 289 = .ok (.ldc 114, 2) := by decide +kernel
theorem d_MM_init_291 : decode b_MM_init 291 = .ok (.aastore, 1) := by decide +kernel
theorem d_MM_init_292 : decode b_MM_init 292 = .ok (.dup, 1) := by decide +kernel
theorem d_MM_init_293 : decode b_MM_init 293 = .ok (.bipush 17, 2) := by decide +kernel
theorem d_MM_init_295 : decode b_MM_init 295 = .ok (.ldc 116, 2) := by decide +kernel
theorem d_MM_init_297 : decode b_MM_init 297 = .ok (.aastore, 1) := by decide +kernel
theorem d_MM_init_298 : decode b_MM_init 298 = .ok (.dup, 1) := by decide +kernel
theorem d_MM_init_299 : decode b_MM_init 299 = .ok (.bipush 18, 2) := by decide +kernel
theorem d_MM_init_301 : decode b_MM_init 301 = .ok (.ldc 118, 2) := by decide +kernel
theorem d_MM_init_303 : decode b_MM_init 303 = .ok (.aastore, 1) := by decide +kernel
theorem d_MM_init_304 : decode b_MM_init 304 = .ok (.dup, 1) := by decide +kernel
theorem d_MM_init_305 : decode b_MM_init 305 = .ok (.bipush 19, 2) := by decide +kernel
theorem d_MM_init_307 : decode b_MM_init 307 = .ok (.ldc 120, 2) := by decide +kernel
theorem d_MM_init_309 : decode b_MM_init 309 = .ok (.aastore, 1) := by decide +kernel
theorem d_MM_init_310 : decode b_MM_init 310 = .ok (.dup, 1) := by decide +kernel
theorem d_MM_init_311 : decode b_MM_init 311 = .ok (.bipush 20, 2) := by decide +kernel
theorem d_MM_init_313 : decode b_MM_init 313 = .ok (.ldc 122, 2) := by decide +kernel
theorem d_MM_init_315 : decode b_MM_init 315 = .ok (.aastore, 1) := by decide +kernel
theorem d_MM_init_316 : decode b_MM_init 316 = .ok (.dup, 1) := by decide +kernel
theorem d_MM_init_317 : decode b_MM_init 317 = .ok (.bipush 21, 2) := by decide +kernel
theorem d_MM_init_319 : decode b_MM_init 319 = .ok (.ldc 124, 2) := by decide +kernel
theorem d_MM_init_321 : decode b_MM_init 321 = .ok (.aastore, 1) := by decide +kernel
theorem d_MM_init_322 : decode b_MM_init 322 = .ok (.dup, 1) := by decide +kernel
theorem d_MM_init_323 : decode b_MM_init 323 = .ok (.bipush 22, 2) := by decide +kernel
theorem d_MM_init_325 : decode b_MM_init 325 = .ok (.ldc 126, 2) := by decide +kernel
theorem d_MM_init_327 : decode b_MM_init 327 = .ok (.aastore, 1) := by decide +kernel
theorem d_MM_init_328 : decode b_MM_init 328 = .ok (.dup, 1) := by decide +kernel
theorem d_MM_init_329 : decode b_MM_init 329 = .ok (.bipush 23, 2) := by decide +kernel
theorem d_MM_init_331 : decode b_MM_init 331 = .ok (.ldc 128, 2) := by decide +kernel
theorem d_MM_init_333 : decode b_MM_init 333 = .ok (.aastore, 1) := by decide +kernel
theorem d_MM_init_334 : decode b_MM_init 334 = .ok (.dup, 1) := by decide +kernel
theorem d_MM_init_335 : decode b_MM_init 335 = .ok (.bipush 24, 2) := by decide +kernel
theorem d_MM_init_337 : decode b_MM_init 337 = .ok (.ldc 130, 2) := by decide +kernel
theorem d_MM_init_339 : decode b_MM_init 339 = .ok (.aastore, 1) := by decide +kernel
theorem d_MM_init_340 : decode b_MM_init 340 = .ok (.dup, 1) := by decide +kernel
theorem d_MM_init_341 : decode b_MM_init 341 = .ok (.bipush 25, 2) := by decide +kernel
theorem d_MM_init_343 : decode b_MM_init 343 = .ok (.ldc 132, 2) := by decide +kernel
theorem d_MM_init_345 : decode b_MM_init 345 = .ok (.aastore, 1) := by decide +kernel
theorem d_MM_init_346 : decode b_MM_init 346 = .ok (.dup, 1) := by decide +kernel
theorem d_MM_init_347 : decode b_MM_init 347 = .ok (.bipush 26, 2) := by decide +kernel
theorem d_MM_init_349 : decode b_MM_init 349 = .ok (.ldc 134, 2) := by decide +kernel
theorem d_MM_init_351 : decode b_MM_init 351 = .ok (.aastore, 1) := by decide +kernel
theorem d_MM_init_352 : decode b_MM_init 352 = .ok (.dup, 1) := by decide +kernel
theorem d_MM_init_353 : decode b_MM_init 353 = .ok (.bipush 27, 2) := by decide +kernel
theorem d_MM_init_355 : decode b_MM_init 355 = .ok (.ldc 136, 2) := by decide +kernel
theorem d_MM_init_357 : decode b_MM_init 357 = .ok (.aastore, 1) := by decide +kernel
theorem d_MM_init_358 : decode b_MM_init 358 = .ok (.dup, 1) := by decide +kernel
theorem d_MM_init_359 : decode b_MM_init 359 = .ok (.bipush 28, 2) := by decide +kernel
theorem d_MM_init_361 : decode b_MM_init 361 = .ok (.ldc 138, 2) := by decide +kernel
theorem d_MM_init_363 : decode b_MM_init 363 = .ok (.aastore, 1) := by decide +kernel
theorem d_MM_init_364 : decode b_MM_init 364 = .ok (.dup, 1) := by decide +kernel
theorem d_MM_init_365 : decode b_MM_init 365 = .ok (.bipush 29, 2) := by decide +kernel
theorem d_MM_init_367 : decode b_MM_init 367 = .ok (.ldc 140, 2) := by decide +kernel
theorem d_MM_init_369 : decode b_MM_init 369 = .ok (.aastore, 1) := by decide +kernel
theorem d_MM_init_370 : decode b_MM_init 370 = .ok (.dup, 1) := by decide +kernel
theorem d_MM_init_371 : decode b_MM_init 371 = .ok (.bipush 30, 2) := by decide +kernel
theorem d_MM_init_373 : decode b_MM_init 373 = .ok (.ldc 142, 2) := by decide +kernel
theorem d_MM_init_375 : decode b_MM_init 375 = .ok (.aastore, 1) := by decide +kernel
theorem d_MM_init_376 : decode b_MM_init 376 = .ok (.dup, 1) := by decide +kernel
theorem d_MM_init_377 : decode b_MM_init 377 = .ok (.bipush 31, 2) := by decide +kernel
theorem d_MM_init_379 : decode b_MM_init 379 = .ok (.ldc 144, 2) := by decide +kernel
theorem d_MM_init_381 : decode b_MM_init 381 = .ok (.aastore, 1) := by decide +kernel
theorem d_MM_init_382 : decode b_MM_init 382 = .ok (.dup, 1) := by decide +kernel
theorem d_MM_init_383 : decode b_MM_init 383 = .ok (.bipush 32, 2) := by decide +kernel
theorem d_MM_init_385 : decode b_MM_init 385 = .ok (.ldc 146, 2) := by decide +kernel
theorem d_MM_init_387 : decode b_MM_init 387 = .ok (.aastore, 1) := by decide +kernel
theorem d_MM_init_388 : decode b_MM_init 388 = .ok (.dup, 1) := by decide +kernel
theorem d_MM_init_389 : decode b_MM_init 389 = .ok (.bipush 33, 2) := by decide +kernel
theorem d_MM_init_391 : decode b_MM_init 391 = .ok (.ldc 148, 2) := by decide +kernel
theorem d_MM_init_393 : decode b_MM_init 393 = .ok (.aastore, 1) := by decide +kernel
theorem d_MM_init_394 : decode b_MM_init 394 = .ok (.dup, 1) := by decide +kernel
theorem d_MM_init_395 : decode b_MM_init 395 = .ok (.bipush 34, 2) := by decide +kernel
theorem d_MM_init_397 : decode b_MM_init 397 = .ok (.ldc 150, 2) := by decide +kernel
theorem d_MM_init_399 : decode b_MM_init 399 = .ok (.aastore, 1) := by decide +kernel
theorem d_MM_init_400 : decode b_MM_init 400 = .ok (.dup, 1) := by decide +kernel
theorem d_MM_init_401 : decode b_MM_init 401 = .ok (.bipush 35, 2) := by decide +kernel
theorem d_MM_init_403 : decode b_MM_init 403 = .ok (.ldc 152, 2) := by decide +kernel
theorem d_MM_init_405 : decode b_MM_init 405 = .ok (.aastore, 1) := by decide +kernel
theorem d_MM_init_406 : decode b_MM_init 406 = .ok (.dup, 1) := by decide +kernel
theorem d_MM_init_407 : decode b_MM_init 407 = .ok (.bipush 36, 2) := by decide +kernel
theorem d_MM_init_409 : decode b_MM_init 409 = .ok (.ldc 154, 2) := by decide +kernel
theorem d_MM_init_411 : decode b_MM_init 411 = .ok (.aastore, 1) := by decide +kernel
theorem d_MM_init_412 : decode b_MM_init 412 = .ok (.dup, 1) := by decide +kernel
theorem d_MM_init_413 : decode b_MM_init 413 = .ok (.bipush 37, 2) := by decide +kernel
theorem d_MM_init_415 : decode b_MM_init 415 = .ok (.ldc 156, 2) := by decide +kernel
theorem d_MM_init_417 : decode b_MM_init 417 = .ok (.aastore, 1) := by decide +kernel
theorem d_MM_init_418 : decode b_MM_init 418 = .ok (.dup, 1) := by decide +kernel
theorem d_MM_init_419 : decode b_MM_init 419 = .ok (.bipush 38, 2) := by decide +kernel
theorem d_MM_init_421 : decode b_MM_init 421 = .ok (.ldc 158, 2) := by decide +kernel
theorem d_MM_init_423 : decode b_MM_init 423 = .ok (.aastore, 1) := by decide +kernel
theorem d_MM_init_424 : decode b_MM_init 424 = .ok (.dup, 1) := by decide +kernel
theorem d_MM_init_425 : decode b_MM_init 425 = .ok (.bipush 39, 2) := by decide +kernel
theorem d_MM_init_427 : decode b_MM_init 427 = .ok (.ldc 160, 2) := by decide +kernel
theorem d_MM_init_429 : decode b_MM_init 429 = .ok (.aastore, 1) := by decide +kernel
theorem d_MM_init_430 : decode b_MM_init 430 = .ok (.dup, 1) := by decide +kernel
theorem d_MM_init_431 : decode b_MM_init 431 = .ok (.bipush 40, 2) := by decide +kernel
theorem d_MM_init_433 : decode b_MM_init 433 = .ok (.ldc 162, 2) := by decide +kernel
theorem d_MM_init_435 : decode b_MM_init 435 = .ok (.aastore, 1) := by decide +kernel
theorem d_MM_init_436 : decode b_MM_init 436 = .ok (.dup, 1) := by decide +kernel
theorem d_MM_init_437 : decode b_MM_init 437 = .ok (.bipush 41, 2) := by decide +kernel
theorem d_MM_init_439 : decode b_MM_init 439 = .ok (.ldc 164, 2) := by decide +kernel
theorem d_MM_init_441 : decode b_MM_init 441 = .ok (.aastore, 1) := by decide +kernel
theorem d_MM_init_442 : decode b_MM_init 442 = .ok (.dup, 1) := by decide +kernel
theorem d_MM_init_443 : decode b_MM_init 443 = .ok (.bipush 42, 2) := by decide +kernel
theorem d_MM_init_445 : decode b_MM_init 445 = .ok (.ldc 166, 2) := by decide +kernel
theorem d_MM_init_447 : decode b_MM_init 447 = .ok (.aastore, 1) := by decide +kernel
theorem d_MM_init_448 : decode b_MM_init 448 = .ok (.dup, 1) := by decide +kernel
theorem d_MM_init_449 : decode b_MM_init 449 = .ok (.bipush 43, 2) := by decide +kernel
theorem d_MM_init_451 : decode b_MM_init 451 = .ok (.ldc 168, 2) := by decide +kernel
theorem d_MM_init_453 : decode b_MM_init 453 = .ok (.aastore, 1) := by decide +kernel
theorem d_MM_init_454 : decode b_MM_init 454 = .ok (.putfield 170, 3) := by decide +kernel
theorem d_MM_init_457 : decode b_MM_init 457 = .ok (.aload_n 0, 1) := by decide +kernel
theorem d_MM_init_458 : decode b_MM_init 458 = .ok (.bipush 7, 2) := by decide +kernel
theorem d_MM_init_460 : decode b_MM_init 460 = .ok (.anewarray 81, 3) := by decide +kernel
theorem d_MM_init_463 : decode b_MM_init 463 = .ok (.dup, 1) := by decide +kernel
theorem d_MM_init_464 : decode b_MM_init 464 = .ok (.iconst 0, 1) := by decide +kernel
theorem d_MM_init_465 : decode b_MM_init 465 = .ok (.ldc 174, 2) := by decide +kernel
theorem d_MM_init_467 : decode b_MM_init 467 = .ok (.aastore, 1) := by decide +kernel
theorem d_MM_init_468 : decode b_MM_init 468 = .ok (.dup, 1) := by decide +kernel
theorem d_MM_init_469 : decode b_MM_init 469 = .ok (.iconst 1, 1) := by decide +kernel
theorem d_MM_init_470 : decode b_MM_init 470 = .ok (.ldc 176, 2) := by decide +kernel
theorem d_MM_init_472 : decode b_MM_init 472 = .ok (.aastore, 1) := by decide +kernel
theorem d_MM_init_473 : decode b_MM_init 473 = .ok (.dup, 1) := by decide +kernel
theorem d_MM_init_474 : decode b_MM_init 474 = .ok (.iconst 2, 1) := by decide +kernel
theorem d_MM_init_475 : decode b_MM_init 475 = .ok (.ldc 178, 2) := by decide +kernel
theorem d_MM_init_477 : decode b_MM_init 477 = .ok (.aastore, 1) := by decide +kernel
theorem d_MM_init_478 : decode b_MM_init 478 = .ok (.dup, 1) := by decide +kernel
theorem d_MM_init_479 : decode b_MM_init 479 = .ok (.iconst 3, 1) := by decide +kernel
theorem d_MM_init_480 : decode b_MM_init 480 = .ok (.ldc 180, 2) := by decide +kernel
theorem d_MM_init_482 : decode b_MM_init 482 = .ok (.aastore, 1) := by decide +kernel
theorem d_MM_init_483 : decode b_MM_init 483 = .ok (.dup, 1) := by decide +kernel
theorem d_MM_init_484 : decode b_MM_init 484 = .ok (.iconst 4, 1) := by decide +kernel
theorem d_MM_init_485 : decode b_MM_init 485 = .ok (.ldc 182, 2) := by decide +kernel
theorem d_MM_init_487 : decode b_MM_init 487 = .ok (.aastore, 1) := by decide +kernel
theorem d_MM_init_488 : decode b_MM_init 488 = .ok (.dup, 1) := by decide +kernel
theorem d_MM_init_489 : decode b_MM_init 489 = .ok (.iconst 5, 1) := by decide +kernel
theorem d_MM_init_490 : decode b_MM_init 490 = .ok (.ldc 184, 2) := by decide +kernel
theorem d_MM_init_492 : decode b_MM_init 492 = .ok (.aastore, 1) := by decide +kernel
theorem d_MM_init_493 : decode b_MM_init 493 = .ok (.dup, 1) := by decide +kernel
theorem d_MM_init_494 : decode b_MM_init 494 = .ok (.bipush 6, 2) := by decide +kernel
theorem d_MM_init_496 : decode b_MM_init 496 = .ok (.ldc 186, 2) := by decide +kernel
theorem d_MM_init_498 : decode b_MM_init 498 = .ok (.aastore, 1) := by decide +kernel
theorem d_MM_init_499 : decode b_MM_init 499 = .ok (.putfield 188, 3) := by decide +kernel
theorem d_MM_init_502 : decode b_MM_init 502 = .ok (.aload_n 0, 1) := by decide +kernel
theorem d_MM_init_503 : decode b_MM_init 503 = .ok (.iconst (-1), 1) := by decide +kernel
theorem d_MM_init_504 : decode b_MM_init 504 = .ok (.putfield 191, 3) := by decide +kernel
theorem d_MM_init_507 : decode b_MM_init 507 = .ok (.aload_n 0, 1) := by decide +kernel
theorem d_MM_init_508 : decode b_MM_init 508 = .ok (.sipush 1000, 3) := by decide +kernel
theorem d_MM_init_511 : decode b_MM_init 511 = .ok (.newarray .int, 2) := by decide +kernel
theorem d_MM_init_513 : decode b_MM_init 513 = .ok (.putfield 194, 3) := by decide +kernel
theorem d_MM_init_516 : decode b_MM_init 516 = .ok (.aload_n 0, 1) := by decide +kernel
theorem d_MM_init_517 : decode b_MM_init 517 = .ok (.sipush 1000, 3) := by decide +kernel
theorem d_MM_init_520 : decode b_MM_init 520 = .ok (.newarray .int, 2) := by decide +kernel
theorem d_MM_init_522 : decode b_MM_init 522 = .ok (.putfield 197, 3) := by decide +kernel
theorem d_MM_init_525 : decode b_MM_init 525 = .ok (.aload_n 0, 1) := by decide +kernel
theorem d_MM_init_526 : decode b_MM_init 526 = .ok (.sipush 1000, 3) := by decide +kernel
theorem d_MM_init_529 : decode b_MM_init 529 = .ok (.newarray .int, 2) := by decide +kernel
theorem d_MM_init_531 : decode b_MM_init 531 = .ok (.putfield 200, 3) := by decide +kernel
theorem d_MM_init_534 : decode b_MM_init 534 = .ok (.aload_n 0, 1) := by decide +kernel
theorem d_MM_init_535 : decode b_MM_init 535 = .ok (.sipush 1000, 3) := by decide +kernel
theorem d_MM_init_538 : decode b_MM_init 538 = .ok (.newarray .int, 2) := by decide +kernel
theorem d_MM_init_540 : decode b_MM_init 540 = .ok (.putfield 203, 3) := by decide +kernel
theorem d_MM_init_543 : decode b_MM_init 543 = .ok (.aload_n 0, 1) := by decide +kernel
theorem d_MM_init_544 : decode b_MM_init 544 = .ok (.sipush 8192, 3) := by decide +kernel
theorem d_MM_init_547 : decode b_MM_init 547 = .ok (.newarray .int, 2) := by decide +kernel
theorem d_MM_init_549 : decode b_MM_init 549 = .ok (.putfield 206, 3) := by decide +kernel
theorem d_MM_init_552 : decode b_MM_init 552 = .ok (.aload_n 0, 1) := by decide +kernel
theorem d_MM_init_553 : decode b_MM_init 553 = .ok (.sipush 2000, 3) := by decide +kernel
theorem d_MM_init_556 : decode b_MM_init 556 = .ok (.newarray .int, 2) := by decide +kernel
theorem d_MM_init_558 : decode b_MM_init 558 = .ok (.putfield 209, 3) := by decide +kernel
theorem d_MM_init_561 : decode b_MM_init 561 = .ok (.aload_n 0, 1) := by decide +kernel
theorem d_MM_init_562 : decode b_MM_init 562 = .ok (.sipush 1000, 3) := by decide +kernel
theorem d_MM_init_565 : decode b_MM_init 565 = .ok (.newarray .boolean, 2) := by decide +kernel
theorem d_MM_init_567 : decode b_MM_init 567 = .ok (.putfield 212, 3) := by decide +kernel
theorem d_MM_init_570 : decode b_MM_init 570 = .ok (.aload_n 0, 1) := by decide +kernel
theorem d_MM_init_571 : decode b_MM_init 571 = .ok (.sipush 1000, 3) := by decide +kernel
theorem d_MM_init_574 : decode b_MM_init 574 = .ok (.newarray .boolean, 2) := by decide +kernel
theorem d_MM_init_576 : decode b_MM_init 576 = .ok (.putfield 215, 3) := by decide +kernel
theorem d_MM_init_579 : decode b_MM_init 579 = .ok (.aload_n 0, 1) := by decide +kernel
theorem d_MM_init_580 : decode b_MM_init 580 = .ok (.sipush 16004, 3) := by decide +kernel
theorem d_MM_init_583 : decode b_MM_init 583 = .ok (.newarray .int, 2) := by decide +kernel
theorem d_MM_init_585 : decode b_MM_init 585 = .ok (.putfield 218, 3) := by decide +kernel
theorem d_MM_init_588 : decode b_MM_init 588 = .ok (.aload_n 0, 1) := by decide +kernel
theorem d_MM_init_589 : decode b_MM_init 589 = .ok (.sipush 4004, 3) := by decide +kernel
theorem d_MM_init_592 : decode b_MM_init 592 = .ok (.newarray .int, 2) := by decide +kernel
theorem d_MM_init_594 : decode b_MM_init 594 = .ok (.putfield 221, 3) := by decide +kernel
theorem d_MM_init_597 : decode b_MM_init 597 = .ok (.aload_n 0, 1) := by decide +kernel
theorem d_MM_init_598 : decode b_MM_init 598 = .ok (.sipush 300, 3) := by decide +kernel
theorem d_MM_init_601 : decode b_MM_init 601 = .ok (.newarray .int, 2) := by decide +kernel
theorem d_MM_init_603 : decode b_MM_init 603 = .ok (.putfield 224, 3) := by decide +kernel
theorem d_MM_init_606 : decode b_MM_init 606 = .ok (.aload_n 0, 1) := by decide +kernel
theorem d_MM_init_607 : decode b_MM_init 607 = .ok (.sipush 300, 3) := by decide +kernel
theorem d_MM_init_610 : decode b_MM_init 610 = .ok (.newarray .int, 2) := by decide +kernel
theorem d_MM_init_612 : decode b_MM_init 612 = .ok (.putfield 227, 3) := by decide +kernel
theorem d_MM_init_615 : decode b_MM_init 615 = .ok (.return_, 1) := by decide +kernel
theorem d_MT_init_0 : decode b_MT_init 0 = .ok (.aload_n 0, 1) := by decide +kernel
theorem d_MT_init_1 : decode b_MT_init 1 = .ok (.invokespecial 3, 3) := by decide +kernel
theorem d_MT_init_4 : decode b_MT_init 4 = .ok (.aload_n 0, 1) := by decide +kernel
theorem d_MT_init_5 : decode b_MT_init 5 = .ok (.sipush 8196, 3) := by decide +kernel
theorem d_MT_init_8 : decode b_MT_init 8 = .ok (.newarray .int, 2) := by decide +kernel
theorem d_MT_init_10 : decode b_MT_init 10 = .ok (.putfield 9, 3) := by decide +kernel
theorem d_MT_init_13 : decode b_MT_init 13 = .ok (.aload_n 0, 1) := by decide +kernel
theorem d_MT_init_14 : decode b_MT_init 14 = .ok (.sipush 1000, 3) := by decide +kernel
theorem d_MT_init_17 : decode b_MT_init 17 = .ok (.newarray .int, 2) := by decide +kernel
theorem d_MT_init_19 : decode b_MT_init 19 = .ok (.putfield 15, 3) := by decide +kernel
theorem d_MT_init_22 : decode b_MT_init 22 = .ok (.aload_n 0, 1) := by decide +kernel
theorem d_MT_init_23 : decode b_MT_init 23 = .ok (.sipush 1000, 3) := by decide +kernel
theorem d_MT_init_26 : decode b_MT_init 26 = .ok (.newarray .int, 2) := by decide +kernel
theorem d_MT_init_28 : decode b_MT_init 28 = .ok (.putfield 18, 3) := by decide +kernel
theorem d_MT_init_31 : decode b_MT_init 31 = .ok (.aload_n 0, 1) := by decide +kernel
theorem d_MT_init_32 : decode b_MT_init 32 = .ok (.sipush 1000, 3) := by decide +kernel
theorem d_MT_init_35 : decode b_MT_init 35 = .ok (.newarray .int, 2) := by decide +kernel
theorem d_MT_init_37 : decode b_MT_init 37 = .ok (.putfield 21, 3) := by decide +kernel
theorem d_MT_init_40 : decode b_MT_init 40 = .ok (.aload_n 0, 1) := by decide +kernel
theorem d_MT_init_41 : decode b_MT_init 41 = .ok (.sipush 1000, 3) := by decide +kernel
theorem d_MT_init_44 : decode b_MT_init 44 = .ok (.newarray .int, 2) := by decide +kernel
theorem d_MT_init_46 : decode b_MT_init 46 = .ok (.putfield 24, 3) := by decide +kernel
theorem d_MT_init_49 : decode b_MT_init 49 = .ok (.aload_n 0, 1) := by decide +kernel
theorem d_MT_init_50 : decode b_MT_init 50 = .ok (.sipush 1000, 3) := by decide +kernel
theorem d_MT_init_53 : decode b_MT_init 53 = .ok (.newarray .int, 2) := by decide +kernel
theorem d_MT_init_55 : decode b_MT_init 55 = .ok (.putfield 27, 3) := by decide +kernel
theorem d_MT_init_58 : decode b_MT_init 58 = .ok (.aload_n 0, 1) := by decide +kernel
theorem d_MT_init_59 : decode b_MT_init 59 = .ok (.sipush 1000, 3) := by decide +kernel
theorem d_MT_init_62 : decode b_MT_init 62 = .ok (.newarray .int, 2) := by decide +kernel
theorem d_MT_init_64 : decode b_MT_init 64 = .ok (.putfield 30, 3) := by decide +kernel
theorem d_MT_init_67 : decode b_MT_init 67 = .ok (.aload_n 0, 1) := by decide +kernel
theorem d_MT_init_68 : decode b_MT_init 68 = .ok (.sipush 1000, 3) := by decide +kernel
theorem d_MT_init_71 : decode b_MT_init 71 = .ok (.newarray .int, 2) := by decide +kernel
theorem d_MT_init_73 : decode b_MT_init 73 = .ok (.putfield 33, 3) := by decide +kernel
theorem d_MT_init_76 : decode b_MT_init 76 = .ok (.aload_n 0, 1) := by decide +kernel
theorem d_MT_init_77 : decode b_MT_init 77 = .ok (.sipush 1000, 3) := by decide +kernel
theorem d_MT_init_80 : decode b_MT_init 80 = .ok (.newarray .int, 2) := by decide +kernel
theorem d_MT_init_82 : decode b_MT_init 82 = .ok (.putfield 36, 3) := by decide +kernel
theorem d_MT_init_85 : decode b_MT_init 85 = .ok (.aload_n 0, 1) := by decide +kernel
theorem d_MT_init_86 : decode b_MT_init 86 = .ok (.sipush 1000, 3) := by decide +kernel
theorem d_MT_init_89 : decode b_MT_init 89 = .ok (.newarray .int, 2) := by decide +kernel
theorem d_MT_init_91 : decode b_MT_init 91 = .ok (.putfield 39, 3) := by decide +kernel
theorem d_MT_init_94 : decode b_MT_init 94 = .ok (.aload_n 0, 1) := by decide +kernel
theorem d_MT_init_95 : decode b_MT_init 95 = .ok (.sipush 4000, 3) := by decide +kernel
theorem d_MT_init_98 : decode b_MT_init 98 = .ok (.newarray .int, 2) := by decide +kernel
theorem d_MT_init_100 : decode b_MT_init 100 = .ok (.putfield 42, 3) := by decide +kernel
theorem d_MT_init_103 : decode b_MT_init 103 = .ok (.aload_n 0, 1) := by decide +kernel
theorem d_MT_init_104 : decode b_MT_init 104 = .ok (.sipush 8192, 3) := by decide +kernel
theorem d_MT_init_107 : decode b_MT_init 107 = .ok (.newarray .int, 2) := by decide +kernel
theorem d_MT_init_109 : decode b_MT_init 109 = .ok (.putfield 45, 3) := by decide +kernel
theorem d_MT_init_112 : decode b_MT_init 112 = .ok (.aload_n 0, 1) := by decide +kernel
theorem d_MT_init_113 : decode b_MT_init 113 = .ok (.sipush 1000, 3) := by decide +kernel
theorem d_MT_init_116 : decode b_MT_init 116 = .ok (.newarray .boolean, 2) := by decide +kernel
theorem d_MT_init_118 : decode b_MT_init 118 = .ok (.putfield 48, 3) := by decide +kernel
theorem d_MT_init_121 : decode b_MT_init 121 = .ok (.aload_n 0, 1) := by decide +kernel
theorem d_MT_init_122 : decode b_MT_init 122 = .ok (.bipush 80, 2) := by decide +kernel
theorem d_MT_init_124 : decode b_MT_init 124 = .ok (.newarray .int, 2) := by decide +kernel
theorem d_MT_init_126 : decode b_MT_init 126 = .ok (.putfield 52, 3) := by decide +kernel
theorem d_MT_init_129 : decode b_MT_init 129 = .ok (.return_, 1) := by decide +kernel
