theorem d_Pg_inRanges_0 : decode b_Pg_inRanges 0 = .ok (.iload_n 1, 1) := by decide +kernel
theorem d_Pg_inRanges_1 : decode b_Pg_inRanges 1 = .ok (.ifCond .lt 21, 3) := by decide +kernel
theorem d_Pg_inRanges_4 : decode b_Pg_inRanges 4 = .ok (.iload_n 1, 1) := by decide +kernel
theorem d_Pg_inRanges_5 : decode b_Pg_inRanges 5 = .ok (.aload_n 0, 1) := by decide +kernel
theorem d_Pg_inRanges_6 : decode b_Pg_inRanges 6 = .ok (.getfield 18, 3) := by decide +kernel
theorem d_Pg_inRanges_9 : decode b_Pg_inRanges 9 = .ok (.arraylength, 1) := by decide +kernel
theorem d_Pg_inRanges_10 : decode b_Pg_inRanges 10 = .ok (.if_icmp .ge 12, 3) := by decide +kernel
theorem d_Pg_inRanges_13 : decode b_Pg_inRanges 13 = .ok (.aload_n 0, 1) := by decide +kernel
theorem d_Pg_inRanges_14 : decode b_Pg_inRanges 14 = .ok (.getfield 18, 3) := by decide +kernel
theorem d_Pg_inRanges_17 : decode b_Pg_inRanges 17 = .ok (.iload_n 1, 1) := by decide +kernel
theorem d_Pg_inRanges_18 : decode b_Pg_inRanges 18 = .ok (.iaload, 1) := by decide +kernel
theorem d_Pg_inRanges_19 : decode b_Pg_inRanges 19 = .ok (.goto 4, 3) := by decide +kernel
theorem d_Pg_inRanges_22 : decode b_Pg_inRanges 22 = .ok (.iconst 0, 1) := by decide +kernel
theorem d_Pg_inRanges_23 : decode b_Pg_inRanges 23 = .ok (.istore_n 3, 1) := by decide +kernel
theorem d_Pg_inRanges_24 : decode b_Pg_inRanges 24 = .ok (.iconst 0, 1) := by decide +kernel
theorem d_Pg_inRanges_25 : decode b_Pg_inRanges 25 = .ok (.istore 4, 2) := by decide +kernel
theorem d_Pg_inRanges_27 : decode b_Pg_inRanges 27 = .ok (.iload 4, 2) := by decide +kernel
theorem d_Pg_inRanges_29 : decode b_Pg_inRanges 29 = .ok (.iload_n 3, 1) := by decide +kernel
theorem d_Pg_inRanges_30 : decode b_Pg_inRanges 30 = .ok (.if_icmp .ge 57, 3) := by decide +kernel
theorem d_Pg_inRanges_33 : decode b_Pg_inRanges 33 = .ok (.iload_n 1, 1) := by decide +kernel
theorem d_Pg_inRanges_34 : decode b_Pg_inRanges 34 = .ok (.iconst 2, 1) := by decide +kernel
theorem d_Pg_inRanges_35 : decode b_Pg_inRanges 35 = .ok (.iadd, 1) := by decide +kernel
theorem d_Pg_inRanges_36 : decode b_Pg_inRanges 36 = .ok (.iconst 2, 1) := by decide +kernel
theorem d_Pg_inRanges_37 : decode b_Pg_inRanges 37 = .ok (.iload 4, 2) := by decide +kernel
theorem d_Pg_inRanges_39 : decode b_Pg_inRanges 39 = .ok (.imul, 1) := by decide +kernel
theorem d_Pg_inRanges_40 : decode b_Pg_inRanges 40 = .ok (.iadd, 1) := by decide +kernel
theorem d_Pg_inRanges_41 : decode b_Pg_inRanges 41 = .ok (.istore 5, 2) := by decide +kernel
theorem d_Pg_inRanges_43 : decode b_Pg_inRanges 43 = .ok (.iload 5, 2) := by decide +kernel
theorem d_Pg_inRanges_45 : decode b_Pg_inRanges 45 = .ok (.iconst 1, 1) := by decide +kernel
theorem d_Pg_inRanges_46 : decode b_Pg_inRanges 46 = .ok (.iadd, 1) := by decide +kernel
theorem d_Pg_inRanges_47 : decode b_Pg_inRanges 47 = .ok (.aload_n 0, 1) := by decide +kernel
theorem d_Pg_inRanges_48 : decode b_Pg_inRanges 48 = .ok (.getfield 18, 3) := by decide +kernel
theorem d_Pg_inRanges_51 : decode b_Pg_inRanges 51 = .ok (.arraylength, 1) := by decide +kernel
theorem d_Pg_inRanges_52 : decode b_Pg_inRanges 52 = .ok (.if_icmp .ge 29, 3) := by decide +kernel
theorem d_Pg_inRanges_55 : decode b_Pg_inRanges 55 = .ok (.iload_n 2, 1) := by decide +kernel
theorem d_Pg_inRanges_56 : decode b_Pg_inRanges 56 = .ok (.aload_n 0, 1) := by decide +kernel
theorem d_Pg_inRanges_57 : decode b_Pg_inRanges 57 = .ok (.getfield 18, 3) := by decide +kernel
theorem d_Pg_inRanges_60 : decode b_Pg_inRanges 60 = .ok (.iload 5, 2) := by decide +kernel
theorem d_Pg_inRanges_62 : decode b_Pg_inRanges 62 = .ok (.iaload, 1) := by decide +kernel
theorem d_Pg_inRanges_63 : decode b_Pg_inRanges 63 = .ok (.if_icmp .lt 18, 3) := by decide +kernel
theorem d_Pg_inRanges_66 : decode b_Pg_inRanges 66 = .ok (.iload_n 2, 1) := by decide +kernel
theorem d_Pg_inRanges_67 : decode b_Pg_inRanges 67 = .ok (.aload_n 0, 1) := by decide +kernel
theorem d_Pg_inRanges_68 : decode b_Pg_inRanges 68 = .ok (.getfield 18, 3) := by decide +kernel
theorem d_Pg_inRanges_71 : decode b_Pg_inRanges 71 = .ok (.iload 5, 2) := by decide +kernel
theorem d_Pg_inRanges_73 : decode b_Pg_inRanges 73 = .ok (.iconst 1, 1) := by decide +kernel
theorem d_Pg_inRanges_74 : decode b_Pg_inRanges 74 = .ok (.iadd, 1) := by decide +kernel
theorem d_Pg_inRanges_75 : decode b_Pg_inRanges 75 = .ok (.iaload, 1) := by decide +kernel
theorem d_Pg_inRanges_76 : decode b_Pg_inRanges 76 = .ok (.if_icmp .gt 5, 3) := by decide +kernel
theorem d_Pg_inRanges_79 : decode b_Pg_inRanges 79 = .ok (.iconst 1, 1) := by decide +kernel
theorem d_Pg_inRanges_80 : decode b_Pg_inRanges 80 = .ok (.ireturn, 1) := by decide +kernel
theorem d_Pg_inRanges_81 : decode b_Pg_inRanges 81 = .ok (.iinc 4 1, 3) := by decide +kernel
theorem d_Pg_inRanges_84 : decode b_Pg_inRanges 84 = .ok (.goto (-57), 3) := by decide +kernel
theorem d_Pg_inRanges_87 : decode b_Pg_inRanges 87 = .ok (.iconst 0, 1) := by decide +kernel
theorem d_Pg_inRanges_88 : decode b_Pg_inRanges 88 = .ok (.ireturn, 1) := by decide +kernel
theorem d_Pg_accepts_0 : decode b_Pg_accepts 0 = .ok (.iload_n 1, 1) := by decide +kernel
theorem d_Pg_accepts_1 : decode b_Pg_accepts 1 = .ok (.ifCond .lt 10, 3) := by decide +kernel
theorem d_Pg_accepts_4 : decode b_Pg_accepts 4 = .ok (.iload_n 1, 1) := by decide +kernel
theorem d_Pg_accepts_5 : decode b_Pg_accepts 5 = .ok (.sipush 1300, 3) := by decide +kernel
theorem d_Pg_accepts_8 : decode b_Pg_accepts 8 = .ok (.if_icmp .lt 5, 3) := by decide +kernel
theorem d_Pg_accepts_11 : decode b_Pg_accepts 11 = .ok (.iconst 0, 1) := by decide +kernel
theorem d_Pg_accepts_12 : decode b_Pg_accepts 12 = .ok (.ireturn, 1) := by decide +kernel
theorem d_Pg_accepts_13 : decode b_Pg_accepts 13 = .ok (.aload_n 0, 1) := by decide +kernel
theorem d_Pg_accepts_14 : decode b_Pg_accepts 14 = .ok (.getfield 15, 3) := by decide +kernel
theorem d_Pg_accepts_17 : decode b_Pg_accepts 17 = .ok (.iload_n 1, 1) := by decide +kernel
theorem d_Pg_accepts_18 : decode b_Pg_accepts 18 = .ok (.iaload, 1) := by decide +kernel
theorem d_Pg_accepts_19 : decode b_Pg_accepts 19 = .ok (.istore_n 3, 1) := by decide +kernel
theorem d_Pg_accepts_20 : decode b_Pg_accepts 20 = .ok (.aload_n 0, 1) := by decide +kernel
theorem d_Pg_accepts_21 : decode b_Pg_accepts 21 = .ok (.getfield 9, 3) := by decide +kernel
theorem d_Pg_accepts_24 : decode b_Pg_accepts 24 = .ok (.iload_n 1, 1) := by decide +kernel
theorem d_Pg_accepts_25 : decode b_Pg_accepts 25 = .ok (.iaload, 1) := by decide +kernel
theorem d_Pg_accepts_26 : decode b_Pg_accepts 26 = .ok (.tableswitch 75 0 2 #[26, 37, 69], 26) := by decide +kernel
theorem d_Pg_accepts_52 : decode b_Pg_accepts 52 = .ok (.iload_n 3, 1) := by decide +kernel
theorem d_Pg_accepts_53 : decode b_Pg_accepts 53 = .ok (.iload_n 2, 1) := by decide +kernel
theorem d_Pg_accepts_54 : decode b_Pg_accepts 54 = .ok (.if_icmp .ne 7, 3) := by decide +kernel
theorem d_Pg_accepts_57 : decode b_Pg_accepts 57 = .ok (.iconst 1, 1) := by decide +kernel
theorem d_Pg_accepts_58 : decode b_Pg_accepts 58 = .ok (.goto 4, 3) := by decide +kernel
theorem d_Pg_accepts_61 : decode b_Pg_accepts 61 = .ok (.iconst 0, 1) := by decide +kernel
theorem d_Pg_accepts_62 : decode b_Pg_accepts 62 = .ok (.ireturn, 1) := by decide +kernel
theorem d_Pg_accepts_63 : decode b_Pg_accepts 63 = .ok (.iload_n 2, 1) := by decide +kernel
theorem d_Pg_accepts_64 : decode b_Pg_accepts 64 = .ok (.bipush 10, 2) := by decide +kernel
theorem d_Pg_accepts_66 : decode b_Pg_accepts 66 = .ok (.if_icmp .eq 27, 3) := by decide +kernel
theorem d_Pg_accepts_69 : decode b_Pg_accepts 69 = .ok (.iload_n 2, 1) := by decide +kernel
theorem d_Pg_accepts_70 : decode b_Pg_accepts 70 = .ok (.bipush 13, 2) := by decide +kernel
theorem d_Pg_accepts_72 : decode b_Pg_accepts 72 = .ok (.if_icmp .eq 21, 3) := by decide +kernel
theorem d_Pg_accepts_75 : decode b_Pg_accepts 75 = .ok (.iload_n 2, 1) := by decide +kernel
theorem d_Pg_accepts_76 : decode b_Pg_accepts 76 = .ok (.sipush 8232, 3) := by decide +kernel
theorem d_Pg_accepts_79 : decode b_Pg_accepts 79 = .ok (.if_icmp .eq 14, 3) := by decide +kernel
theorem d_Pg_accepts_82 : decode b_Pg_accepts 82 = .ok (.iload_n 2, 1) := by decide +kernel
theorem d_Pg_accepts_83 : decode b_Pg_accepts 83 = .ok (.sipush 8233, 3) := by decide +kernel
theorem d_Pg_accepts_86 : decode b_Pg_accepts 86 = .ok (.if_icmp .eq 7, 3) := by decide +kernel
theorem d_Pg_accepts_89 : decode b_Pg_accepts 89 = .ok (.iconst 1, 1) := by decide +kernel
theorem d_Pg_accepts_90 : decode b_Pg_accepts 90 = .ok (.goto 4, 3) := by decide +kernel
theorem d_Pg_accepts_93 : decode b_Pg_accepts 93 = .ok (.iconst 0, 1) := by decide +kernel
theorem d_Pg_accepts_94 : decode b_Pg_accepts 94 = .ok (.ireturn, 1) := by decide +kernel
theorem d_Pg_accepts_95 : decode b_Pg_accepts 95 = .ok (.iload_n 3, 1) := by decide +kernel
theorem d_Pg_accepts_96 : decode b_Pg_accepts 96 = .ok (.iload_n 2, 1) := by decide +kernel
theorem d_Pg_accepts_97 : decode b_Pg_accepts 97 = .ok (.invokestatic 89, 3) := by decide +kernel
theorem d_Pg_accepts_100 : decode b_Pg_accepts 100 = .ok (.ireturn, 1) := by decide +kernel
theorem d_Pg_accepts_101 : decode b_Pg_accepts 101 = .ok (.iload_n 3, 1) := by decide +kernel
theorem d_Pg_accepts_102 : decode b_Pg_accepts 102 = .ok (.ifCond .lt 25, 3) := by decide +kernel
theorem d_Pg_accepts_105 : decode b_Pg_accepts 105 = .ok (.iload_n 3, 1) := by decide +kernel
theorem d_Pg_accepts_106 : decode b_Pg_accepts 106 = .ok (.iconst 1, 1) := by decide +kernel
theorem d_Pg_accepts_107 : decode b_Pg_accepts 107 = .ok (.iadd, 1) := by decide +kernel
theorem d_Pg_accepts_108 : decode b_Pg_accepts 108 = .ok (.aload_n 0, 1) := by decide +kernel
theorem d_Pg_accepts_109 : decode b_Pg_accepts 109 = .ok (.getfield 18, 3) := by decide +kernel
theorem d_Pg_accepts_112 : decode b_Pg_accepts 112 = .ok (.arraylength, 1) := by decide +kernel
theorem d_Pg_accepts_113 : decode b_Pg_accepts 113 = .ok (.if_icmp .ge 14, 3) := by decide +kernel
theorem d_Pg_accepts_116 : decode b_Pg_accepts 116 = .ok (.aload_n 0, 1) := by decide +kernel
theorem d_Pg_accepts_117 : decode b_Pg_accepts 117 = .ok (.getfield 18, 3) := by decide +kernel
theorem d_Pg_accepts_120 : decode b_Pg_accepts 120 = .ok (.iload_n 3, 1) := by decide +kernel
theorem d_Pg_accepts_121 : decode b_Pg_accepts 121 = .ok (.iconst 1, 1) := by decide +kernel
theorem d_Pg_accepts_122 : decode b_Pg_accepts 122 = .ok (.iadd, 1) := by decide +kernel
theorem d_Pg_accepts_123 : decode b_Pg_accepts 123 = .ok (.iaload, 1) := by decide +kernel
theorem d_Pg_accepts_124 : decode b_Pg_accepts 124 = .ok (.goto 4, 3) := by decide +kernel
theorem d_Pg_accepts_127 : decode b_Pg_accepts 127 = .ok (.iconst 0, 1) := by decide +kernel
theorem d_Pg_accepts_128 : decode b_Pg_accepts 128 = .ok (.istore 4, 2) := by decide +kernel
theorem d_Pg_accepts_130 : decode b_Pg_accepts 130 = .ok (.aload_n 0, 1) := by decide +kernel
theorem d_Pg_accepts_131 : decode b_Pg_accepts 131 = .ok (.iload_n 3, 1) := by decide +kernel
theorem d_Pg_accepts_132 : decode b_Pg_accepts 132 = .ok (.iload_n 2, 1) := by decide +kernel
theorem d_Pg_accepts_133 : decode b_Pg_accepts 133 = .ok (.invokevirtual 92, 3) := by decide +kernel
theorem d_Pg_accepts_136 : decode b_Pg_accepts 136 = .ok (.ifCond .ne 12, 3) := by decide +kernel
theorem d_Pg_accepts_139 : decode b_Pg_accepts 139 = .ok (.iload 4, 2) := by decide +kernel
theorem d_Pg_accepts_141 : decode b_Pg_accepts 141 = .ok (.iload_n 2, 1) := by decide +kernel
theorem d_Pg_accepts_142 : decode b_Pg_accepts 142 = .ok (.invokestatic 89, 3) := by decide +kernel
theorem d_Pg_accepts_145 : decode b_Pg_accepts 145 = .ok (.ifCond .eq 7, 3) := by decide +kernel
theorem d_Pg_accepts_148 : decode b_Pg_accepts 148 = .ok (.iconst 1, 1) := by decide +kernel
theorem d_Pg_accepts_149 : decode b_Pg_accepts 149 = .ok (.goto 4, 3) := by decide +kernel
theorem d_Pg_accepts_152 : decode b_Pg_accepts 152 = .ok (.iconst 0, 1) := by decide +kernel
theorem d_Pg_accepts_153 : decode b_Pg_accepts 153 = .ok (.iload 4, 2) := by decide +kernel
theorem d_Pg_accepts_155 : decode b_Pg_accepts 155 = .ok (.bipush 64, 2) := by decide +kernel
theorem d_Pg_accepts_157 : decode b_Pg_accepts 157 = .ok (.iand, 1) := by decide +kernel
theorem d_Pg_accepts_158 : decode b_Pg_accepts 158 = .ok (.ifCond .eq 7, 3) := by decide +kernel
theorem d_Pg_accepts_161 : decode b_Pg_accepts 161 = .ok (.iconst 1, 1) := by decide +kernel
theorem d_Pg_accepts_162 : decode b_Pg_accepts 162 = .ok (.goto 4, 3) := by decide +kernel
theorem d_Pg_accepts_165 : decode b_Pg_accepts 165 = .ok (.iconst 0, 1) := by decide +kernel
theorem d_Pg_accepts_166 : decode b_Pg_accepts 166 = .ok (.if_icmp .eq 7, 3) := by decide +kernel
theorem d_Pg_accepts_169 : decode b_Pg_accepts 169 = .ok (.iconst 1, 1) := by decide +kernel
theorem d_Pg_accepts_170 : decode b_Pg_accepts 170 = .ok (.goto 4, 3) := by decide +kernel
theorem d_Pg_accepts_173 : decode b_Pg_accepts 173 = .ok (.iconst 0, 1) := by decide +kernel
theorem d_Pg_accepts_174 : decode b_Pg_accepts 174 = .ok (.ireturn, 1) := by decide +kernel
theorem d_Pg_finds_0 : decode b_Pg_finds 0 = .ok (.iconst 0, 1) := by decide +kernel
theorem d_Pg_finds_1 : decode b_Pg_finds 1 = .ok (.istore_n 3, 1) := by decide +kernel
theorem d_Pg_finds_2 : decode b_Pg_finds 2 = .ok (.iload_n 3, 1) := by decide +kernel
theorem d_Pg_finds_3 : decode b_Pg_finds 3 = .ok (.aload_n 0, 1) := by decide +kernel
theorem d_Pg_finds_4 : decode b_Pg_finds 4 = .ok (.getfield 33, 3) := by decide +kernel
theorem d_Pg_finds_7 : decode b_Pg_finds 7 = .ok (.if_icmp .ge 23, 3) := by decide +kernel
theorem d_Pg_finds_10 : decode b_Pg_finds 10 = .ok (.iload_n 3, 1) := by decide +kernel
theorem d_Pg_finds_11 : decode b_Pg_finds 11 = .ok (.sipush 1300, 3) := by decide +kernel
theorem d_Pg_finds_14 : decode b_Pg_finds 14 = .ok (.if_icmp .ge 16, 3) := by decide +kernel
theorem d_Pg_finds_17 : decode b_Pg_finds 17 = .ok (.aload_n 0, 1) := by decide +kernel
theorem d_Pg_finds_18 : decode b_Pg_finds 18 = .ok (.getfield 21, 3) := by decide +kernel
theorem d_Pg_finds_21 : decode b_Pg_finds 21 = .ok (.iload_n 3, 1) := by decide +kernel
theorem d_Pg_finds_22 : decode b_Pg_finds 22 = .ok (.iconst 0, 1) := by decide +kernel
theorem d_Pg_finds_23 : decode b_Pg_finds 23 = .ok (.iastore, 1) := by decide +kernel
theorem d_Pg_finds_24 : decode b_Pg_finds 24 = .ok (.iinc 3 1, 3) := by decide +kernel
theorem d_Pg_finds_27 : decode b_Pg_finds 27 = .ok (.goto (-25), 3) := by decide +kernel
theorem d_Pg_finds_30 : decode b_Pg_finds 30 = .ok (.iconst 0, 1) := by decide +kernel
theorem d_Pg_finds_31 : decode b_Pg_finds 31 = .ok (.istore_n 3, 1) := by decide +kernel
theorem d_Pg_finds_32 : decode b_Pg_finds 32 = .ok (.aload_n 1, 1) := by decide +kernel
theorem d_Pg_finds_33 : decode b_Pg_finds 33 = .ok (.iload_n 2, 1) := by decide +kernel
theorem d_Pg_finds_34 : decode b_Pg_finds 34 = .ok (.invokevirtual 64, 3) := by decide +kernel
theorem d_Pg_finds_37 : decode b_Pg_finds 37 = .ok (.istore 4, 2) := by decide +kernel
theorem d_Pg_finds_39 : decode b_Pg_finds 39 = .ok (.iconst 0, 1) := by decide +kernel
theorem d_Pg_finds_40 : decode b_Pg_finds 40 = .ok (.istore 5, 2) := by decide +kernel
theorem d_Pg_finds_42 : decode b_Pg_finds 42 = .ok (.iload 5, 2) := by decide +kernel
theorem d_Pg_finds_44 : decode b_Pg_finds 44 = .ok (.iload 4, 2) := by decide +kernel
theorem d_Pg_finds_46 : decode b_Pg_finds 46 = .ok (.if_icmp .gt 142, 3) := by decide +kernel
theorem d_Pg_finds_49 : decode b_Pg_finds 49 = .ok (.aload_n 0, 1) := by decide +kernel
theorem d_Pg_finds_50 : decode b_Pg_finds 50 = .ok (.iconst 0, 1) := by decide +kernel
theorem d_Pg_finds_51 : decode b_Pg_finds 51 = .ok (.putfield 70, 3) := by decide +kernel
theorem d_Pg_finds_54 : decode b_Pg_finds 54 = .ok (.aload_n 0, 1) := by decide +kernel
theorem d_Pg_finds_55 : decode b_Pg_finds 55 = .ok (.iconst 0, 1) := by decide +kernel
theorem d_Pg_finds_56 : decode b_Pg_finds 56 = .ok (.putfield 73, 3) := by decide +kernel
theorem d_Pg_finds_59 : decode b_Pg_finds 59 = .ok (.aload_n 0, 1) := by decide +kernel
theorem d_Pg_finds_60 : decode b_Pg_finds 60 = .ok (.iconst 0, 1) := by decide +kernel
theorem d_Pg_finds_61 : decode b_Pg_finds 61 = .ok (.iload 5, 2) := by decide +kernel
theorem d_Pg_finds_63 : decode b_Pg_finds 63 = .ok (.iconst 1, 1) := by decide +kernel
theorem d_Pg_finds_64 : decode b_Pg_finds 64 = .ok (.iadd, 1) := by decide +kernel
theorem d_Pg_finds_65 : decode b_Pg_finds 65 = .ok (.invokevirtual 76, 3) := by decide +kernel
theorem d_Pg_finds_68 : decode b_Pg_finds 68 = .ok (.iconst 0, 1) := by decide +kernel
theorem d_Pg_finds_69 : decode b_Pg_finds 69 = .ok (.istore 6, 2) := by decide +kernel
theorem d_Pg_finds_71 : decode b_Pg_finds 71 = .ok (.iload 6, 2) := by decide +kernel
theorem d_Pg_finds_73 : decode b_Pg_finds 73 = .ok (.iload_n 3, 1) := by decide +kernel
theorem d_Pg_finds_74 : decode b_Pg_finds 74 = .ok (.if_icmp .ge 24, 3) := by decide +kernel
theorem d_Pg_finds_77 : decode b_Pg_finds 77 = .ok (.aload_n 0, 1) := by decide +kernel
theorem d_Pg_finds_78 : decode b_Pg_finds 78 = .ok (.aload_n 0, 1) := by decide +kernel
theorem d_Pg_finds_79 : decode b_Pg_finds 79 = .ok (.getfield 30, 3) := by decide +kernel
theorem d_Pg_finds_82 : decode b_Pg_finds 82 = .ok (.iload 6, 2) := by decide +kernel
theorem d_Pg_finds_84 : decode b_Pg_finds 84 = .ok (.iaload, 1) := by decide +kernel
theorem d_Pg_finds_85 : decode b_Pg_finds 85 = .ok (.iload 5, 2) := by decide +kernel
theorem d_Pg_finds_87 : decode b_Pg_finds 87 = .ok (.iconst 1, 1) := by decide +kernel
theorem d_Pg_finds_88 : decode b_Pg_finds 88 = .ok (.iadd, 1) := by decide +kernel
theorem d_Pg_finds_89 : decode b_Pg_finds 89 = .ok (.invokevirtual 76, 3) := by decide +kernel
theorem d_Pg_finds_92 : decode b_Pg_finds 92 = .ok (.iinc 6 1, 3) := by decide +kernel
theorem d_Pg_finds_95 : decode b_Pg_finds 95 = .ok (.goto (-24), 3) := by decide +kernel
theorem d_Pg_finds_98 : decode b_Pg_finds 98 = .ok (.aload_n 0, 1) := by decide +kernel
theorem d_Pg_finds_99 : decode b_Pg_finds 99 = .ok (.iload 5, 2) := by decide +kernel
theorem d_Pg_finds_101 : decode b_Pg_finds 101 = .ok (.iload 4, 2) := by decide +kernel
theorem d_Pg_finds_103 : decode b_Pg_finds 103 = .ok (.invokevirtual 79, 3) := by decide +kernel
theorem d_Pg_finds_106 : decode b_Pg_finds 106 = .ok (.ifCond .eq 5, 3) := by decide +kernel
theorem d_Pg_finds_109 : decode b_Pg_finds 109 = .ok (.iconst 1, 1) := by decide +kernel
theorem d_Pg_finds_110 : decode b_Pg_finds 110 = .ok (.ireturn, 1) := by decide +kernel
theorem d_Pg_finds_111 : decode b_Pg_finds 111 = .ok (.aload_n 1, 1) := by decide +kernel
theorem d_Pg_finds_112 : decode b_Pg_finds 112 = .ok (.iload_n 2, 1) := by decide +kernel
theorem d_Pg_finds_113 : decode b_Pg_finds 113 = .ok (.iload 5, 2) := by decide +kernel
theorem d_Pg_finds_115 : decode b_Pg_finds 115 = .ok (.invokevirtual 83, 3) := by decide +kernel
theorem d_Pg_finds_118 : decode b_Pg_finds 118 = .ok (.istore 6, 2) := by decide +kernel
theorem d_Pg_finds_120 : decode b_Pg_finds 120 = .ok (.iconst 0, 1) := by decide +kernel
theorem d_Pg_finds_121 : decode b_Pg_finds 121 = .ok (.istore_n 3, 1) := by decide +kernel
theorem d_Pg_finds_122 : decode b_Pg_finds 122 = .ok (.iconst 0, 1) := by decide +kernel
theorem d_Pg_finds_123 : decode b_Pg_finds 123 = .ok (.istore 7, 2) := by decide +kernel
theorem d_Pg_finds_125 : decode b_Pg_finds 125 = .ok (.iload 7, 2) := by decide +kernel
theorem d_Pg_finds_127 : decode b_Pg_finds 127 = .ok (.aload_n 0, 1) := by decide +kernel
theorem d_Pg_finds_128 : decode b_Pg_finds 128 = .ok (.getfield 70, 3) := by decide +kernel
theorem d_Pg_finds_131 : decode b_Pg_finds 131 = .ok (.if_icmp .ge 51, 3) := by decide +kernel
theorem d_Pg_finds_134 : decode b_Pg_finds 134 = .ok (.aload_n 0, 1) := by decide +kernel
theorem d_Pg_finds_135 : decode b_Pg_finds 135 = .ok (.getfield 27, 3) := by decide +kernel
theorem d_Pg_finds_138 : decode b_Pg_finds 138 = .ok (.iload 7, 2) := by decide +kernel
theorem d_Pg_finds_140 : decode b_Pg_finds 140 = .ok (.iaload, 1) := by decide +kernel
theorem d_Pg_finds_141 : decode b_Pg_finds 141 = .ok (.istore 8, 2) := by decide +kernel
theorem d_Pg_finds_143 : decode b_Pg_finds 143 = .ok (.aload_n 0, 1) := by decide +kernel
theorem d_Pg_finds_144 : decode b_Pg_finds 144 = .ok (.iload 8, 2) := by decide +kernel
theorem d_Pg_finds_146 : decode b_Pg_finds 146 = .ok (.iload 6, 2) := by decide +kernel
theorem d_Pg_finds_148 : decode b_Pg_finds 148 = .ok (.invokevirtual 86, 3) := by decide +kernel
theorem d_Pg_finds_151 : decode b_Pg_finds 151 = .ok (.ifCond .eq 25, 3) := by decide +kernel
theorem d_Pg_finds_154 : decode b_Pg_finds 154 = .ok (.iload_n 3, 1) := by decide +kernel
theorem d_Pg_finds_155 : decode b_Pg_finds 155 = .ok (.aload_n 0, 1) := by decide +kernel
theorem d_Pg_finds_156 : decode b_Pg_finds 156 = .ok (.getfield 30, 3) := by decide +kernel
theorem d_Pg_finds_159 : decode b_Pg_finds 159 = .ok (.arraylength, 1) := by decide +kernel
theorem d_Pg_finds_160 : decode b_Pg_finds 160 = .ok (.if_icmp .ge 16, 3) := by decide +kernel
theorem d_Pg_finds_163 : decode b_Pg_finds 163 = .ok (.aload_n 0, 1) := by decide +kernel
theorem d_Pg_finds_164 : decode b_Pg_finds 164 = .ok (.getfield 30, 3) := by decide +kernel
theorem d_Pg_finds_167 : decode b_Pg_finds 167 = .ok (.iload_n 3, 1) := by decide +kernel
theorem d_Pg_finds_168 : decode b_Pg_finds 168 = .ok (.iload 8, 2) := by decide +kernel
theorem d_Pg_finds_170 : decode b_Pg_finds 170 = .ok (.iconst 1, 1) := by decide +kernel
theorem d_Pg_finds_171 : decode b_Pg_finds 171 = .ok (.iadd, 1) := by decide +kernel
theorem d_Pg_finds_172 : decode b_Pg_finds 172 = .ok (.iastore, 1) := by decide +kernel
theorem d_Pg_finds_173 : decode b_Pg_finds 173 = .ok (.iinc 3 1, 3) := by decide +kernel
theorem d_Pg_finds_176 : decode b_Pg_finds 176 = .ok (.iinc 7 1, 3) := by decide +kernel
theorem d_Pg_finds_179 : decode b_Pg_finds 179 = .ok (.goto (-54), 3) := by decide +kernel
theorem d_Pg_finds_182 : decode b_Pg_finds 182 = .ok (.iinc 5 1, 3) := by decide +kernel
theorem d_Pg_finds_185 : decode b_Pg_finds 185 = .ok (.goto (-143), 3) := by decide +kernel
theorem d_Pg_finds_188 : decode b_Pg_finds 188 = .ok (.iconst 0, 1) := by decide +kernel
theorem d_Pg_finds_189 : decode b_Pg_finds 189 = .ok (.ireturn, 1) := by decide +kernel
theorem d_Jd_matching_0 : decode b_Jd_matching 0 = .ok (.lconst 0, 1) := by decide +kernel
theorem d_Jd_matching_1 : decode b_Jd_matching 1 = .ok (.lstore_n 3, 1) := by decide +kernel
theorem d_Jd_matching_2 : decode b_Jd_matching 2 = .ok (.aload_n 0, 1) := by decide +kernel
theorem d_Jd_matching_3 : decode b_Jd_matching 3 = .ok (.getfield 26, 3) := by decide +kernel
theorem d_Jd_matching_6 : decode b_Jd_matching 6 = .ok (.aload_n 0, 1) := by decide +kernel
theorem d_Jd_matching_7 : decode b_Jd_matching 7 = .ok (.getfield 15, 3) := by decide +kernel
theorem d_Jd_matching_10 : decode b_Jd_matching 10 = .ok (.iload_n 1, 1) := by decide +kernel
theorem d_Jd_matching_11 : decode b_Jd_matching 11 = .ok (.invokevirtual 223, 3) := by decide +kernel
theorem d_Jd_matching_14 : decode b_Jd_matching 14 = .ok (.ifCond .eq 13, 3) := by decide +kernel
theorem d_Jd_matching_17 : decode b_Jd_matching 17 = .ok (.aload_n 0, 1) := by decide +kernel
theorem d_Jd_matching_18 : decode b_Jd_matching 18 = .ok (.getfield 26, 3) := by decide +kernel
theorem d_Jd_matching_21 : decode b_Jd_matching 21 = .ok (.invokevirtual 229, 3) := by decide +kernel
theorem d_Jd_matching_24 : decode b_Jd_matching 24 = .ok (.ifCond .ne 5, 3) := by decide +kernel
theorem d_Jd_matching_27 : decode b_Jd_matching 27 = .ok (.lload_n 3, 1) := by decide +kernel
theorem d_Jd_matching_28 : decode b_Jd_matching 28 = .ok (.lreturn, 1) := by decide +kernel
theorem d_Jd_matching_29 : decode b_Jd_matching 29 = .ok (.aload_n 0, 1) := by decide +kernel
theorem d_Jd_matching_30 : decode b_Jd_matching 30 = .ok (.getfield 23, 3) := by decide +kernel
theorem d_Jd_matching_33 : decode b_Jd_matching 33 = .ok (.iload_n 2, 1) := by decide +kernel
theorem d_Jd_matching_34 : decode b_Jd_matching 34 = .ok (.invokevirtual 100, 3) := by decide +kernel
theorem d_Jd_matching_37 : decode b_Jd_matching 37 = .ok (.istore 5, 2) := by decide +kernel
theorem d_Jd_matching_39 : decode b_Jd_matching 39 = .ok (.iconst 0, 1) := by decide +kernel
theorem d_Jd_matching_40 : decode b_Jd_matching 40 = .ok (.istore 6, 2) := by decide +kernel
theorem d_Jd_matching_42 : decode b_Jd_matching 42 = .ok (.iload 6, 2) := by decide +kernel
theorem d_Jd_matching_44 : decode b_Jd_matching 44 = .ok (.aload_n 0, 1) := by decide +kernel
theorem d_Jd_matching_45 : decode b_Jd_matching 45 = .ok (.getfield 23, 3) := by decide +kernel
theorem d_Jd_matching_48 : decode b_Jd_matching 48 = .ok (.iload_n 2, 1) := by decide +kernel
theorem d_Jd_matching_49 : decode b_Jd_matching 49 = .ok (.invokevirtual 103, 3) := by decide +kernel
theorem d_Jd_matching_52 : decode b_Jd_matching 52 = .ok (.if_icmp .ge 45, 3) := by decide +kernel
theorem d_Jd_matching_55 : decode b_Jd_matching 55 = .ok (.aload_n 0, 1) := by decide +kernel
theorem d_Jd_matching_56 : decode b_Jd_matching 56 = .ok (.getfield 30, 3) := by decide +kernel
theorem d_Jd_matching_59 : decode b_Jd_matching 59 = .ok (.aload_n 0, 1) := by decide +kernel
theorem d_Jd_matching_60 : decode b_Jd_matching 60 = .ok (.getfield 23, 3) := by decide +kernel
theorem d_Jd_matching_63 : decode b_Jd_matching 63 = .ok (.iload 5, 2) := by decide +kernel
theorem d_Jd_matching_65 : decode b_Jd_matching 65 = .ok (.iconst 1, 1) := by decide +kernel
theorem d_Jd_matching_66 : decode b_Jd_matching 66 = .ok (.isub, 1) := by decide +kernel
theorem d_Jd_matching_67 : decode b_Jd_matching 67 = .ok (.invokevirtual 232, 3) := by decide +kernel
theorem d_Jd_matching_70 : decode b_Jd_matching 70 = .ok (.ifCond .eq 10, 3) := by decide +kernel
theorem d_Jd_matching_73 : decode b_Jd_matching 73 = .ok (.lload_n 3, 1) := by decide +kernel
theorem d_Jd_matching_74 : decode b_Jd_matching 74 = .ok (.lconst 1, 1) := by decide +kernel
theorem d_Jd_matching_75 : decode b_Jd_matching 75 = .ok (.iload 6, 2) := by decide +kernel
theorem d_Jd_matching_77 : decode b_Jd_matching 77 = .ok (.lshl, 1) := by decide +kernel
theorem d_Jd_matching_78 : decode b_Jd_matching 78 = .ok (.lor, 1) := by decide +kernel
theorem d_Jd_matching_79 : decode b_Jd_matching 79 = .ok (.lstore_n 3, 1) := by decide +kernel
theorem d_Jd_matching_80 : decode b_Jd_matching 80 = .ok (.aload_n 0, 1) := by decide +kernel
theorem d_Jd_matching_81 : decode b_Jd_matching 81 = .ok (.getfield 23, 3) := by decide +kernel
theorem d_Jd_matching_84 : decode b_Jd_matching 84 = .ok (.iload 5, 2) := by decide +kernel
theorem d_Jd_matching_86 : decode b_Jd_matching 86 = .ok (.invokevirtual 111, 3) := by decide +kernel
theorem d_Jd_matching_89 : decode b_Jd_matching 89 = .ok (.istore 5, 2) := by decide +kernel
theorem d_Jd_matching_91 : decode b_Jd_matching 91 = .ok (.iinc 6 1, 3) := by decide +kernel
theorem d_Jd_matching_94 : decode b_Jd_matching 94 = .ok (.goto (-52), 3) := by decide +kernel
theorem d_Jd_matching_97 : decode b_Jd_matching 97 = .ok (.lload_n 3, 1) := by decide +kernel
theorem d_Jd_matching_98 : decode b_Jd_matching 98 = .ok (.lreturn, 1) := by decide +kernel
theorem d_Jd_named_0 : decode b_Jd_named 0 = .ok (.lconst 0, 1) := by decide +kernel
theorem d_Jd_named_1 : decode b_Jd_named 1 = .ok (.lstore_n 3, 1) := by decide +kernel
theorem d_Jd_named_2 : decode b_Jd_named 2 = .ok (.aload_n 0, 1) := by decide +kernel
theorem d_Jd_named_3 : decode b_Jd_named 3 = .ok (.getfield 23, 3) := by decide +kernel
theorem d_Jd_named_6 : decode b_Jd_named 6 = .ok (.iload_n 2, 1) := by decide +kernel
theorem d_Jd_named_7 : decode b_Jd_named 7 = .ok (.invokevirtual 100, 3) := by decide +kernel
theorem d_Jd_named_10 : decode b_Jd_named 10 = .ok (.istore 5, 2) := by decide +kernel
theorem d_Jd_named_12 : decode b_Jd_named 12 = .ok (.iconst 0, 1) := by decide +kernel
theorem d_Jd_named_13 : decode b_Jd_named 13 = .ok (.istore 6, 2) := by decide +kernel
theorem d_Jd_named_15 : decode b_Jd_named 15 = .ok (.iload 6, 2) := by decide +kernel
theorem d_Jd_named_17 : decode b_Jd_named 17 = .ok (.aload_n 0, 1) := by decide +kernel
theorem d_Jd_named_18 : decode b_Jd_named 18 = .ok (.getfield 23, 3) := by decide +kernel
theorem d_Jd_named_21 : decode b_Jd_named 21 = .ok (.iload_n 2, 1) := by decide +kernel
theorem d_Jd_named_22 : decode b_Jd_named 22 = .ok (.invokevirtual 103, 3) := by decide +kernel
theorem d_Jd_named_25 : decode b_Jd_named 25 = .ok (.if_icmp .ge 47, 3) := by decide +kernel
theorem d_Jd_named_28 : decode b_Jd_named 28 = .ok (.aload_n 0, 1) := by decide +kernel
theorem d_Jd_named_29 : decode b_Jd_named 29 = .ok (.getfield 15, 3) := by decide +kernel
theorem d_Jd_named_32 : decode b_Jd_named 32 = .ok (.iload_n 1, 1) := by decide +kernel
theorem d_Jd_named_33 : decode b_Jd_named 33 = .ok (.aload_n 0, 1) := by decide +kernel
theorem d_Jd_named_34 : decode b_Jd_named 34 = .ok (.getfield 23, 3) := by decide +kernel
theorem d_Jd_named_37 : decode b_Jd_named 37 = .ok (.iload 5, 2) := by decide +kernel
theorem d_Jd_named_39 : decode b_Jd_named 39 = .ok (.iconst 1, 1) := by decide +kernel
theorem d_Jd_named_40 : decode b_Jd_named 40 = .ok (.isub, 1) := by decide +kernel
theorem d_Jd_named_41 : decode b_Jd_named 41 = .ok (.invokevirtual 195, 3) := by decide +kernel
theorem d_Jd_named_44 : decode b_Jd_named 44 = .ok (.iconst (-1), 1) := by decide +kernel
theorem d_Jd_named_45 : decode b_Jd_named 45 = .ok (.if_icmp .eq 10, 3) := by decide +kernel
theorem d_Jd_named_48 : decode b_Jd_named 48 = .ok (.lload_n 3, 1) := by decide +kernel
theorem d_Jd_named_49 : decode b_Jd_named 49 = .ok (.lconst 1, 1) := by decide +kernel
theorem d_Jd_named_50 : decode b_Jd_named 50 = .ok (.iload 6, 2) := by decide +kernel
theorem d_Jd_named_52 : decode b_Jd_named 52 = .ok (.lshl, 1) := by decide +kernel
theorem d_Jd_named_53 : decode b_Jd_named 53 = .ok (.lor, 1) := by decide +kernel
theorem d_Jd_named_54 : decode b_Jd_named 54 = .ok (.lstore_n 3, 1) := by decide +kernel
theorem d_Jd_named_55 : decode b_Jd_named 55 = .ok (.aload_n 0, 1) := by decide +kernel
theorem d_Jd_named_56 : decode b_Jd_named 56 = .ok (.getfield 23, 3) := by decide +kernel
theorem d_Jd_named_59 : decode b_Jd_named 59 = .ok (.iload 5, 2) := by decide +kernel
theorem d_Jd_named_61 : decode b_Jd_named 61 = .ok (.invokevirtual 111, 3) := by decide +kernel
theorem d_Jd_named_64 : decode b_Jd_named 64 = .ok (.istore 5, 2) := by decide +kernel
theorem d_Jd_named_66 : decode b_Jd_named 66 = .ok (.iinc 6 1, 3) := by decide +kernel
theorem d_Jd_named_69 : decode b_Jd_named 69 = .ok (.goto (-54), 3) := by decide +kernel
theorem d_Jd_named_72 : decode b_Jd_named 72 = .ok (.lload_n 3, 1) := by decide +kernel
theorem d_Jd_named_73 : decode b_Jd_named 73 = .ok (.lreturn, 1) := by decide +kernel
theorem d_Jd_skipped_0 : decode b_Jd_skipped 0 = .ok (.getstatic 186, 3) := by decide +kernel
theorem d_Jd_skipped_3 : decode b_Jd_skipped 3 = .ok (.aload_n 1, 1) := by decide +kernel
theorem d_Jd_skipped_4 : decode b_Jd_skipped 4 = .ok (.invokevirtual 192, 3) := by decide +kernel
theorem d_Jd_skipped_7 : decode b_Jd_skipped 7 = .ok (.iaload, 1) := by decide +kernel
theorem d_Jd_skipped_8 : decode b_Jd_skipped 8 = .ok (.tableswitch 230 4 8 #[36, 80, 94, 203, 203], 36) := by decide +kernel
theorem d_Jd_skipped_44 : decode b_Jd_skipped 44 = .ok (.aload_n 0, 1) := by decide +kernel
theorem d_Jd_skipped_45 : decode b_Jd_skipped 45 = .ok (.getfield 19, 3) := by decide +kernel
theorem d_Jd_skipped_48 : decode b_Jd_skipped 48 = .ok (.aload_n 0, 1) := by decide +kernel
theorem d_Jd_skipped_49 : decode b_Jd_skipped 49 = .ok (.getfield 15, 3) := by decide +kernel
theorem d_Jd_skipped_52 : decode b_Jd_skipped 52 = .ok (.iload_n 2, 1) := by decide +kernel
theorem d_Jd_skipped_53 : decode b_Jd_skipped 53 = .ok (.invokevirtual 202, 3) := by decide +kernel
theorem d_Jd_skipped_56 : decode b_Jd_skipped 56 = .ok (.getstatic 205, 3) := by decide +kernel
theorem d_Jd_skipped_59 : decode b_Jd_skipped 59 = .ok (.invokevirtual 134, 3) := by decide +kernel
theorem d_Jd_skipped_62 : decode b_Jd_skipped 62 = .ok (.istore 6, 2) := by decide +kernel
theorem d_Jd_skipped_64 : decode b_Jd_skipped 64 = .ok (.iload 6, 2) := by decide +kernel
theorem d_Jd_skipped_66 : decode b_Jd_skipped 66 = .ok (.iconst (-1), 1) := by decide +kernel
theorem d_Jd_skipped_67 : decode b_Jd_skipped 67 = .ok (.if_icmp .ne 7, 3) := by decide +kernel
theorem d_Jd_skipped_70 : decode b_Jd_skipped 70 = .ok (.lconst 0, 1) := by decide +kernel
theorem d_Jd_skipped_71 : decode b_Jd_skipped 71 = .ok (.goto 16, 3) := by decide +kernel
theorem d_Jd_skipped_74 : decode b_Jd_skipped 74 = .ok (.lconst 1, 1) := by decide +kernel
theorem d_Jd_skipped_75 : decode b_Jd_skipped 75 = .ok (.aload_n 0, 1) := by decide +kernel
theorem d_Jd_skipped_76 : decode b_Jd_skipped 76 = .ok (.getfield 15, 3) := by decide +kernel
theorem d_Jd_skipped_79 : decode b_Jd_skipped 79 = .ok (.iload 6, 2) := by decide +kernel
theorem d_Jd_skipped_81 : decode b_Jd_skipped 81 = .ok (.invokevirtual 103, 3) := by decide +kernel
theorem d_Jd_skipped_84 : decode b_Jd_skipped 84 = .ok (.lshl, 1) := by decide +kernel
theorem d_Jd_skipped_85 : decode b_Jd_skipped 85 = .ok (.lconst 1, 1) := by decide +kernel
theorem d_Jd_skipped_86 : decode b_Jd_skipped 86 = .ok (.lsub, 1) := by decide +kernel
theorem d_Jd_skipped_87 : decode b_Jd_skipped 87 = .ok (.lreturn, 1) := by decide +kernel
theorem d_Jd_skipped_88 : decode b_Jd_skipped 88 = .ok (.aload_n 0, 1) := by decide +kernel
theorem d_Jd_skipped_89 : decode b_Jd_skipped 89 = .ok (.iload_n 3, 1) := by decide +kernel
theorem d_Jd_skipped_90 : decode b_Jd_skipped 90 = .ok (.iconst 1, 1) := by decide +kernel
theorem d_Jd_skipped_91 : decode b_Jd_skipped 91 = .ok (.isub, 1) := by decide +kernel
theorem d_Jd_skipped_92 : decode b_Jd_skipped 92 = .ok (.iload 4, 2) := by decide +kernel
theorem d_Jd_skipped_94 : decode b_Jd_skipped 94 = .ok (.invokevirtual 208, 3) := by decide +kernel
theorem d_Jd_skipped_97 : decode b_Jd_skipped 97 = .ok (.ldc2_w 212, 3) := by decide +kernel
theorem d_Jd_skipped_100 : decode b_Jd_skipped 100 = .ok (.lxor, 1) := by decide +kernel
theorem d_Jd_skipped_101 : decode b_Jd_skipped 101 = .ok (.lreturn, 1) := by decide +kernel
theorem d_Jd_skipped_102 : decode b_Jd_skipped 102 = .ok (.aload_n 0, 1) := by decide +kernel
theorem d_Jd_skipped_103 : decode b_Jd_skipped 103 = .ok (.aload_n 0, 1) := by decide +kernel
theorem d_Jd_skipped_104 : decode b_Jd_skipped 104 = .ok (.getfield 19, 3) := by decide +kernel
theorem d_Jd_skipped_107 : decode b_Jd_skipped 107 = .ok (.aload_n 0, 1) := by decide +kernel
theorem d_Jd_skipped_108 : decode b_Jd_skipped 108 = .ok (.getfield 15, 3) := by decide +kernel
theorem d_Jd_skipped_111 : decode b_Jd_skipped 111 = .ok (.iload_n 2, 1) := by decide +kernel
theorem d_Jd_skipped_112 : decode b_Jd_skipped 112 = .ok (.invokevirtual 202, 3) := by decide +kernel
theorem d_Jd_skipped_115 : decode b_Jd_skipped 115 = .ok (.getstatic 214, 3) := by decide +kernel
theorem d_Jd_skipped_118 : decode b_Jd_skipped 118 = .ok (.invokevirtual 134, 3) := by decide +kernel
theorem d_Jd_skipped_121 : decode b_Jd_skipped 121 = .ok (.iload 4, 2) := by decide +kernel
theorem d_Jd_skipped_123 : decode b_Jd_skipped 123 = .ok (.invokevirtual 217, 3) := by decide +kernel
theorem d_Jd_skipped_126 : decode b_Jd_skipped 126 = .ok (.lstore 7, 2) := by decide +kernel
theorem d_Jd_skipped_128 : decode b_Jd_skipped 128 = .ok (.aload_n 0, 1) := by decide +kernel
theorem d_Jd_skipped_129 : decode b_Jd_skipped 129 = .ok (.getfield 19, 3) := by decide +kernel
theorem d_Jd_skipped_132 : decode b_Jd_skipped 132 = .ok (.aload_n 0, 1) := by decide +kernel
theorem d_Jd_skipped_133 : decode b_Jd_skipped 133 = .ok (.getfield 15, 3) := by decide +kernel
theorem d_Jd_skipped_136 : decode b_Jd_skipped 136 = .ok (.iload_n 2, 1) := by decide +kernel
theorem d_Jd_skipped_137 : decode b_Jd_skipped 137 = .ok (.invokevirtual 202, 3) := by decide +kernel
theorem d_Jd_skipped_140 : decode b_Jd_skipped 140 = .ok (.getstatic 220, 3) := by decide +kernel
theorem d_Jd_skipped_143 : decode b_Jd_skipped 143 = .ok (.invokevirtual 134, 3) := by decide +kernel
theorem d_Jd_skipped_146 : decode b_Jd_skipped 146 = .ok (.istore 9, 2) := by decide +kernel
theorem d_Jd_skipped_148 : decode b_Jd_skipped 148 = .ok (.aload_n 0, 1) := by decide +kernel
theorem d_Jd_skipped_149 : decode b_Jd_skipped 149 = .ok (.getfield 15, 3) := by decide +kernel
theorem d_Jd_skipped_152 : decode b_Jd_skipped 152 = .ok (.iload 9, 2) := by decide +kernel
theorem d_Jd_skipped_154 : decode b_Jd_skipped 154 = .ok (.invokevirtual 100, 3) := by decide +kernel
theorem d_Jd_skipped_157 : decode b_Jd_skipped 157 = .ok (.istore 10, 2) := by decide +kernel
theorem d_Jd_skipped_159 : decode b_Jd_skipped 159 = .ok (.iconst 0, 1) := by decide +kernel
theorem d_Jd_skipped_160 : decode b_Jd_skipped 160 = .ok (.istore 11, 2) := by decide +kernel
theorem d_Jd_skipped_162 : decode b_Jd_skipped 162 = .ok (.iload 11, 2) := by decide +kernel
theorem d_Jd_skipped_164 : decode b_Jd_skipped 164 = .ok (.aload_n 0, 1) := by decide +kernel
theorem d_Jd_skipped_165 : decode b_Jd_skipped 165 = .ok (.getfield 15, 3) := by decide +kernel
theorem d_Jd_skipped_168 : decode b_Jd_skipped 168 = .ok (.iload 9, 2) := by decide +kernel
theorem d_Jd_skipped_170 : decode b_Jd_skipped 170 = .ok (.invokevirtual 103, 3) := by decide +kernel
theorem d_Jd_skipped_173 : decode b_Jd_skipped 173 = .ok (.if_icmp .ge 35, 3) := by decide +kernel
theorem d_Jd_skipped_176 : decode b_Jd_skipped 176 = .ok (.lload 7, 2) := by decide +kernel
theorem d_Jd_skipped_178 : decode b_Jd_skipped 178 = .ok (.aload_n 0, 1) := by decide +kernel
theorem d_Jd_skipped_179 : decode b_Jd_skipped 179 = .ok (.iload 10, 2) := by decide +kernel
theorem d_Jd_skipped_181 : decode b_Jd_skipped 181 = .ok (.iconst 1, 1) := by decide +kernel
theorem d_Jd_skipped_182 : decode b_Jd_skipped 182 = .ok (.isub, 1) := by decide +kernel
theorem d_Jd_skipped_183 : decode b_Jd_skipped 183 = .ok (.iload 4, 2) := by decide +kernel
theorem d_Jd_skipped_185 : decode b_Jd_skipped 185 = .ok (.invokevirtual 208, 3) := by decide +kernel
theorem d_Jd_skipped_188 : decode b_Jd_skipped 188 = .ok (.lor, 1) := by decide +kernel
theorem d_Jd_skipped_189 : decode b_Jd_skipped 189 = .ok (.lstore 7, 2) := by decide +kernel
theorem d_Jd_skipped_191 : decode b_Jd_skipped 191 = .ok (.aload_n 0, 1) := by decide +kernel
theorem d_Jd_skipped_192 : decode b_Jd_skipped 192 = .ok (.getfield 15, 3) := by decide +kernel
theorem d_Jd_skipped_195 : decode b_Jd_skipped 195 = .ok (.iload 10, 2) := by decide +kernel
theorem d_Jd_skipped_197 : decode b_Jd_skipped 197 = .ok (.invokevirtual 111, 3) := by decide +kernel
theorem d_Jd_skipped_200 : decode b_Jd_skipped 200 = .ok (.istore 10, 2) := by decide +kernel
theorem d_Jd_skipped_202 : decode b_Jd_skipped 202 = .ok (.iinc 11 1, 3) := by decide +kernel
theorem d_Jd_skipped_205 : decode b_Jd_skipped 205 = .ok (.goto (-43), 3) := by decide +kernel
theorem d_Jd_skipped_208 : decode b_Jd_skipped 208 = .ok (.lload 7, 2) := by decide +kernel
theorem d_Jd_skipped_210 : decode b_Jd_skipped 210 = .ok (.lreturn, 1) := by decide +kernel
theorem d_Jd_skipped_211 : decode b_Jd_skipped 211 = .ok (.iload 5, 2) := by decide +kernel
theorem d_Jd_skipped_213 : decode b_Jd_skipped 213 = .ok (.ifCond .lt 23, 3) := by decide +kernel
theorem d_Jd_skipped_216 : decode b_Jd_skipped 216 = .ok (.iload 5, 2) := by decide +kernel
theorem d_Jd_skipped_218 : decode b_Jd_skipped 218 = .ok (.aload_n 0, 1) := by decide +kernel
theorem d_Jd_skipped_219 : decode b_Jd_skipped 219 = .ok (.getfield 9, 3) := by decide +kernel
theorem d_Jd_skipped_222 : decode b_Jd_skipped 222 = .ok (.arraylength, 1) := by decide +kernel
theorem d_Jd_skipped_223 : decode b_Jd_skipped 223 = .ok (.if_icmp .ge 13, 3) := by decide +kernel
theorem d_Jd_skipped_226 : decode b_Jd_skipped 226 = .ok (.aload_n 0, 1) := by decide +kernel
theorem d_Jd_skipped_227 : decode b_Jd_skipped 227 = .ok (.getfield 9, 3) := by decide +kernel
theorem d_Jd_skipped_230 : decode b_Jd_skipped 230 = .ok (.iload 5, 2) := by decide +kernel
theorem d_Jd_skipped_232 : decode b_Jd_skipped 232 = .ok (.laload, 1) := by decide +kernel
theorem d_Jd_skipped_233 : decode b_Jd_skipped 233 = .ok (.goto 4, 3) := by decide +kernel
theorem d_Jd_skipped_236 : decode b_Jd_skipped 236 = .ok (.lconst 0, 1) := by decide +kernel
theorem d_Jd_skipped_237 : decode b_Jd_skipped 237 = .ok (.lreturn, 1) := by decide +kernel
theorem d_Jd_skipped_238 : decode b_Jd_skipped 238 = .ok (.lconst 0, 1) := by decide +kernel
theorem d_Jd_skipped_239 : decode b_Jd_skipped 239 = .ok (.lreturn, 1) := by decide +kernel
theorem d_Jd_firstTarget_0 : decode b_Jd_firstTarget 0 = .ok (.getstatic 186, 3) := by decide +kernel
theorem d_Jd_firstTarget_3 : decode b_Jd_firstTarget 3 = .ok (.aload_n 1, 1) := by decide +kernel
theorem d_Jd_firstTarget_4 : decode b_Jd_firstTarget 4 = .ok (.invokevirtual 192, 3) := by decide +kernel
theorem d_Jd_firstTarget_7 : decode b_Jd_firstTarget 7 = .ok (.iaload, 1) := by decide +kernel
theorem d_Jd_firstTarget_8 : decode b_Jd_firstTarget 8 = .ok (.tableswitch 86 1 3 #[28, 44, 61], 28) := by decide +kernel
theorem d_Jd_firstTarget_36 : decode b_Jd_firstTarget 36 = .ok (.aload_n 0, 1) := by decide +kernel
theorem d_Jd_firstTarget_37 : decode b_Jd_firstTarget 37 = .ok (.getfield 23, 3) := by decide +kernel
theorem d_Jd_firstTarget_40 : decode b_Jd_firstTarget 40 = .ok (.iload_n 3, 1) := by decide +kernel
theorem d_Jd_firstTarget_41 : decode b_Jd_firstTarget 41 = .ok (.aload_n 0, 1) := by decide +kernel
theorem d_Jd_firstTarget_42 : decode b_Jd_firstTarget 42 = .ok (.getfield 15, 3) := by decide +kernel
theorem d_Jd_firstTarget_45 : decode b_Jd_firstTarget 45 = .ok (.iload_n 2, 1) := by decide +kernel
theorem d_Jd_firstTarget_46 : decode b_Jd_firstTarget 46 = .ok (.iconst 1, 1) := by decide +kernel
theorem d_Jd_firstTarget_47 : decode b_Jd_firstTarget 47 = .ok (.isub, 1) := by decide +kernel
theorem d_Jd_firstTarget_48 : decode b_Jd_firstTarget 48 = .ok (.invokevirtual 195, 3) := by decide +kernel
theorem d_Jd_firstTarget_51 : decode b_Jd_firstTarget 51 = .ok (.ireturn, 1) := by decide +kernel
theorem d_Jd_firstTarget_52 : decode b_Jd_firstTarget 52 = .ok (.aload_n 0, 1) := by decide +kernel
theorem d_Jd_firstTarget_53 : decode b_Jd_firstTarget 53 = .ok (.getfield 23, 3) := by decide +kernel
theorem d_Jd_firstTarget_56 : decode b_Jd_firstTarget 56 = .ok (.iload_n 3, 1) := by decide +kernel
theorem d_Jd_firstTarget_57 : decode b_Jd_firstTarget 57 = .ok (.aload_n 0, 1) := by decide +kernel
theorem d_Jd_firstTarget_58 : decode b_Jd_firstTarget 58 = .ok (.getfield 15, 3) := by decide +kernel
theorem d_Jd_firstTarget_61 : decode b_Jd_firstTarget 61 = .ok (.iload_n 2, 1) := by decide +kernel
theorem d_Jd_firstTarget_62 : decode b_Jd_firstTarget 62 = .ok (.invokevirtual 173, 3) := by decide +kernel
theorem d_Jd_firstTarget_65 : decode b_Jd_firstTarget 65 = .ok (.invokevirtual 199, 3) := by decide +kernel
theorem d_Jd_firstTarget_68 : decode b_Jd_firstTarget 68 = .ok (.ireturn, 1) := by decide +kernel
theorem d_Jd_firstTarget_69 : decode b_Jd_firstTarget 69 = .ok (.aload_n 0, 1) := by decide +kernel
theorem d_Jd_firstTarget_70 : decode b_Jd_firstTarget 70 = .ok (.getfield 23, 3) := by decide +kernel
theorem d_Jd_firstTarget_73 : decode b_Jd_firstTarget 73 = .ok (.iload_n 3, 1) := by decide +kernel
theorem d_Jd_firstTarget_74 : decode b_Jd_firstTarget 74 = .ok (.aload_n 0, 1) := by decide +kernel
theorem d_Jd_firstTarget_75 : decode b_Jd_firstTarget 75 = .ok (.getfield 15, 3) := by decide +kernel
theorem d_Jd_firstTarget_78 : decode b_Jd_firstTarget 78 = .ok (.iload_n 2, 1) := by decide +kernel
theorem d_Jd_firstTarget_79 : decode b_Jd_firstTarget 79 = .ok (.iconst 1, 1) := by decide +kernel
theorem d_Jd_firstTarget_80 : decode b_Jd_firstTarget 80 = .ok (.isub, 1) := by decide +kernel
theorem d_Jd_firstTarget_81 : decode b_Jd_firstTarget 81 = .ok (.invokevirtual 195, 3) := by decide +kernel
theorem d_Jd_firstTarget_84 : decode b_Jd_firstTarget 84 = .ok (.iconst (-1), 1) := by decide +kernel
theorem d_Jd_firstTarget_85 : decode b_Jd_firstTarget 85 = .ok (.if_icmp .ne 7, 3) := by decide +kernel
theorem d_Jd_firstTarget_88 : decode b_Jd_firstTarget 88 = .ok (.iconst (-1), 1) := by decide +kernel
theorem d_Jd_firstTarget_89 : decode b_Jd_firstTarget 89 = .ok (.goto 4, 3) := by decide +kernel
theorem d_Jd_firstTarget_92 : decode b_Jd_firstTarget 92 = .ok (.iload_n 3, 1) := by decide +kernel
theorem d_Jd_firstTarget_93 : decode b_Jd_firstTarget 93 = .ok (.ireturn, 1) := by decide +kernel
theorem d_Jd_firstTarget_94 : decode b_Jd_firstTarget 94 = .ok (.aload_n 1, 1) := by decide +kernel
theorem d_Jd_firstTarget_95 : decode b_Jd_firstTarget 95 = .ok (.getfield 138, 3) := by decide +kernel
theorem d_Jd_firstTarget_98 : decode b_Jd_firstTarget 98 = .ok (.iconst 4, 1) := by decide +kernel
theorem d_Jd_firstTarget_99 : decode b_Jd_firstTarget 99 = .ok (.if_icmp .ne 14, 3) := by decide +kernel
theorem d_Jd_firstTarget_102 : decode b_Jd_firstTarget 102 = .ok (.aload_n 0, 1) := by decide +kernel
theorem d_Jd_firstTarget_103 : decode b_Jd_firstTarget 103 = .ok (.getfield 23, 3) := by decide +kernel
theorem d_Jd_firstTarget_106 : decode b_Jd_firstTarget 106 = .ok (.iload_n 3, 1) := by decide +kernel
theorem d_Jd_firstTarget_107 : decode b_Jd_firstTarget 107 = .ok (.invokevirtual 100, 3) := by decide +kernel
theorem d_Jd_firstTarget_110 : decode b_Jd_firstTarget 110 = .ok (.goto 4, 3) := by decide +kernel
theorem d_Jd_firstTarget_113 : decode b_Jd_firstTarget 113 = .ok (.iload_n 3, 1) := by decide +kernel
theorem d_Jd_firstTarget_114 : decode b_Jd_firstTarget 114 = .ok (.ireturn, 1) := by decide +kernel
theorem d_Jd_remember_0 : decode b_Jd_remember 0 = .ok (.iload 4, 2) := by decide +kernel
theorem d_Jd_remember_2 : decode b_Jd_remember 2 = .ok (.ifCond .lt 15, 3) := by decide +kernel
theorem d_Jd_remember_5 : decode b_Jd_remember 5 = .ok (.iload 4, 2) := by decide +kernel
theorem d_Jd_remember_7 : decode b_Jd_remember 7 = .ok (.iconst 1, 1) := by decide +kernel
theorem d_Jd_remember_8 : decode b_Jd_remember 8 = .ok (.iadd, 1) := by decide +kernel
theorem d_Jd_remember_9 : decode b_Jd_remember 9 = .ok (.aload_n 0, 1) := by decide +kernel
theorem d_Jd_remember_10 : decode b_Jd_remember 10 = .ok (.getfield 9, 3) := by decide +kernel
theorem d_Jd_remember_13 : decode b_Jd_remember 13 = .ok (.arraylength, 1) := by decide +kernel
theorem d_Jd_remember_14 : decode b_Jd_remember 14 = .ok (.if_icmp .lt 4, 3) := by decide +kernel
theorem d_Jd_remember_17 : decode b_Jd_remember 17 = .ok (.return_, 1) := by decide +kernel
theorem d_Jd_remember_18 : decode b_Jd_remember 18 = .ok (.aload_n 1, 1) := by decide +kernel
theorem d_Jd_remember_19 : decode b_Jd_remember 19 = .ok (.getfield 138, 3) := by decide +kernel
theorem d_Jd_remember_22 : decode b_Jd_remember 22 = .ok (.iconst 2, 1) := by decide +kernel
theorem d_Jd_remember_23 : decode b_Jd_remember 23 = .ok (.if_icmp .ne 40, 3) := by decide +kernel
theorem d_Jd_remember_26 : decode b_Jd_remember 26 = .ok (.aload_n 0, 1) := by decide +kernel
theorem d_Jd_remember_27 : decode b_Jd_remember 27 = .ok (.getfield 9, 3) := by decide +kernel
theorem d_Jd_remember_30 : decode b_Jd_remember 30 = .ok (.iload 4, 2) := by decide +kernel
theorem d_Jd_remember_32 : decode b_Jd_remember 32 = .ok (.dup2, 1) := by decide +kernel
theorem d_Jd_remember_33 : decode b_Jd_remember 33 = .ok (.laload, 1) := by decide +kernel
theorem d_Jd_remember_34 : decode b_Jd_remember 34 = .ok (.iload_n 2, 1) := by decide +kernel
theorem d_Jd_remember_35 : decode b_Jd_remember 35 = .ok (.ifCond .eq 22, 3) := by decide +kernel
theorem d_Jd_remember_38 : decode b_Jd_remember 38 = .ok (.aload_n 1, 1) := by decide +kernel
theorem d_Jd_remember_39 : decode b_Jd_remember 39 = .ok (.getstatic 237, 3) := by decide +kernel
theorem d_Jd_remember_42 : decode b_Jd_remember 42 = .ok (.if_acmp .eq 15, 3) := by decide +kernel
theorem d_Jd_remember_45 : decode b_Jd_remember 45 = .ok (.aload_n 0, 1) := by decide +kernel
theorem d_Jd_remember_46 : decode b_Jd_remember 46 = .ok (.getfield 9, 3) := by decide +kernel
theorem d_Jd_remember_49 : decode b_Jd_remember 49 = .ok (.iload 4, 2) := by decide +kernel
theorem d_Jd_remember_51 : decode b_Jd_remember 51 = .ok (.iconst 1, 1) := by decide +kernel
theorem d_Jd_remember_52 : decode b_Jd_remember 52 = .ok (.iadd, 1) := by decide +kernel
theorem d_Jd_remember_53 : decode b_Jd_remember 53 = .ok (.laload, 1) := by decide +kernel
theorem d_Jd_remember_54 : decode b_Jd_remember 54 = .ok (.goto 4, 3) := by decide +kernel
theorem d_Jd_remember_57 : decode b_Jd_remember 57 = .ok (.lconst 0, 1) := by decide +kernel
theorem d_Jd_remember_58 : decode b_Jd_remember 58 = .ok (.lor, 1) := by decide +kernel
theorem d_Jd_remember_59 : decode b_Jd_remember 59 = .ok (.lastore, 1) := by decide +kernel
theorem d_Jd_remember_60 : decode b_Jd_remember 60 = .ok (.goto 34, 3) := by decide +kernel
theorem d_Jd_remember_63 : decode b_Jd_remember 63 = .ok (.aload_n 1, 1) := by decide +kernel
theorem d_Jd_remember_64 : decode b_Jd_remember 64 = .ok (.getstatic 166, 3) := by decide +kernel
theorem d_Jd_remember_67 : decode b_Jd_remember 67 = .ok (.if_acmp .eq 27, 3) := by decide +kernel
theorem d_Jd_remember_70 : decode b_Jd_remember 70 = .ok (.iload_n 2, 1) := by decide +kernel
theorem d_Jd_remember_71 : decode b_Jd_remember 71 = .ok (.ifCond .ne 10, 3) := by decide +kernel
theorem d_Jd_remember_74 : decode b_Jd_remember 74 = .ok (.aload_n 1, 1) := by decide +kernel
theorem d_Jd_remember_75 : decode b_Jd_remember 75 = .ok (.getstatic 240, 3) := by decide +kernel
theorem d_Jd_remember_78 : decode b_Jd_remember 78 = .ok (.if_acmp .eq 16, 3) := by decide +kernel
theorem d_Jd_remember_81 : decode b_Jd_remember 81 = .ok (.aload_n 0, 1) := by decide +kernel
theorem d_Jd_remember_82 : decode b_Jd_remember 82 = .ok (.getfield 9, 3) := by decide +kernel
theorem d_Jd_remember_85 : decode b_Jd_remember 85 = .ok (.iload 4, 2) := by decide +kernel
theorem d_Jd_remember_87 : decode b_Jd_remember 87 = .ok (.dup2, 1) := by decide +kernel
theorem d_Jd_remember_88 : decode b_Jd_remember 88 = .ok (.laload, 1) := by decide +kernel
theorem d_Jd_remember_89 : decode b_Jd_remember 89 = .ok (.lconst 1, 1) := by decide +kernel
theorem d_Jd_remember_90 : decode b_Jd_remember 90 = .ok (.iload_n 3, 1) := by decide +kernel
theorem d_Jd_remember_91 : decode b_Jd_remember 91 = .ok (.lshl, 1) := by decide +kernel
theorem d_Jd_remember_92 : decode b_Jd_remember 92 = .ok (.lor, 1) := by decide +kernel
theorem d_Jd_remember_93 : decode b_Jd_remember 93 = .ok (.lastore, 1) := by decide +kernel
theorem d_Jd_remember_94 : decode b_Jd_remember 94 = .ok (.return_, 1) := by decide +kernel
theorem d_Jd_verdict_0 : decode b_Jd_verdict 0 = .ok (.getstatic 186, 3) := by decide +kernel
theorem d_Jd_verdict_3 : decode b_Jd_verdict 3 = .ok (.aload_n 1, 1) := by decide +kernel
theorem d_Jd_verdict_4 : decode b_Jd_verdict 4 = .ok (.invokevirtual 192, 3) := by decide +kernel
theorem d_Jd_verdict_7 : decode b_Jd_verdict 7 = .ok (.iaload, 1) := by decide +kernel
theorem d_Jd_verdict_8 : decode b_Jd_verdict 8 = .ok (.tableswitch 151 9 12 #[32, 42, 52, 63], 32) := by decide +kernel
theorem d_Jd_verdict_40 : decode b_Jd_verdict 40 = .ok (.iload_n 3, 1) := by decide +kernel
theorem d_Jd_verdict_41 : decode b_Jd_verdict 41 = .ok (.ifCond .ne 7, 3) := by decide +kernel
theorem d_Jd_verdict_44 : decode b_Jd_verdict 44 = .ok (.iconst 1, 1) := by decide +kernel
theorem d_Jd_verdict_45 : decode b_Jd_verdict 45 = .ok (.goto 4, 3) := by decide +kernel
theorem d_Jd_verdict_48 : decode b_Jd_verdict 48 = .ok (.iconst 0, 1) := by decide +kernel
theorem d_Jd_verdict_49 : decode b_Jd_verdict 49 = .ok (.ireturn, 1) := by decide +kernel
theorem d_Jd_verdict_50 : decode b_Jd_verdict 50 = .ok (.iload_n 3, 1) := by decide +kernel
theorem d_Jd_verdict_51 : decode b_Jd_verdict 51 = .ok (.ifCond .le 7, 3) := by decide +kernel
theorem d_Jd_verdict_54 : decode b_Jd_verdict 54 = .ok (.iconst 1, 1) := by decide +kernel
theorem d_Jd_verdict_55 : decode b_Jd_verdict 55 = .ok (.goto 4, 3) := by decide +kernel
theorem d_Jd_verdict_58 : decode b_Jd_verdict 58 = .ok (.iconst 0, 1) := by decide +kernel
theorem d_Jd_verdict_59 : decode b_Jd_verdict 59 = .ok (.ireturn, 1) := by decide +kernel
theorem d_Jd_verdict_60 : decode b_Jd_verdict 60 = .ok (.iload_n 3, 1) := by decide +kernel
theorem d_Jd_verdict_61 : decode b_Jd_verdict 61 = .ok (.iconst 1, 1) := by decide +kernel
theorem d_Jd_verdict_62 : decode b_Jd_verdict 62 = .ok (.if_icmp .ne 7, 3) := by decide +kernel
theorem d_Jd_verdict_65 : decode b_Jd_verdict 65 = .ok (.iconst 1, 1) := by decide +kernel
theorem d_Jd_verdict_66 : decode b_Jd_verdict 66 = .ok (.goto 4, 3) := by decide +kernel
theorem d_Jd_verdict_69 : decode b_Jd_verdict 69 = .ok (.iconst 0, 1) := by decide +kernel
theorem d_Jd_verdict_70 : decode b_Jd_verdict 70 = .ok (.ireturn, 1) := by decide +kernel
theorem d_Jd_verdict_71 : decode b_Jd_verdict 71 = .ok (.aload_n 0, 1) := by decide +kernel
theorem d_Jd_verdict_72 : decode b_Jd_verdict 72 = .ok (.getfield 19, 3) := by decide +kernel
theorem d_Jd_verdict_75 : decode b_Jd_verdict 75 = .ok (.aload_n 0, 1) := by decide +kernel
theorem d_Jd_verdict_76 : decode b_Jd_verdict 76 = .ok (.getfield 15, 3) := by decide +kernel
theorem d_Jd_verdict_79 : decode b_Jd_verdict 79 = .ok (.iload_n 2, 1) := by decide +kernel
theorem d_Jd_verdict_80 : decode b_Jd_verdict 80 = .ok (.invokevirtual 202, 3) := by decide +kernel
theorem d_Jd_verdict_83 : decode b_Jd_verdict 83 = .ok (.getstatic 243, 3) := by decide +kernel
theorem d_Jd_verdict_86 : decode b_Jd_verdict 86 = .ok (.invokevirtual 134, 3) := by decide +kernel
theorem d_Jd_verdict_89 : decode b_Jd_verdict 89 = .ok (.istore 5, 2) := by decide +kernel
theorem d_Jd_verdict_91 : decode b_Jd_verdict 91 = .ok (.aload_n 0, 1) := by decide +kernel
theorem d_Jd_verdict_92 : decode b_Jd_verdict 92 = .ok (.getfield 19, 3) := by decide +kernel
theorem d_Jd_verdict_95 : decode b_Jd_verdict 95 = .ok (.aload_n 0, 1) := by decide +kernel
theorem d_Jd_verdict_96 : decode b_Jd_verdict 96 = .ok (.getfield 15, 3) := by decide +kernel
theorem d_Jd_verdict_99 : decode b_Jd_verdict 99 = .ok (.iload_n 2, 1) := by decide +kernel
theorem d_Jd_verdict_100 : decode b_Jd_verdict 100 = .ok (.invokevirtual 202, 3) := by decide +kernel
theorem d_Jd_verdict_103 : decode b_Jd_verdict 103 = .ok (.getstatic 246, 3) := by decide +kernel
theorem d_Jd_verdict_106 : decode b_Jd_verdict 106 = .ok (.invokevirtual 134, 3) := by decide +kernel
theorem d_Jd_verdict_109 : decode b_Jd_verdict 109 = .ok (.istore 6, 2) := by decide +kernel
theorem d_Jd_verdict_111 : decode b_Jd_verdict 111 = .ok (.iload_n 3, 1) := by decide +kernel
theorem d_Jd_verdict_112 : decode b_Jd_verdict 112 = .ok (.iload 5, 2) := by decide +kernel
theorem d_Jd_verdict_114 : decode b_Jd_verdict 114 = .ok (.iconst (-1), 1) := by decide +kernel
theorem d_Jd_verdict_115 : decode b_Jd_verdict 115 = .ok (.if_icmp .ne 7, 3) := by decide +kernel
theorem d_Jd_verdict_118 : decode b_Jd_verdict 118 = .ok (.iconst 1, 1) := by decide +kernel
theorem d_Jd_verdict_119 : decode b_Jd_verdict 119 = .ok (.goto 12, 3) := by decide +kernel
theorem d_Jd_verdict_122 : decode b_Jd_verdict 122 = .ok (.aload_n 0, 1) := by decide +kernel
theorem d_Jd_verdict_123 : decode b_Jd_verdict 123 = .ok (.getfield 15, 3) := by decide +kernel
theorem d_Jd_verdict_126 : decode b_Jd_verdict 126 = .ok (.iload 5, 2) := by decide +kernel
theorem d_Jd_verdict_128 : decode b_Jd_verdict 128 = .ok (.invokevirtual 249, 3) := by decide +kernel
theorem d_Jd_verdict_131 : decode b_Jd_verdict 131 = .ok (.if_icmp .lt 26, 3) := by decide +kernel
theorem d_Jd_verdict_134 : decode b_Jd_verdict 134 = .ok (.iload 6, 2) := by decide +kernel
theorem d_Jd_verdict_136 : decode b_Jd_verdict 136 = .ok (.iconst (-1), 1) := by decide +kernel
theorem d_Jd_verdict_137 : decode b_Jd_verdict 137 = .ok (.if_icmp .eq 16, 3) := by decide +kernel
theorem d_Jd_verdict_140 : decode b_Jd_verdict 140 = .ok (.iload_n 3, 1) := by decide +kernel
theorem d_Jd_verdict_141 : decode b_Jd_verdict 141 = .ok (.aload_n 0, 1) := by decide +kernel
theorem d_Jd_verdict_142 : decode b_Jd_verdict 142 = .ok (.getfield 15, 3) := by decide +kernel
theorem d_Jd_verdict_145 : decode b_Jd_verdict 145 = .ok (.iload 6, 2) := by decide +kernel
theorem d_Jd_verdict_147 : decode b_Jd_verdict 147 = .ok (.invokevirtual 249, 3) := by decide +kernel
theorem d_Jd_verdict_150 : decode b_Jd_verdict 150 = .ok (.if_icmp .gt 7, 3) := by decide +kernel
theorem d_Jd_verdict_153 : decode b_Jd_verdict 153 = .ok (.iconst 1, 1) := by decide +kernel
theorem d_Jd_verdict_154 : decode b_Jd_verdict 154 = .ok (.goto 4, 3) := by decide +kernel
theorem d_Jd_verdict_157 : decode b_Jd_verdict 157 = .ok (.iconst 0, 1) := by decide +kernel
theorem d_Jd_verdict_158 : decode b_Jd_verdict 158 = .ok (.ireturn, 1) := by decide +kernel
theorem d_Jd_verdict_159 : decode b_Jd_verdict 159 = .ok (.iload 4, 2) := by decide +kernel
theorem d_Jd_verdict_161 : decode b_Jd_verdict 161 = .ok (.ifCond .ne 7, 3) := by decide +kernel
theorem d_Jd_verdict_164 : decode b_Jd_verdict 164 = .ok (.iconst 1, 1) := by decide +kernel
theorem d_Jd_verdict_165 : decode b_Jd_verdict 165 = .ok (.goto 4, 3) := by decide +kernel
theorem d_Jd_verdict_168 : decode b_Jd_verdict 168 = .ok (.iconst 0, 1) := by decide +kernel
theorem d_Jd_verdict_169 : decode b_Jd_verdict 169 = .ok (.ireturn, 1) := by decide +kernel
theorem d_Kw_tellsFailuresOnly_0 : decode b_Kw_tellsFailuresOnly 0 = .ok (.aload_n 0, 1) := by decide +kernel
theorem d_Kw_tellsFailuresOnly_1 : decode b_Kw_tellsFailuresOnly 1 = .ok (.getstatic 42, 3) := by decide +kernel
theorem d_Kw_tellsFailuresOnly_4 : decode b_Kw_tellsFailuresOnly 4 = .ok (.if_acmp .eq 10, 3) := by decide +kernel
theorem d_Kw_tellsFailuresOnly_7 : decode b_Kw_tellsFailuresOnly 7 = .ok (.aload_n 0, 1) := by decide +kernel
theorem d_Kw_tellsFailuresOnly_8 : decode b_Kw_tellsFailuresOnly 8 = .ok (.getstatic 45, 3) := by decide +kernel
theorem d_Kw_tellsFailuresOnly_11 : decode b_Kw_tellsFailuresOnly 11 = .ok (.if_acmp .ne 7, 3) := by decide +kernel
theorem d_Kw_tellsFailuresOnly_14 : decode b_Kw_tellsFailuresOnly 14 = .ok (.iconst 1, 1) := by decide +kernel
theorem d_Kw_tellsFailuresOnly_15 : decode b_Kw_tellsFailuresOnly 15 = .ok (.goto 4, 3) := by decide +kernel
theorem d_Kw_tellsFailuresOnly_18 : decode b_Kw_tellsFailuresOnly 18 = .ok (.iconst 0, 1) := by decide +kernel
theorem d_Kw_tellsFailuresOnly_19 : decode b_Kw_tellsFailuresOnly 19 = .ok (.ireturn, 1) := by decide +kernel
theorem d_Kw_concerns_0 : decode b_Kw_concerns 0 = .ok (.aload_n 0, 1) := by decide +kernel
theorem d_Kw_concerns_1 : decode b_Kw_concerns 1 = .ok (.getfield 168, 3) := by decide +kernel
theorem d_Kw_concerns_4 : decode b_Kw_concerns 4 = .ok (.iconst (-1), 1) := by decide +kernel
theorem d_Kw_concerns_5 : decode b_Kw_concerns 5 = .ok (.if_icmp .eq 11, 3) := by decide +kernel
theorem d_Kw_concerns_8 : decode b_Kw_concerns 8 = .ok (.aload_n 0, 1) := by decide +kernel
theorem d_Kw_concerns_9 : decode b_Kw_concerns 9 = .ok (.getfield 168, 3) := by decide +kernel
theorem d_Kw_concerns_12 : decode b_Kw_concerns 12 = .ok (.iload_n 1, 1) := by decide +kernel
theorem d_Kw_concerns_13 : decode b_Kw_concerns 13 = .ok (.if_icmp .ne 7, 3) := by decide +kernel
theorem d_Kw_concerns_16 : decode b_Kw_concerns 16 = .ok (.iconst 1, 1) := by decide +kernel
theorem d_Kw_concerns_17 : decode b_Kw_concerns 17 = .ok (.goto 4, 3) := by decide +kernel
theorem d_Kw_concerns_20 : decode b_Kw_concerns 20 = .ok (.iconst 0, 1) := by decide +kernel
theorem d_Kw_concerns_21 : decode b_Kw_concerns 21 = .ok (.ireturn, 1) := by decide +kernel
theorem d_Jd_isOfType_0 : decode b_Jd_isOfType 0 = .ok (.aload_n 0, 1) := by decide +kernel
theorem d_Jd_isOfType_1 : decode b_Jd_isOfType 1 = .ok (.getfield 23, 3) := by decide +kernel
theorem d_Jd_isOfType_4 : decode b_Jd_isOfType 4 = .ok (.iload_n 2, 1) := by decide +kernel
theorem d_Jd_isOfType_5 : decode b_Jd_isOfType 5 = .ok (.invokevirtual 91, 3) := by decide +kernel
theorem d_Jd_isOfType_8 : decode b_Jd_isOfType 8 = .ok (.tableswitch 133 0 5 #[40, 52, 52, 64, 109, 121], 40) := by decide +kernel
theorem d_Jd_isOfType_48 : decode b_Jd_isOfType 48 = .ok (.aload_n 0, 1) := by decide +kernel
theorem d_Jd_isOfType_49 : decode b_Jd_isOfType 49 = .ok (.getfield 15, 3) := by decide +kernel
theorem d_Jd_isOfType_52 : decode b_Jd_isOfType 52 = .ok (.iload_n 1, 1) := by decide +kernel
theorem d_Jd_isOfType_53 : decode b_Jd_isOfType 53 = .ok (.ldc_w 283, 3) := by decide +kernel
theorem d_Jd_isOfType_56 : decode b_Jd_isOfType 56 = .ok (.invokevirtual 285, 3) := by decide +kernel
theorem d_Jd_isOfType_59 : decode b_Jd_isOfType 59 = .ok (.ireturn, 1) := by decide +kernel
theorem d_Jd_isOfType_60 : decode b_Jd_isOfType 60 = .ok (.aload_n 0, 1) := by decide +kernel
theorem d_Jd_isOfType_61 : decode b_Jd_isOfType 61 = .ok (.getfield 15, 3) := by decide +kernel
theorem d_Jd_isOfType_64 : decode b_Jd_isOfType 64 = .ok (.iload_n 1, 1) := by decide +kernel
theorem d_Jd_isOfType_65 : decode b_Jd_isOfType 65 = .ok (.ldc_w 289, 3) := by decide +kernel
theorem d_Jd_isOfType_68 : decode b_Jd_isOfType 68 = .ok (.invokevirtual 285, 3) := by decide +kernel
theorem d_Jd_isOfType_71 : decode b_Jd_isOfType 71 = .ok (.ireturn, 1) := by decide +kernel
theorem d_Jd_isOfType_72 : decode b_Jd_isOfType 72 = .ok (.aload_n 0, 1) := by decide +kernel
theorem d_Jd_isOfType_73 : decode b_Jd_isOfType 73 = .ok (.getfield 15, 3) := by decide +kernel
theorem d_Jd_isOfType_76 : decode b_Jd_isOfType 76 = .ok (.iload_n 1, 1) := by decide +kernel
theorem d_Jd_isOfType_77 : decode b_Jd_isOfType 77 = .ok (.ldc_w 291, 3) := by decide +kernel
theorem d_Jd_isOfType_80 : decode b_Jd_isOfType 80 = .ok (.invokevirtual 285, 3) := by decide +kernel
theorem d_Jd_isOfType_83 : decode b_Jd_isOfType 83 = .ok (.ifCond .ne 28, 3) := by decide +kernel
theorem d_Jd_isOfType_86 : decode b_Jd_isOfType 86 = .ok (.aload_n 0, 1) := by decide +kernel
theorem d_Jd_isOfType_87 : decode b_Jd_isOfType 87 = .ok (.getfield 23, 3) := by decide +kernel
theorem d_Jd_isOfType_90 : decode b_Jd_isOfType 90 = .ok (.iload_n 2, 1) := by decide +kernel
theorem d_Jd_isOfType_91 : decode b_Jd_isOfType 91 = .ok (.invokevirtual 293, 3) := by decide +kernel
theorem d_Jd_isOfType_94 : decode b_Jd_isOfType 94 = .ok (.ifCond .lt 21, 3) := by decide +kernel
theorem d_Jd_isOfType_97 : decode b_Jd_isOfType 97 = .ok (.aload_n 0, 1) := by decide +kernel
theorem d_Jd_isOfType_98 : decode b_Jd_isOfType 98 = .ok (.getfield 15, 3) := by decide +kernel
theorem d_Jd_isOfType_101 : decode b_Jd_isOfType 101 = .ok (.iload_n 1, 1) := by decide +kernel
theorem d_Jd_isOfType_102 : decode b_Jd_isOfType 102 = .ok (.ldc_w 296, 3) := by decide +kernel
theorem d_Jd_isOfType_105 : decode b_Jd_isOfType 105 = .ok (.invokevirtual 285, 3) := by decide +kernel
theorem d_Jd_isOfType_108 : decode b_Jd_isOfType 108 = .ok (.ifCond .eq 7, 3) := by decide +kernel
theorem d_Jd_isOfType_111 : decode b_Jd_isOfType 111 = .ok (.iconst 1, 1) := by decide +kernel
theorem d_Jd_isOfType_112 : decode b_Jd_isOfType 112 = .ok (.goto 4, 3) := by decide +kernel
theorem d_Jd_isOfType_115 : decode b_Jd_isOfType 115 = .ok (.iconst 0, 1) := by decide +kernel
theorem d_Jd_isOfType_116 : decode b_Jd_isOfType 116 = .ok (.ireturn, 1) := by decide +kernel
theorem d_Jd_isOfType_117 : decode b_Jd_isOfType 117 = .ok (.aload_n 0, 1) := by decide +kernel
theorem d_Jd_isOfType_118 : decode b_Jd_isOfType 118 = .ok (.getfield 15, 3) := by decide +kernel
theorem d_Jd_isOfType_121 : decode b_Jd_isOfType 121 = .ok (.iload_n 1, 1) := by decide +kernel
theorem d_Jd_isOfType_122 : decode b_Jd_isOfType 122 = .ok (.ldc_w 298, 3) := by decide +kernel
theorem d_Jd_isOfType_125 : decode b_Jd_isOfType 125 = .ok (.invokevirtual 285, 3) := by decide +kernel
theorem d_Jd_isOfType_128 : decode b_Jd_isOfType 128 = .ok (.ireturn, 1) := by decide +kernel
theorem d_Jd_isOfType_129 : decode b_Jd_isOfType 129 = .ok (.aload_n 0, 1) := by decide +kernel
theorem d_Jd_isOfType_130 : decode b_Jd_isOfType 130 = .ok (.getfield 15, 3) := by decide +kernel
theorem d_Jd_isOfType_133 : decode b_Jd_isOfType 133 = .ok (.iload_n 1, 1) := by decide +kernel
theorem d_Jd_isOfType_134 : decode b_Jd_isOfType 134 = .ok (.ldc_w 300, 3) := by decide +kernel
theorem d_Jd_isOfType_137 : decode b_Jd_isOfType 137 = .ok (.invokevirtual 285, 3) := by decide +kernel
theorem d_Jd_isOfType_140 : decode b_Jd_isOfType 140 = .ok (.ireturn, 1) := by decide +kernel
theorem d_Jd_isOfType_141 : decode b_Jd_isOfType 141 = .ok (.aload_n 0, 1) := by decide +kernel
theorem d_Jd_isOfType_142 : decode b_Jd_isOfType 142 = .ok (.getfield 15, 3) := by decide +kernel
theorem d_Jd_isOfType_145 : decode b_Jd_isOfType 145 = .ok (.iload_n 1, 1) := by decide +kernel
theorem d_Jd_isOfType_146 : decode b_Jd_isOfType 146 = .ok (.ldc_w 302, 3) := by decide +kernel
theorem d_Jd_isOfType_149 : decode b_Jd_isOfType 149 = .ok (.invokevirtual 285, 3) := by decide +kernel
theorem d_Jd_isOfType_152 : decode b_Jd_isOfType 152 = .ok (.ireturn, 1) := by decide +kernel
theorem d_Jd_hasType_0 : decode b_Jd_hasType 0 = .ok (.aload_n 0, 1) := by decide +kernel
theorem d_Jd_hasType_1 : decode b_Jd_hasType 1 = .ok (.getfield 15, 3) := by decide +kernel
theorem d_Jd_hasType_4 : decode b_Jd_hasType 4 = .ok (.iload_n 1, 1) := by decide +kernel
theorem d_Jd_hasType_5 : decode b_Jd_hasType 5 = .ok (.invokevirtual 91, 3) := by decide +kernel
theorem d_Jd_hasType_8 : decode b_Jd_hasType 8 = .ok (.iconst 4, 1) := by decide +kernel
theorem d_Jd_hasType_9 : decode b_Jd_hasType 9 = .ok (.if_icmp .ne 10, 3) := by decide +kernel
theorem d_Jd_hasType_12 : decode b_Jd_hasType 12 = .ok (.aload_n 0, 1) := by decide +kernel
theorem d_Jd_hasType_13 : decode b_Jd_hasType 13 = .ok (.iload_n 1, 1) := by decide +kernel
theorem d_Jd_hasType_14 : decode b_Jd_hasType 14 = .ok (.iload_n 2, 1) := by decide +kernel
theorem d_Jd_hasType_15 : decode b_Jd_hasType 15 = .ok (.invokevirtual 280, 3) := by decide +kernel
theorem d_Jd_hasType_18 : decode b_Jd_hasType 18 = .ok (.ireturn, 1) := by decide +kernel
theorem d_Jd_hasType_19 : decode b_Jd_hasType 19 = .ok (.aload_n 0, 1) := by decide +kernel
theorem d_Jd_hasType_20 : decode b_Jd_hasType 20 = .ok (.getfield 15, 3) := by decide +kernel
theorem d_Jd_hasType_23 : decode b_Jd_hasType 23 = .ok (.iload_n 1, 1) := by decide +kernel
theorem d_Jd_hasType_24 : decode b_Jd_hasType 24 = .ok (.invokevirtual 100, 3) := by decide +kernel
theorem d_Jd_hasType_27 : decode b_Jd_hasType 27 = .ok (.istore_n 3, 1) := by decide +kernel
theorem d_Jd_hasType_28 : decode b_Jd_hasType 28 = .ok (.iconst 0, 1) := by decide +kernel
theorem d_Jd_hasType_29 : decode b_Jd_hasType 29 = .ok (.istore 4, 2) := by decide +kernel
theorem d_Jd_hasType_31 : decode b_Jd_hasType 31 = .ok (.iload 4, 2) := by decide +kernel
theorem d_Jd_hasType_33 : decode b_Jd_hasType 33 = .ok (.aload_n 0, 1) := by decide +kernel
theorem d_Jd_hasType_34 : decode b_Jd_hasType 34 = .ok (.getfield 15, 3) := by decide +kernel
theorem d_Jd_hasType_37 : decode b_Jd_hasType 37 = .ok (.iload_n 1, 1) := by decide +kernel
theorem d_Jd_hasType_38 : decode b_Jd_hasType 38 = .ok (.invokevirtual 103, 3) := by decide +kernel
theorem d_Jd_hasType_41 : decode b_Jd_hasType 41 = .ok (.if_icmp .ge 29, 3) := by decide +kernel
theorem d_Jd_hasType_44 : decode b_Jd_hasType 44 = .ok (.aload_n 0, 1) := by decide +kernel
theorem d_Jd_hasType_45 : decode b_Jd_hasType 45 = .ok (.iload_n 3, 1) := by decide +kernel
theorem d_Jd_hasType_46 : decode b_Jd_hasType 46 = .ok (.iload_n 2, 1) := by decide +kernel
theorem d_Jd_hasType_47 : decode b_Jd_hasType 47 = .ok (.invokevirtual 280, 3) := by decide +kernel
theorem d_Jd_hasType_50 : decode b_Jd_hasType 50 = .ok (.ifCond .eq 5, 3) := by decide +kernel
theorem d_Jd_hasType_53 : decode b_Jd_hasType 53 = .ok (.iconst 1, 1) := by decide +kernel
theorem d_Jd_hasType_54 : decode b_Jd_hasType 54 = .ok (.ireturn, 1) := by decide +kernel
theorem d_Jd_hasType_55 : decode b_Jd_hasType 55 = .ok (.aload_n 0, 1) := by decide +kernel
theorem d_Jd_hasType_56 : decode b_Jd_hasType 56 = .ok (.getfield 15, 3) := by decide +kernel
theorem d_Jd_hasType_59 : decode b_Jd_hasType 59 = .ok (.iload_n 3, 1) := by decide +kernel
theorem d_Jd_hasType_60 : decode b_Jd_hasType 60 = .ok (.invokevirtual 111, 3) := by decide +kernel
theorem d_Jd_hasType_63 : decode b_Jd_hasType 63 = .ok (.istore_n 3, 1) := by decide +kernel
theorem d_Jd_hasType_64 : decode b_Jd_hasType 64 = .ok (.iinc 4 1, 3) := by decide +kernel
theorem d_Jd_hasType_67 : decode b_Jd_hasType 67 = .ok (.goto (-36), 3) := by decide +kernel
theorem d_Jd_hasType_70 : decode b_Jd_hasType 70 = .ok (.iconst 0, 1) := by decide +kernel
theorem d_Jd_hasType_71 : decode b_Jd_hasType 71 = .ok (.ireturn, 1) := by decide +kernel
theorem d_Tx_compare_0 : decode b_Tx_compare 0 = .ok (.aload_n 0, 1) := by decide +kernel
theorem d_Tx_compare_1 : decode b_Tx_compare 1 = .ok (.iload_n 1, 1) := by decide +kernel
theorem d_Tx_compare_2 : decode b_Tx_compare 2 = .ok (.invokevirtual 80, 3) := by decide +kernel
theorem d_Tx_compare_5 : decode b_Tx_compare 5 = .ok (.istore 4, 2) := by decide +kernel
theorem d_Tx_compare_7 : decode b_Tx_compare 7 = .ok (.iload 4, 2) := by decide +kernel
theorem d_Tx_compare_9 : decode b_Tx_compare 9 = .ok (.aload_n 2, 1) := by decide +kernel
theorem d_Tx_compare_10 : decode b_Tx_compare 10 = .ok (.iload_n 3, 1) := by decide +kernel
theorem d_Tx_compare_11 : decode b_Tx_compare 11 = .ok (.invokevirtual 80, 3) := by decide +kernel
theorem d_Tx_compare_14 : decode b_Tx_compare 14 = .ok (.if_icmp .ne 8, 3) := by decide +kernel
theorem d_Tx_compare_17 : decode b_Tx_compare 17 = .ok (.iload 4, 2) := by decide +kernel
theorem d_Tx_compare_19 : decode b_Tx_compare 19 = .ok (.ifCond .ne 12, 3) := by decide +kernel
theorem d_Tx_compare_22 : decode b_Tx_compare 22 = .ok (.iload 4, 2) := by decide +kernel
theorem d_Tx_compare_24 : decode b_Tx_compare 24 = .ok (.aload_n 2, 1) := by decide +kernel
theorem d_Tx_compare_25 : decode b_Tx_compare 25 = .ok (.iload_n 3, 1) := by decide +kernel
theorem d_Tx_compare_26 : decode b_Tx_compare 26 = .ok (.invokevirtual 80, 3) := by decide +kernel
theorem d_Tx_compare_29 : decode b_Tx_compare 29 = .ok (.isub, 1) := by decide +kernel
theorem d_Tx_compare_30 : decode b_Tx_compare 30 = .ok (.ireturn, 1) := by decide +kernel
theorem d_Tx_compare_31 : decode b_Tx_compare 31 = .ok (.aload_n 0, 1) := by decide +kernel
theorem d_Tx_compare_32 : decode b_Tx_compare 32 = .ok (.iload_n 1, 1) := by decide +kernel
theorem d_Tx_compare_33 : decode b_Tx_compare 33 = .ok (.invokevirtual 60, 3) := by decide +kernel
theorem d_Tx_compare_36 : decode b_Tx_compare 36 = .ok (.aload_n 0, 1) := by decide +kernel
theorem d_Tx_compare_37 : decode b_Tx_compare 37 = .ok (.iload_n 1, 1) := by decide +kernel
theorem d_Tx_compare_38 : decode b_Tx_compare 38 = .ok (.invokevirtual 83, 3) := by decide +kernel
theorem d_Tx_compare_41 : decode b_Tx_compare 41 = .ok (.iadd, 1) := by decide +kernel
theorem d_Tx_compare_42 : decode b_Tx_compare 42 = .ok (.istore 5, 2) := by decide +kernel
theorem d_Tx_compare_44 : decode b_Tx_compare 44 = .ok (.aload_n 2, 1) := by decide +kernel
theorem d_Tx_compare_45 : decode b_Tx_compare 45 = .ok (.iload_n 3, 1) := by decide +kernel
theorem d_Tx_compare_46 : decode b_Tx_compare 46 = .ok (.invokevirtual 60, 3) := by decide +kernel
theorem d_Tx_compare_49 : decode b_Tx_compare 49 = .ok (.aload_n 2, 1) := by decide +kernel
theorem d_Tx_compare_50 : decode b_Tx_compare 50 = .ok (.iload_n 3, 1) := by decide +kernel
theorem d_Tx_compare_51 : decode b_Tx_compare 51 = .ok (.invokevirtual 83, 3) := by decide +kernel
theorem d_Tx_compare_54 : decode b_Tx_compare 54 = .ok (.iadd, 1) := by decide +kernel
theorem d_Tx_compare_55 : decode b_Tx_compare 55 = .ok (.istore 6, 2) := by decide +kernel
theorem d_Tx_compare_57 : decode b_Tx_compare 57 = .ok (.iload 5, 2) := by decide +kernel
theorem d_Tx_compare_59 : decode b_Tx_compare 59 = .ok (.iload 6, 2) := by decide +kernel
theorem d_Tx_compare_61 : decode b_Tx_compare 61 = .ok (.if_icmp .eq 19, 3) := by decide +kernel
theorem d_Tx_compare_64 : decode b_Tx_compare 64 = .ok (.iload 5, 2) := by decide +kernel
theorem d_Tx_compare_66 : decode b_Tx_compare 66 = .ok (.iload 6, 2) := by decide +kernel
theorem d_Tx_compare_68 : decode b_Tx_compare 68 = .ok (.if_icmp .ge 9, 3) := by decide +kernel
theorem d_Tx_compare_71 : decode b_Tx_compare 71 = .ok (.iload 4, 2) := by decide +kernel
theorem d_Tx_compare_73 : decode b_Tx_compare 73 = .ok (.ineg, 1) := by decide +kernel
theorem d_Tx_compare_74 : decode b_Tx_compare 74 = .ok (.goto 5, 3) := by decide +kernel
theorem d_Tx_compare_77 : decode b_Tx_compare 77 = .ok (.iload 4, 2) := by decide +kernel
theorem d_Tx_compare_79 : decode b_Tx_compare 79 = .ok (.ireturn, 1) := by decide +kernel
theorem d_Tx_compare_80 : decode b_Tx_compare 80 = .ok (.iconst 0, 1) := by decide +kernel
theorem d_Tx_compare_81 : decode b_Tx_compare 81 = .ok (.istore 7, 2) := by decide +kernel
theorem d_Tx_compare_83 : decode b_Tx_compare 83 = .ok (.iload 7, 2) := by decide +kernel
theorem d_Tx_compare_85 : decode b_Tx_compare 85 = .ok (.bipush 60, 2) := by decide +kernel
theorem d_Tx_compare_87 : decode b_Tx_compare 87 = .ok (.if_icmp .ge 50, 3) := by decide +kernel
theorem d_Tx_compare_90 : decode b_Tx_compare 90 = .ok (.aload_n 0, 1) := by decide +kernel
theorem d_Tx_compare_91 : decode b_Tx_compare 91 = .ok (.iload_n 1, 1) := by decide +kernel
theorem d_Tx_compare_92 : decode b_Tx_compare 92 = .ok (.iload 7, 2) := by decide +kernel
theorem d_Tx_compare_94 : decode b_Tx_compare 94 = .ok (.invokevirtual 86, 3) := by decide +kernel
theorem d_Tx_compare_97 : decode b_Tx_compare 97 = .ok (.istore 8, 2) := by decide +kernel
theorem d_Tx_compare_99 : decode b_Tx_compare 99 = .ok (.aload_n 2, 1) := by decide +kernel
theorem d_Tx_compare_100 : decode b_Tx_compare 100 = .ok (.iload_n 3, 1) := by decide +kernel
theorem d_Tx_compare_101 : decode b_Tx_compare 101 = .ok (.iload 7, 2) := by decide +kernel
theorem d_Tx_compare_103 : decode b_Tx_compare 103 = .ok (.invokevirtual 86, 3) := by decide +kernel
theorem d_Tx_compare_106 : decode b_Tx_compare 106 = .ok (.istore 9, 2) := by decide +kernel
theorem d_Tx_compare_108 : decode b_Tx_compare 108 = .ok (.iload 8, 2) := by decide +kernel
theorem d_Tx_compare_110 : decode b_Tx_compare 110 = .ok (.iload 9, 2) := by decide +kernel
theorem d_Tx_compare_112 : decode b_Tx_compare 112 = .ok (.if_icmp .eq 19, 3) := by decide +kernel
theorem d_Tx_compare_115 : decode b_Tx_compare 115 = .ok (.iload 8, 2) := by decide +kernel
theorem d_Tx_compare_117 : decode b_Tx_compare 117 = .ok (.iload 9, 2) := by decide +kernel
theorem d_Tx_compare_119 : decode b_Tx_compare 119 = .ok (.if_icmp .ge 9, 3) := by decide +kernel
theorem d_Tx_compare_122 : decode b_Tx_compare 122 = .ok (.iload 4, 2) := by decide +kernel
theorem d_Tx_compare_124 : decode b_Tx_compare 124 = .ok (.ineg, 1) := by decide +kernel
theorem d_Tx_compare_125 : decode b_Tx_compare 125 = .ok (.goto 5, 3) := by decide +kernel
theorem d_Tx_compare_128 : decode b_Tx_compare 128 = .ok (.iload 4, 2) := by decide +kernel
theorem d_Tx_compare_130 : decode b_Tx_compare 130 = .ok (.ireturn, 1) := by decide +kernel
theorem d_Tx_compare_131 : decode b_Tx_compare 131 = .ok (.iinc 7 1, 3) := by decide +kernel
theorem d_Tx_compare_134 : decode b_Tx_compare 134 = .ok (.goto (-51), 3) := by decide +kernel
theorem d_Tx_compare_137 : decode b_Tx_compare 137 = .ok (.iconst 0, 1) := by decide +kernel
theorem d_Tx_compare_138 : decode b_Tx_compare 138 = .ok (.ireturn, 1) := by decide +kernel
theorem d_Tx_same_0 : decode b_Tx_same 0 = .ok (.aload_n 0, 1) := by decide +kernel
theorem d_Tx_same_1 : decode b_Tx_same 1 = .ok (.iload_n 1, 1) := by decide +kernel
theorem d_Tx_same_2 : decode b_Tx_same 2 = .ok (.invokevirtual 77, 3) := by decide +kernel
theorem d_Tx_same_5 : decode b_Tx_same 5 = .ok (.istore 5, 2) := by decide +kernel
theorem d_Tx_same_7 : decode b_Tx_same 7 = .ok (.iload 5, 2) := by decide +kernel
theorem d_Tx_same_9 : decode b_Tx_same 9 = .ok (.aload_n 2, 1) := by decide +kernel
theorem d_Tx_same_10 : decode b_Tx_same 10 = .ok (.iload_n 3, 1) := by decide +kernel
theorem d_Tx_same_11 : decode b_Tx_same 11 = .ok (.invokevirtual 77, 3) := by decide +kernel
theorem d_Tx_same_14 : decode b_Tx_same 14 = .ok (.if_icmp .ne 10, 3) := by decide +kernel
theorem d_Tx_same_17 : decode b_Tx_same 17 = .ok (.iload 4, 2) := by decide +kernel
theorem d_Tx_same_19 : decode b_Tx_same 19 = .ok (.bipush 40, 2) := by decide +kernel
theorem d_Tx_same_21 : decode b_Tx_same 21 = .ok (.if_icmp .le 5, 3) := by decide +kernel
theorem d_Tx_same_24 : decode b_Tx_same 24 = .ok (.iconst 0, 1) := by decide +kernel
theorem d_Tx_same_25 : decode b_Tx_same 25 = .ok (.ireturn, 1) := by decide +kernel
theorem d_Tx_same_26 : decode b_Tx_same 26 = .ok (.iload 5, 2) := by decide +kernel
theorem d_Tx_same_28 : decode b_Tx_same 28 = .ok (.iconst 3, 1) := by decide +kernel
theorem d_Tx_same_29 : decode b_Tx_same 29 = .ok (.if_icmp .ne 19, 3) := by decide +kernel
theorem d_Tx_same_32 : decode b_Tx_same 32 = .ok (.aload_n 0, 1) := by decide +kernel
theorem d_Tx_same_33 : decode b_Tx_same 33 = .ok (.iload_n 1, 1) := by decide +kernel
theorem d_Tx_same_34 : decode b_Tx_same 34 = .ok (.aload_n 2, 1) := by decide +kernel
theorem d_Tx_same_35 : decode b_Tx_same 35 = .ok (.iload_n 3, 1) := by decide +kernel
theorem d_Tx_same_36 : decode b_Tx_same 36 = .ok (.invokestatic 91, 3) := by decide +kernel
theorem d_Tx_same_39 : decode b_Tx_same 39 = .ok (.ifCond .ne 7, 3) := by decide +kernel
theorem d_Tx_same_42 : decode b_Tx_same 42 = .ok (.iconst 1, 1) := by decide +kernel
theorem d_Tx_same_43 : decode b_Tx_same 43 = .ok (.goto 4, 3) := by decide +kernel
theorem d_Tx_same_46 : decode b_Tx_same 46 = .ok (.iconst 0, 1) := by decide +kernel
theorem d_Tx_same_47 : decode b_Tx_same 47 = .ok (.ireturn, 1) := by decide +kernel
theorem d_Tx_same_48 : decode b_Tx_same 48 = .ok (.iload 5, 2) := by decide +kernel
theorem d_Tx_same_50 : decode b_Tx_same 50 = .ok (.iconst 4, 1) := by decide +kernel
theorem d_Tx_same_51 : decode b_Tx_same 51 = .ok (.if_icmp .ne 11, 3) := by decide +kernel
theorem d_Tx_same_54 : decode b_Tx_same 54 = .ok (.aload_n 0, 1) := by decide +kernel
theorem d_Tx_same_55 : decode b_Tx_same 55 = .ok (.iload_n 1, 1) := by decide +kernel
theorem d_Tx_same_56 : decode b_Tx_same 56 = .ok (.aload_n 2, 1) := by decide +kernel
theorem d_Tx_same_57 : decode b_Tx_same 57 = .ok (.iload_n 3, 1) := by decide +kernel
theorem d_Tx_same_58 : decode b_Tx_same 58 = .ok (.invokestatic 63, 3) := by decide +kernel
theorem d_Tx_same_61 : decode b_Tx_same 61 = .ok (.ireturn, 1) := by decide +kernel
theorem d_Tx_same_62 : decode b_Tx_same 62 = .ok (.aload_n 0, 1) := by decide +kernel
theorem d_Tx_same_63 : decode b_Tx_same 63 = .ok (.iload_n 1, 1) := by decide +kernel
theorem d_Tx_same_64 : decode b_Tx_same 64 = .ok (.invokevirtual 60, 3) := by decide +kernel
theorem d_Tx_same_67 : decode b_Tx_same 67 = .ok (.aload_n 2, 1) := by decide +kernel
theorem d_Tx_same_68 : decode b_Tx_same 68 = .ok (.iload_n 3, 1) := by decide +kernel
theorem d_Tx_same_69 : decode b_Tx_same 69 = .ok (.invokevirtual 60, 3) := by decide +kernel
theorem d_Tx_same_72 : decode b_Tx_same 72 = .ok (.if_icmp .eq 5, 3) := by decide +kernel
theorem d_Tx_same_75 : decode b_Tx_same 75 = .ok (.iconst 0, 1) := by decide +kernel
theorem d_Tx_same_76 : decode b_Tx_same 76 = .ok (.ireturn, 1) := by decide +kernel
theorem d_Tx_same_77 : decode b_Tx_same 77 = .ok (.aload_n 0, 1) := by decide +kernel
theorem d_Tx_same_78 : decode b_Tx_same 78 = .ok (.iload_n 1, 1) := by decide +kernel
theorem d_Tx_same_79 : decode b_Tx_same 79 = .ok (.invokevirtual 53, 3) := by decide +kernel
theorem d_Tx_same_82 : decode b_Tx_same 82 = .ok (.istore 6, 2) := by decide +kernel
theorem d_Tx_same_84 : decode b_Tx_same 84 = .ok (.aload_n 2, 1) := by decide +kernel
theorem d_Tx_same_85 : decode b_Tx_same 85 = .ok (.iload_n 3, 1) := by decide +kernel
theorem d_Tx_same_86 : decode b_Tx_same 86 = .ok (.invokevirtual 53, 3) := by decide +kernel
theorem d_Tx_same_89 : decode b_Tx_same 89 = .ok (.istore 7, 2) := by decide +kernel
theorem d_Tx_same_91 : decode b_Tx_same 91 = .ok (.iconst 0, 1) := by decide +kernel
theorem d_Tx_same_92 : decode b_Tx_same 92 = .ok (.istore 8, 2) := by decide +kernel
theorem d_Tx_same_94 : decode b_Tx_same 94 = .ok (.iload 8, 2) := by decide +kernel
theorem d_Tx_same_96 : decode b_Tx_same 96 = .ok (.aload_n 0, 1) := by decide +kernel
theorem d_Tx_same_97 : decode b_Tx_same 97 = .ok (.iload_n 1, 1) := by decide +kernel
theorem d_Tx_same_98 : decode b_Tx_same 98 = .ok (.invokevirtual 60, 3) := by decide +kernel
theorem d_Tx_same_101 : decode b_Tx_same 101 = .ok (.if_icmp .ge 72, 3) := by decide +kernel
theorem d_Tx_same_104 : decode b_Tx_same 104 = .ok (.iload 5, 2) := by decide +kernel
theorem d_Tx_same_106 : decode b_Tx_same 106 = .ok (.iconst 5, 1) := by decide +kernel
theorem d_Tx_same_107 : decode b_Tx_same 107 = .ok (.if_icmp .ne 8, 3) := by decide +kernel
theorem d_Tx_same_110 : decode b_Tx_same 110 = .ok (.iload 7, 2) := by decide +kernel
theorem d_Tx_same_112 : decode b_Tx_same 112 = .ok (.goto 13, 3) := by decide +kernel
theorem d_Tx_same_115 : decode b_Tx_same 115 = .ok (.aload_n 2, 1) := by decide +kernel
theorem d_Tx_same_116 : decode b_Tx_same 116 = .ok (.iload_n 3, 1) := by decide +kernel
theorem d_Tx_same_117 : decode b_Tx_same 117 = .ok (.aload_n 0, 1) := by decide +kernel
theorem d_Tx_same_118 : decode b_Tx_same 118 = .ok (.iload 6, 2) := by decide +kernel
theorem d_Tx_same_120 : decode b_Tx_same 120 = .ok (.iconst 1, 1) := by decide +kernel
theorem d_Tx_same_121 : decode b_Tx_same 121 = .ok (.isub, 1) := by decide +kernel
theorem d_Tx_same_122 : decode b_Tx_same 122 = .ok (.invokevirtual 95, 3) := by decide +kernel
theorem d_Tx_same_125 : decode b_Tx_same 125 = .ok (.istore 9, 2) := by decide +kernel
theorem d_Tx_same_127 : decode b_Tx_same 127 = .ok (.iload 9, 2) := by decide +kernel
theorem d_Tx_same_129 : decode b_Tx_same 129 = .ok (.iconst (-1), 1) := by decide +kernel
theorem d_Tx_same_130 : decode b_Tx_same 130 = .ok (.if_icmp .eq 19, 3) := by decide +kernel
theorem d_Tx_same_133 : decode b_Tx_same 133 = .ok (.aload_n 0, 1) := by decide +kernel
theorem d_Tx_same_134 : decode b_Tx_same 134 = .ok (.iload 6, 2) := by decide +kernel
theorem d_Tx_same_136 : decode b_Tx_same 136 = .ok (.aload_n 2, 1) := by decide +kernel
theorem d_Tx_same_137 : decode b_Tx_same 137 = .ok (.iload 9, 2) := by decide +kernel
theorem d_Tx_same_139 : decode b_Tx_same 139 = .ok (.iload 4, 2) := by decide +kernel
theorem d_Tx_same_141 : decode b_Tx_same 141 = .ok (.iconst 1, 1) := by decide +kernel
theorem d_Tx_same_142 : decode b_Tx_same 142 = .ok (.iadd, 1) := by decide +kernel
theorem d_Tx_same_143 : decode b_Tx_same 143 = .ok (.invokestatic 99, 3) := by decide +kernel
theorem d_Tx_same_146 : decode b_Tx_same 146 = .ok (.ifCond .ne 5, 3) := by decide +kernel
theorem d_Tx_same_149 : decode b_Tx_same 149 = .ok (.iconst 0, 1) := by decide +kernel
theorem d_Tx_same_150 : decode b_Tx_same 150 = .ok (.ireturn, 1) := by decide +kernel
theorem d_Tx_same_151 : decode b_Tx_same 151 = .ok (.aload_n 0, 1) := by decide +kernel
theorem d_Tx_same_152 : decode b_Tx_same 152 = .ok (.iload 6, 2) := by decide +kernel
theorem d_Tx_same_154 : decode b_Tx_same 154 = .ok (.invokevirtual 57, 3) := by decide +kernel
theorem d_Tx_same_157 : decode b_Tx_same 157 = .ok (.istore 6, 2) := by decide +kernel
theorem d_Tx_same_159 : decode b_Tx_same 159 = .ok (.aload_n 2, 1) := by decide +kernel
theorem d_Tx_same_160 : decode b_Tx_same 160 = .ok (.iload 7, 2) := by decide +kernel
theorem d_Tx_same_162 : decode b_Tx_same 162 = .ok (.invokevirtual 57, 3) := by decide +kernel
theorem d_Tx_same_165 : decode b_Tx_same 165 = .ok (.istore 7, 2) := by decide +kernel
theorem d_Tx_same_167 : decode b_Tx_same 167 = .ok (.iinc 8 1, 3) := by decide +kernel
theorem d_Tx_same_170 : decode b_Tx_same 170 = .ok (.goto (-76), 3) := by decide +kernel
theorem d_Tx_same_173 : decode b_Tx_same 173 = .ok (.iconst 1, 1) := by decide +kernel
theorem d_Tx_same_174 : decode b_Tx_same 174 = .ok (.ireturn, 1) := by decide +kernel
