theorem d_MM_dependent_4 : decode b_MM_dependent 4 = .ok (.lstore_n 3, 1) := by decide +kernel
theorem d_MM_dependent_5 : decode b_MM_dependent 5 = .ok (.iconst 1, 1) := by decide +kernel
theorem d_MM_dependent_6 : decode b_MM_dependent 6 = .ok (.istore 5, 2) := by decide +kernel
theorem d_MM_dependent_8 : decode b_MM_dependent 8 = .ok (.aload_n 0, 1) := by decide +kernel
theorem d_MM_dependent_9 : decode b_MM_dependent 9 = .ok (.getfield 20, 3) := by decide +kernel
theorem d_MM_dependent_12 : decode b_MM_dependent 12 = .ok (.getfield 422, 3) := by decide +kernel
theorem d_MM_dependent_15 : decode b_MM_dependent 15 = .ok (.iload_n 1, 1) := by decide +kernel
theorem d_MM_dependent_16 : decode b_MM_dependent 16 = .ok (.iaload, 1) := by decide +kernel
theorem d_MM_dependent_17 : decode b_MM_dependent 17 = .ok (.istore 6, 2) := by decide +kernel
theorem d_MM_dependent_19 : decode b_MM_dependent 19 = .ok (.iload 6, 2) := by decide +kernel
theorem d_MM_dependent_21 : decode b_MM_dependent 21 = .ok (.ifCond .lt 76, 3) := by decide +kernel
theorem d_MM_dependent_24 : decode b_MM_dependent 24 = .ok (.aload_n 0, 1) := by decide +kernel
theorem d_MM_dependent_25 : decode b_MM_dependent 25 = .ok (.getfield 506, 3) := by decide +kernel
theorem d_MM_dependent_28 : decode b_MM_dependent 28 = .ok (.ifCond .ne 69, 3) := by decide +kernel
theorem d_MM_dependent_31 : decode b_MM_dependent 31 = .ok (.aload_n 0, 1) := by decide +kernel
theorem d_MM_dependent_32 : decode b_MM_dependent 32 = .ok (.getfield 24, 3) := by decide +kernel
theorem d_MM_dependent_35 : decode b_MM_dependent 35 = .ok (.iload_n 2, 1) := by decide +kernel
theorem d_MM_dependent_36 : decode b_MM_dependent 36 = .ok (.aload_n 0, 1) := by decide +kernel
theorem d_MM_dependent_37 : decode b_MM_dependent 37 = .ok (.getfield 20, 3) := by decide +kernel
theorem d_MM_dependent_40 : decode b_MM_dependent 40 = .ok (.aload_n 0, 1) := by decide +kernel
theorem d_MM_dependent_41 : decode b_MM_dependent 41 = .ok (.getfield 20, 3) := by decide +kernel
theorem d_MM_dependent_44 : decode b_MM_dependent 44 = .ok (.getfield 425, 3) := by decide +kernel
theorem d_MM_dependent_47 : decode b_MM_dependent 47 = .ok (.iload 6, 2) := by decide +kernel
theorem d_MM_dependent_49 : decode b_MM_dependent 49 = .ok (.iaload, 1) := by decide +kernel
theorem d_MM_dependent_50 : decode b_MM_dependent 50 = .ok (.invokevirtual 554, 3) := by decide +kernel
theorem d_MM_dependent_53 : decode b_MM_dependent 53 = .ok (.ifCond .ge 6, 3) := by decide +kernel
theorem d_MM_dependent_56 : decode b_MM_dependent 56 = .ok (.goto 26, 3) := by decide +kernel
theorem d_MM_dependent_59 : decode b_MM_dependent 59 = .ok (.aload_n 0, 1) := by decide +kernel
theorem d_MM_dependent_60 : decode b_MM_dependent 60 = .ok (.iload 6, 2) := by decide +kernel
theorem d_MM_dependent_62 : decode b_MM_dependent 62 = .ok (.iload_n 2, 1) := by decide +kernel
theorem d_MM_dependent_63 : decode b_MM_dependent 63 = .ok (.invokevirtual 509, 3) := by decide +kernel
theorem d_MM_dependent_66 : decode b_MM_dependent 66 = .ok (.ifCond .eq 13, 3) := by decide +kernel
theorem d_MM_dependent_69 : decode b_MM_dependent 69 = .ok (.lload_n 3, 1) := by decide +kernel
theorem d_MM_dependent_70 : decode b_MM_dependent 70 = .ok (.aload_n 0, 1) := by decide +kernel
theorem d_MM_dependent_71 : decode b_MM_dependent 71 = .ok (.getfield 518, 3) := by decide +kernel
theorem d_MM_dependent_74 : decode b_MM_dependent 74 = .ok (.lor, 1) := by decide +kernel
theorem d_MM_dependent_75 : decode b_MM_dependent 75 = .ok (.lstore_n 3, 1) := by decide +kernel
theorem d_MM_dependent_76 : decode b_MM_dependent 76 = .ok (.goto 6, 3) := by decide +kernel
theorem d_MM_dependent_79 : decode b_MM_dependent 79 = .ok (.iconst 0, 1) := by decide +kernel
theorem d_MM_dependent_80 : decode b_MM_dependent 80 = .ok (.istore 5, 2) := by decide +kernel
theorem d_MM_dependent_82 : decode b_MM_dependent 82 = .ok (.aload_n 0, 1) := by decide +kernel
theorem d_MM_dependent_83 : decode b_MM_dependent 83 = .ok (.getfield 20, 3) := by decide +kernel
theorem d_MM_dependent_86 : decode b_MM_dependent 86 = .ok (.getfield 436, 3) := by decide +kernel
theorem d_MM_dependent_89 : decode b_MM_dependent 89 = .ok (.iload 6, 2) := by decide +kernel
theorem d_MM_dependent_91 : decode b_MM_dependent 91 = .ok (.iaload, 1) := by decide +kernel
theorem d_MM_dependent_92 : decode b_MM_dependent 92 = .ok (.istore 6, 2) := by decide +kernel
theorem d_MM_dependent_94 : decode b_MM_dependent 94 = .ok (.goto (-75), 3) := by decide +kernel
theorem d_MM_dependent_97 : decode b_MM_dependent 97 = .ok (.aload_n 0, 1) := by decide +kernel
theorem d_MM_dependent_98 : decode b_MM_dependent 98 = .ok (.lload_n 3, 1) := by decide +kernel
theorem d_MM_dependent_99 : decode b_MM_dependent 99 = .ok (.putfield 518, 3) := by decide +kernel
theorem d_MM_dependent_102 : decode b_MM_dependent 102 = .ok (.iload 5, 2) := by decide +kernel
theorem d_MM_dependent_104 : decode b_MM_dependent 104 = .ok (.ireturn, 1) := by decide +kernel
theorem d_MM_several_0 : decode b_MM_several 0 = .ok (.aload_n 0, 1) := by decide +kernel
theorem d_MM_several_1 : decode b_MM_several 1 = .ok (.getfield 518, 3) := by decide +kernel
theorem d_MM_several_4 : decode b_MM_several 4 = .ok (.lstore 4, 2) := by decide +kernel
theorem d_MM_several_6 : decode b_MM_several 6 = .ok (.aload_n 0, 1) := by decide +kernel
theorem d_MM_several_7 : decode b_MM_several 7 = .ok (.getfield 494, 3) := by decide +kernel
theorem d_MM_several_10 : decode b_MM_several 10 = .ok (.istore 6, 2) := by decide +kernel
theorem d_MM_several_12 : decode b_MM_several 12 = .ok (.iconst 0, 1) := by decide +kernel
theorem d_MM_several_13 : decode b_MM_several 13 = .ok (.istore 7, 2) := by decide +kernel
theorem d_MM_several_15 : decode b_MM_several 15 = .ok (.iconst 0, 1) := by decide +kernel
theorem d_MM_several_16 : decode b_MM_several 16 = .ok (.istore 8, 2) := by decide +kernel
theorem d_MM_several_18 : decode b_MM_several 18 = .ok (.aload_n 0, 1) := by decide +kernel
theorem d_MM_several_19 : decode b_MM_several 19 = .ok (.getfield 20, 3) := by decide +kernel
theorem d_MM_several_22 : decode b_MM_several 22 = .ok (.getfield 422, 3) := by decide +kernel
theorem d_MM_several_25 : decode b_MM_several 25 = .ok (.iload_n 2, 1) := by decide +kernel
theorem d_MM_several_26 : decode b_MM_several 26 = .ok (.iaload, 1) := by decide +kernel
theorem d_MM_several_27 : decode b_MM_several 27 = .ok (.istore 9, 2) := by decide +kernel
theorem d_MM_several_29 : decode b_MM_several 29 = .ok (.iload 9, 2) := by decide +kernel
theorem d_MM_several_31 : decode b_MM_several 31 = .ok (.ifCond .lt 53, 3) := by decide +kernel
theorem d_MM_several_34 : decode b_MM_several 34 = .ok (.aload_n 0, 1) := by decide +kernel
theorem d_MM_several_35 : decode b_MM_several 35 = .ok (.getfield 506, 3) := by decide +kernel
theorem d_MM_several_38 : decode b_MM_several 38 = .ok (.ifCond .ne 46, 3) := by decide +kernel
theorem d_MM_several_41 : decode b_MM_several 41 = .ok (.iinc 8 1, 3) := by decide +kernel
theorem d_MM_several_44 : decode b_MM_several 44 = .ok (.aload_n 0, 1) := by decide +kernel
theorem d_MM_several_45 : decode b_MM_several 45 = .ok (.iload 9, 2) := by decide +kernel
theorem d_MM_several_47 : decode b_MM_several 47 = .ok (.iload_n 3, 1) := by decide +kernel
theorem d_MM_several_48 : decode b_MM_several 48 = .ok (.invokevirtual 509, 3) := by decide +kernel
theorem d_MM_several_51 : decode b_MM_several 51 = .ok (.ifCond .ne 6, 3) := by decide +kernel
theorem d_MM_several_54 : decode b_MM_several 54 = .ok (.goto 15, 3) := by decide +kernel
theorem d_MM_several_57 : decode b_MM_several 57 = .ok (.iinc 7 1, 3) := by decide +kernel
theorem d_MM_several_60 : decode b_MM_several 60 = .ok (.lload 4, 2) := by decide +kernel
theorem d_MM_several_62 : decode b_MM_several 62 = .ok (.aload_n 0, 1) := by decide +kernel
theorem d_MM_several_63 : decode b_MM_several 63 = .ok (.getfield 518, 3) := by decide +kernel
theorem d_MM_several_66 : decode b_MM_several 66 = .ok (.lor, 1) := by decide +kernel
theorem d_MM_several_67 : decode b_MM_several 67 = .ok (.lstore 4, 2) := by decide +kernel
theorem d_MM_several_69 : decode b_MM_several 69 = .ok (.aload_n 0, 1) := by decide +kernel
theorem d_MM_several_70 : decode b_MM_several 70 = .ok (.getfield 20, 3) := by decide +kernel
theorem d_MM_several_73 : decode b_MM_several 73 = .ok (.getfield 436, 3) := by decide +kernel
theorem d_MM_several_76 : decode b_MM_several 76 = .ok (.iload 9, 2) := by decide +kernel
theorem d_MM_several_78 : decode b_MM_several 78 = .ok (.iaload, 1) := by decide +kernel
theorem d_MM_several_79 : decode b_MM_several 79 = .ok (.istore 9, 2) := by decide +kernel
theorem d_MM_several_81 : decode b_MM_several 81 = .ok (.goto (-52), 3) := by decide +kernel
theorem d_MM_several_84 : decode b_MM_several 84 = .ok (.aload_n 0, 1) := by decide +kernel
theorem d_MM_several_85 : decode b_MM_several 85 = .ok (.lload 4, 2) := by decide +kernel
theorem d_MM_several_87 : decode b_MM_several 87 = .ok (.putfield 518, 3) := by decide +kernel
theorem d_MM_several_90 : decode b_MM_several 90 = .ok (.iload_n 1, 1) := by decide +kernel
theorem d_MM_several_91 : decode b_MM_several 91 = .ok (.bipush 10, 2) := by decide +kernel
theorem d_MM_several_93 : decode b_MM_several 93 = .ok (.if_icmp .ne 18, 3) := by decide +kernel
theorem d_MM_several_96 : decode b_MM_several 96 = .ok (.iload 7, 2) := by decide +kernel
theorem d_MM_several_98 : decode b_MM_several 98 = .ok (.iload 8, 2) := by decide +kernel
theorem d_MM_several_100 : decode b_MM_several 100 = .ok (.if_icmp .ne 7, 3) := by decide +kernel
theorem d_MM_several_103 : decode b_MM_several 103 = .ok (.iconst 1, 1) := by decide +kernel
theorem d_MM_several_104 : decode b_MM_several 104 = .ok (.goto 37, 3) := by decide +kernel
theorem d_MM_several_107 : decode b_MM_several 107 = .ok (.iconst 0, 1) := by decide +kernel
theorem d_MM_several_108 : decode b_MM_several 108 = .ok (.goto 33, 3) := by decide +kernel
theorem d_MM_several_111 : decode b_MM_several 111 = .ok (.iload_n 1, 1) := by decide +kernel
theorem d_MM_several_112 : decode b_MM_several 112 = .ok (.bipush 11, 2) := by decide +kernel
theorem d_MM_several_114 : decode b_MM_several 114 = .ok (.if_icmp .ne 16, 3) := by decide +kernel
theorem d_MM_several_117 : decode b_MM_several 117 = .ok (.iload 7, 2) := by decide +kernel
theorem d_MM_several_119 : decode b_MM_several 119 = .ok (.ifCond .le 7, 3) := by decide +kernel
theorem d_MM_several_122 : decode b_MM_several 122 = .ok (.iconst 1, 1) := by decide +kernel
theorem d_MM_several_123 : decode b_MM_several 123 = .ok (.goto 18, 3) := by decide +kernel
theorem d_MM_several_126 : decode b_MM_several 126 = .ok (.iconst 0, 1) := by decide +kernel
theorem d_MM_several_127 : decode b_MM_several 127 = .ok (.goto 14, 3) := by decide +kernel
theorem d_MM_several_130 : decode b_MM_several 130 = .ok (.iload 7, 2) := by decide +kernel
theorem d_MM_several_132 : decode b_MM_several 132 = .ok (.iconst 1, 1) := by decide +kernel
theorem d_MM_several_133 : decode b_MM_several 133 = .ok (.if_icmp .ne 7, 3) := by decide +kernel
theorem d_MM_several_136 : decode b_MM_several 136 = .ok (.iconst 1, 1) := by decide +kernel
theorem d_MM_several_137 : decode b_MM_several 137 = .ok (.goto 4, 3) := by decide +kernel
theorem d_MM_several_140 : decode b_MM_several 140 = .ok (.iconst 0, 1) := by decide +kernel
theorem d_MM_several_141 : decode b_MM_several 141 = .ok (.istore 9, 2) := by decide +kernel
theorem d_MM_several_143 : decode b_MM_several 143 = .ok (.iload 9, 2) := by decide +kernel
theorem d_MM_several_145 : decode b_MM_several 145 = .ok (.ifCond .eq 15, 3) := by decide +kernel
theorem d_MM_several_148 : decode b_MM_several 148 = .ok (.iload_n 1, 1) := by decide +kernel
theorem d_MM_several_149 : decode b_MM_several 149 = .ok (.bipush 10, 2) := by decide +kernel
theorem d_MM_several_151 : decode b_MM_several 151 = .ok (.if_icmp .eq 9, 3) := by decide +kernel
theorem d_MM_several_154 : decode b_MM_several 154 = .ok (.aload_n 0, 1) := by decide +kernel
theorem d_MM_several_155 : decode b_MM_several 155 = .ok (.iload 6, 2) := by decide +kernel
theorem d_MM_several_157 : decode b_MM_several 157 = .ok (.putfield 494, 3) := by decide +kernel
theorem d_MM_several_160 : decode b_MM_several 160 = .ok (.iload 9, 2) := by decide +kernel
theorem d_MM_several_162 : decode b_MM_several 162 = .ok (.ireturn, 1) := by decide +kernel
theorem d_MM_ifs_0 : decode b_MM_ifs 0 = .ok (.aload_n 0, 1) := by decide +kernel
theorem d_MM_ifs_1 : decode b_MM_ifs 1 = .ok (.getfield 518, 3) := by decide +kernel
theorem d_MM_ifs_4 : decode b_MM_ifs 4 = .ok (.lstore 4, 2) := by decide +kernel
theorem d_MM_ifs_6 : decode b_MM_ifs 6 = .ok (.aload_n 0, 1) := by decide +kernel
theorem d_MM_ifs_7 : decode b_MM_ifs 7 = .ok (.getfield 494, 3) := by decide +kernel
theorem d_MM_ifs_10 : decode b_MM_ifs 10 = .ok (.istore 6, 2) := by decide +kernel
theorem d_MM_ifs_12 : decode b_MM_ifs 12 = .ok (.aload_n 0, 1) := by decide +kernel
theorem d_MM_ifs_13 : decode b_MM_ifs 13 = .ok (.iload_n 1, 1) := by decide +kernel
theorem d_MM_ifs_14 : decode b_MM_ifs 14 = .ok (.iload_n 3, 1) := by decide +kernel
theorem d_MM_ifs_15 : decode b_MM_ifs 15 = .ok (.invokevirtual 509, 3) := by decide +kernel
theorem d_MM_ifs_18 : decode b_MM_ifs 18 = .ok (.istore 7, 2) := by decide +kernel
theorem d_MM_ifs_20 : decode b_MM_ifs 20 = .ok (.aload_n 0, 1) := by decide +kernel
theorem d_MM_ifs_21 : decode b_MM_ifs 21 = .ok (.iload 6, 2) := by decide +kernel
theorem d_MM_ifs_23 : decode b_MM_ifs 23 = .ok (.putfield 494, 3) := by decide +kernel
theorem d_MM_ifs_26 : decode b_MM_ifs 26 = .ok (.iload 7, 2) := by decide +kernel
theorem d_MM_ifs_28 : decode b_MM_ifs 28 = .ok (.ifCond .eq 12, 3) := by decide +kernel
theorem d_MM_ifs_31 : decode b_MM_ifs 31 = .ok (.lload 4, 2) := by decide +kernel
theorem d_MM_ifs_33 : decode b_MM_ifs 33 = .ok (.aload_n 0, 1) := by decide +kernel
theorem d_MM_ifs_34 : decode b_MM_ifs 34 = .ok (.getfield 518, 3) := by decide +kernel
theorem d_MM_ifs_37 : decode b_MM_ifs 37 = .ok (.lor, 1) := by decide +kernel
theorem d_MM_ifs_38 : decode b_MM_ifs 38 = .ok (.lstore 4, 2) := by decide +kernel
theorem d_MM_ifs_40 : decode b_MM_ifs 40 = .ok (.aload_n 0, 1) := by decide +kernel
theorem d_MM_ifs_41 : decode b_MM_ifs 41 = .ok (.getfield 20, 3) := by decide +kernel
theorem d_MM_ifs_44 : decode b_MM_ifs 44 = .ok (.iload_n 2, 1) := by decide +kernel
theorem d_MM_ifs_45 : decode b_MM_ifs 45 = .ok (.iload 7, 2) := by decide +kernel
theorem d_MM_ifs_47 : decode b_MM_ifs 47 = .ok (.ifCond .eq 8, 3) := by decide +kernel
theorem d_MM_ifs_50 : decode b_MM_ifs 50 = .ok (.ldc 87, 2) := by decide +kernel
theorem d_MM_ifs_52 : decode b_MM_ifs 52 = .ok (.goto 5, 3) := by decide +kernel
theorem d_MM_ifs_55 : decode b_MM_ifs 55 = .ok (.ldc 88, 2) := by decide +kernel
theorem d_MM_ifs_57 : decode b_MM_ifs 57 = .ok (.invokevirtual 550, 3) := by decide +kernel
theorem d_MM_ifs_60 : decode b_MM_ifs 60 = .ok (.istore 8, 2) := by decide +kernel
theorem d_MM_ifs_62 : decode b_MM_ifs 62 = .ok (.iconst 1, 1) := by decide +kernel
theorem d_MM_ifs_63 : decode b_MM_ifs 63 = .ok (.istore 9, 2) := by decide +kernel
theorem d_MM_ifs_65 : decode b_MM_ifs 65 = .ok (.iload 8, 2) := by decide +kernel
theorem d_MM_ifs_67 : decode b_MM_ifs 67 = .ok (.ifCond .lt 43, 3) := by decide +kernel
theorem d_MM_ifs_70 : decode b_MM_ifs 70 = .ok (.aload_n 0, 1) := by decide +kernel
theorem d_MM_ifs_71 : decode b_MM_ifs 71 = .ok (.getfield 506, 3) := by decide +kernel
theorem d_MM_ifs_74 : decode b_MM_ifs 74 = .ok (.ifCond .ne 36, 3) := by decide +kernel
theorem d_MM_ifs_77 : decode b_MM_ifs 77 = .ok (.aload_n 0, 1) := by decide +kernel
theorem d_MM_ifs_78 : decode b_MM_ifs 78 = .ok (.iload 8, 2) := by decide +kernel
theorem d_MM_ifs_80 : decode b_MM_ifs 80 = .ok (.iload_n 3, 1) := by decide +kernel
theorem d_MM_ifs_81 : decode b_MM_ifs 81 = .ok (.invokevirtual 509, 3) := by decide +kernel
theorem d_MM_ifs_84 : decode b_MM_ifs 84 = .ok (.istore 9, 2) := by decide +kernel
theorem d_MM_ifs_86 : decode b_MM_ifs 86 = .ok (.iload 9, 2) := by decide +kernel
theorem d_MM_ifs_88 : decode b_MM_ifs 88 = .ok (.ifCond .eq 15, 3) := by decide +kernel
theorem d_MM_ifs_91 : decode b_MM_ifs 91 = .ok (.lload 4, 2) := by decide +kernel
theorem d_MM_ifs_93 : decode b_MM_ifs 93 = .ok (.aload_n 0, 1) := by decide +kernel
theorem d_MM_ifs_94 : decode b_MM_ifs 94 = .ok (.getfield 518, 3) := by decide +kernel
theorem d_MM_ifs_97 : decode b_MM_ifs 97 = .ok (.lor, 1) := by decide +kernel
theorem d_MM_ifs_98 : decode b_MM_ifs 98 = .ok (.lstore 4, 2) := by decide +kernel
theorem d_MM_ifs_100 : decode b_MM_ifs 100 = .ok (.goto 10, 3) := by decide +kernel
theorem d_MM_ifs_103 : decode b_MM_ifs 103 = .ok (.aload_n 0, 1) := by decide +kernel
theorem d_MM_ifs_104 : decode b_MM_ifs 104 = .ok (.iload_n 3, 1) := by decide +kernel
theorem d_MM_ifs_105 : decode b_MM_ifs 105 = .ok (.iload 8, 2) := by decide +kernel
theorem d_MM_ifs_107 : decode b_MM_ifs 107 = .ok (.invokevirtual 515, 3) := by decide +kernel
theorem d_MM_ifs_110 : decode b_MM_ifs 110 = .ok (.aload_n 0, 1) := by decide +kernel
theorem d_MM_ifs_111 : decode b_MM_ifs 111 = .ok (.lload 4, 2) := by decide +kernel
theorem d_MM_ifs_113 : decode b_MM_ifs 113 = .ok (.putfield 518, 3) := by decide +kernel
theorem d_MM_ifs_116 : decode b_MM_ifs 116 = .ok (.iload 9, 2) := by decide +kernel
theorem d_MM_ifs_118 : decode b_MM_ifs 118 = .ok (.ireturn, 1) := by decide +kernel
theorem d_MM_asks_0 : decode b_MM_asks 0 = .ok (.aload_n 0, 1) := by decide +kernel
theorem d_MM_asks_1 : decode b_MM_asks 1 = .ok (.getfield 518, 3) := by decide +kernel
theorem d_MM_asks_4 : decode b_MM_asks 4 = .ok (.lstore 5, 2) := by decide +kernel
theorem d_MM_asks_6 : decode b_MM_asks 6 = .ok (.aload_n 0, 1) := by decide +kernel
theorem d_MM_asks_7 : decode b_MM_asks 7 = .ok (.getfield 24, 3) := by decide +kernel
theorem d_MM_asks_10 : decode b_MM_asks 10 = .ok (.getfield 419, 3) := by decide +kernel
theorem d_MM_asks_13 : decode b_MM_asks 13 = .ok (.iload 4, 2) := by decide +kernel
theorem d_MM_asks_15 : decode b_MM_asks 15 = .ok (.iaload, 1) := by decide +kernel
theorem d_MM_asks_16 : decode b_MM_asks 16 = .ok (.istore 7, 2) := by decide +kernel
theorem d_MM_asks_18 : decode b_MM_asks 18 = .ok (.iload_n 1, 1) := by decide +kernel
theorem d_MM_asks_19 : decode b_MM_asks 19 = .ok (.bipush 32, 2) := by decide +kernel
theorem d_MM_asks_21 : decode b_MM_asks 21 = .ok (.if_icmp .ne 41, 3) := by decide +kernel
theorem d_MM_asks_24 : decode b_MM_asks 24 = .ok (.aload_n 0, 1) := by decide +kernel
theorem d_MM_asks_25 : decode b_MM_asks 25 = .ok (.aload_n 0, 1) := by decide +kernel
theorem d_MM_asks_26 : decode b_MM_asks 26 = .ok (.getfield 197, 3) := by decide +kernel
theorem d_MM_asks_29 : decode b_MM_asks 29 = .ok (.iload_n 2, 1) := by decide +kernel
theorem d_MM_asks_30 : decode b_MM_asks 30 = .ok (.iaload, 1) := by decide +kernel
theorem d_MM_asks_31 : decode b_MM_asks 31 = .ok (.iload 4, 2) := by decide +kernel
theorem d_MM_asks_33 : decode b_MM_asks 33 = .ok (.invokevirtual 509, 3) := by decide +kernel
theorem d_MM_asks_36 : decode b_MM_asks 36 = .ok (.istore 8, 2) := by decide +kernel
theorem d_MM_asks_38 : decode b_MM_asks 38 = .ok (.aload_n 0, 1) := by decide +kernel
theorem d_MM_asks_39 : decode b_MM_asks 39 = .ok (.iload 8, 2) := by decide +kernel
theorem d_MM_asks_41 : decode b_MM_asks 41 = .ok (.ifCond .eq 13, 3) := by decide +kernel
theorem d_MM_asks_44 : decode b_MM_asks 44 = .ok (.lload 5, 2) := by decide +kernel
theorem d_MM_asks_46 : decode b_MM_asks 46 = .ok (.aload_n 0, 1) := by decide +kernel
theorem d_MM_asks_47 : decode b_MM_asks 47 = .ok (.getfield 518, 3) := by decide +kernel
theorem d_MM_asks_50 : decode b_MM_asks 50 = .ok (.lor, 1) := by decide +kernel
theorem d_MM_asks_51 : decode b_MM_asks 51 = .ok (.goto 5, 3) := by decide +kernel
theorem d_MM_asks_54 : decode b_MM_asks 54 = .ok (.lload 5, 2) := by decide +kernel
theorem d_MM_asks_56 : decode b_MM_asks 56 = .ok (.putfield 518, 3) := by decide +kernel
theorem d_MM_asks_59 : decode b_MM_asks 59 = .ok (.iload 8, 2) := by decide +kernel
theorem d_MM_asks_61 : decode b_MM_asks 61 = .ok (.ireturn, 1) := by decide +kernel
theorem d_MM_asks_62 : decode b_MM_asks 62 = .ok (.iload_n 1, 1) := by decide +kernel
theorem d_MM_asks_63 : decode b_MM_asks 63 = .ok (.ifCond .ne 41, 3) := by decide +kernel
theorem d_MM_asks_66 : decode b_MM_asks 66 = .ok (.aload_n 0, 1) := by decide +kernel
theorem d_MM_asks_67 : decode b_MM_asks 67 = .ok (.getfield 494, 3) := by decide +kernel
theorem d_MM_asks_70 : decode b_MM_asks 70 = .ok (.istore 8, 2) := by decide +kernel
theorem d_MM_asks_72 : decode b_MM_asks 72 = .ok (.aload_n 0, 1) := by decide +kernel
theorem d_MM_asks_73 : decode b_MM_asks 73 = .ok (.iload_n 2, 1) := by decide +kernel
theorem d_MM_asks_74 : decode b_MM_asks 74 = .ok (.iload 4, 2) := by decide +kernel
theorem d_MM_asks_76 : decode b_MM_asks 76 = .ok (.invokevirtual 509, 3) := by decide +kernel
theorem d_MM_asks_79 : decode b_MM_asks 79 = .ok (.istore 9, 2) := by decide +kernel
theorem d_MM_asks_81 : decode b_MM_asks 81 = .ok (.aload_n 0, 1) := by decide +kernel
theorem d_MM_asks_82 : decode b_MM_asks 82 = .ok (.iload 8, 2) := by decide +kernel
theorem d_MM_asks_84 : decode b_MM_asks 84 = .ok (.putfield 494, 3) := by decide +kernel
theorem d_MM_asks_87 : decode b_MM_asks 87 = .ok (.aload_n 0, 1) := by decide +kernel
theorem d_MM_asks_88 : decode b_MM_asks 88 = .ok (.lload 5, 2) := by decide +kernel
theorem d_MM_asks_90 : decode b_MM_asks 90 = .ok (.putfield 518, 3) := by decide +kernel
theorem d_MM_asks_93 : decode b_MM_asks 93 = .ok (.iload 9, 2) := by decide +kernel
theorem d_MM_asks_95 : decode b_MM_asks 95 = .ok (.ifCond .ne 7, 3) := by decide +kernel
theorem d_MM_asks_98 : decode b_MM_asks 98 = .ok (.iconst 1, 1) := by decide +kernel
theorem d_MM_asks_99 : decode b_MM_asks 99 = .ok (.goto 4, 3) := by decide +kernel
theorem d_MM_asks_102 : decode b_MM_asks 102 = .ok (.iconst 0, 1) := by decide +kernel
theorem d_MM_asks_103 : decode b_MM_asks 103 = .ok (.ireturn, 1) := by decide +kernel
theorem d_MM_asks_104 : decode b_MM_asks 104 = .ok (.iload_n 1, 1) := by decide +kernel
theorem d_MM_asks_105 : decode b_MM_asks 105 = .ok (.iconst 1, 1) := by decide +kernel
theorem d_MM_asks_106 : decode b_MM_asks 106 = .ok (.if_icmp .ne 12, 3) := by decide +kernel
theorem d_MM_asks_109 : decode b_MM_asks 109 = .ok (.aload_n 0, 1) := by decide +kernel
theorem d_MM_asks_110 : decode b_MM_asks 110 = .ok (.iload_n 2, 1) := by decide +kernel
theorem d_MM_asks_111 : decode b_MM_asks 111 = .ok (.iload_n 3, 1) := by decide +kernel
theorem d_MM_asks_112 : decode b_MM_asks 112 = .ok (.iload 4, 2) := by decide +kernel
theorem d_MM_asks_114 : decode b_MM_asks 114 = .ok (.invokevirtual 526, 3) := by decide +kernel
theorem d_MM_asks_117 : decode b_MM_asks 117 = .ok (.ireturn, 1) := by decide +kernel
theorem d_MM_asks_118 : decode b_MM_asks 118 = .ok (.iload_n 1, 1) := by decide +kernel
theorem d_MM_asks_119 : decode b_MM_asks 119 = .ok (.bipush 10, 2) := by decide +kernel
theorem d_MM_asks_121 : decode b_MM_asks 121 = .ok (.if_icmp .lt 18, 3) := by decide +kernel
theorem d_MM_asks_124 : decode b_MM_asks 124 = .ok (.iload_n 1, 1) := by decide +kernel
theorem d_MM_asks_125 : decode b_MM_asks 125 = .ok (.bipush 12, 2) := by decide +kernel
theorem d_MM_asks_127 : decode b_MM_asks 127 = .ok (.if_icmp .gt 12, 3) := by decide +kernel
theorem d_MM_asks_130 : decode b_MM_asks 130 = .ok (.aload_n 0, 1) := by decide +kernel
theorem d_MM_asks_131 : decode b_MM_asks 131 = .ok (.iload_n 1, 1) := by decide +kernel
theorem d_MM_asks_132 : decode b_MM_asks 132 = .ok (.iload_n 2, 1) := by decide +kernel
theorem d_MM_asks_133 : decode b_MM_asks 133 = .ok (.iload 4, 2) := by decide +kernel
theorem d_MM_asks_135 : decode b_MM_asks 135 = .ok (.invokevirtual 529, 3) := by decide +kernel
theorem d_MM_asks_138 : decode b_MM_asks 138 = .ok (.ireturn, 1) := by decide +kernel
theorem d_MM_asks_139 : decode b_MM_asks 139 = .ok (.iload_n 1, 1) := by decide +kernel
theorem d_MM_asks_140 : decode b_MM_asks 140 = .ok (.bipush 17, 2) := by decide +kernel
theorem d_MM_asks_142 : decode b_MM_asks 142 = .ok (.if_icmp .ne 26, 3) := by decide +kernel
theorem d_MM_asks_145 : decode b_MM_asks 145 = .ok (.iload 7, 2) := by decide +kernel
theorem d_MM_asks_147 : decode b_MM_asks 147 = .ok (.bipush 6, 2) := by decide +kernel
theorem d_MM_asks_149 : decode b_MM_asks 149 = .ok (.if_icmp .ne 13, 3) := by decide +kernel
theorem d_MM_asks_152 : decode b_MM_asks 152 = .ok (.aload_n 0, 1) := by decide +kernel
theorem d_MM_asks_153 : decode b_MM_asks 153 = .ok (.iload_n 2, 1) := by decide +kernel
theorem d_MM_asks_154 : decode b_MM_asks 154 = .ok (.iload 4, 2) := by decide +kernel
theorem d_MM_asks_156 : decode b_MM_asks 156 = .ok (.invokevirtual 532, 3) := by decide +kernel
theorem d_MM_asks_159 : decode b_MM_asks 159 = .ok (.ifCond .eq 7, 3) := by decide +kernel
theorem d_MM_asks_162 : decode b_MM_asks 162 = .ok (.iconst 1, 1) := by decide +kernel
theorem d_MM_asks_163 : decode b_MM_asks 163 = .ok (.goto 4, 3) := by decide +kernel
theorem d_MM_asks_166 : decode b_MM_asks 166 = .ok (.iconst 0, 1) := by decide +kernel
theorem d_MM_asks_167 : decode b_MM_asks 167 = .ok (.ireturn, 1) := by decide +kernel
theorem d_MM_asks_168 : decode b_MM_asks 168 = .ok (.iload_n 1, 1) := by decide +kernel
theorem d_MM_asks_169 : decode b_MM_asks 169 = .ok (.bipush 18, 2) := by decide +kernel
theorem d_MM_asks_171 : decode b_MM_asks 171 = .ok (.if_icmp .lt 32, 3) := by decide +kernel
theorem d_MM_asks_174 : decode b_MM_asks 174 = .ok (.iload_n 1, 1) := by decide +kernel
theorem d_MM_asks_175 : decode b_MM_asks 175 = .ok (.bipush 22, 2) := by decide +kernel
theorem d_MM_asks_177 : decode b_MM_asks 177 = .ok (.if_icmp .gt 26, 3) := by decide +kernel
theorem d_MM_asks_180 : decode b_MM_asks 180 = .ok (.iload 7, 2) := by decide +kernel
theorem d_MM_asks_182 : decode b_MM_asks 182 = .ok (.iconst 3, 1) := by decide +kernel
theorem d_MM_asks_183 : decode b_MM_asks 183 = .ok (.if_icmp .ne 14, 3) := by decide +kernel
theorem d_MM_asks_186 : decode b_MM_asks 186 = .ok (.aload_n 0, 1) := by decide +kernel
theorem d_MM_asks_187 : decode b_MM_asks 187 = .ok (.iload_n 1, 1) := by decide +kernel
theorem d_MM_asks_188 : decode b_MM_asks 188 = .ok (.iload_n 2, 1) := by decide +kernel
theorem d_MM_asks_189 : decode b_MM_asks 189 = .ok (.iload 4, 2) := by decide +kernel
theorem d_MM_asks_191 : decode b_MM_asks 191 = .ok (.invokevirtual 535, 3) := by decide +kernel
theorem d_MM_asks_194 : decode b_MM_asks 194 = .ok (.ifCond .eq 7, 3) := by decide +kernel
theorem d_MM_asks_197 : decode b_MM_asks 197 = .ok (.iconst 1, 1) := by decide +kernel
theorem d_MM_asks_198 : decode b_MM_asks 198 = .ok (.goto 4, 3) := by decide +kernel
theorem d_MM_asks_201 : decode b_MM_asks 201 = .ok (.iconst 0, 1) := by decide +kernel
theorem d_MM_asks_202 : decode b_MM_asks 202 = .ok (.ireturn, 1) := by decide +kernel
theorem d_MM_asks_203 : decode b_MM_asks 203 = .ok (.iload_n 1, 1) := by decide +kernel
theorem d_MM_asks_204 : decode b_MM_asks 204 = .ok (.bipush 34, 2) := by decide +kernel
theorem d_MM_asks_206 : decode b_MM_asks 206 = .ok (.if_icmp .ne 11, 3) := by decide +kernel
theorem d_MM_asks_209 : decode b_MM_asks 209 = .ok (.aload_n 0, 1) := by decide +kernel
theorem d_MM_asks_210 : decode b_MM_asks 210 = .ok (.iload_n 2, 1) := by decide +kernel
theorem d_MM_asks_211 : decode b_MM_asks 211 = .ok (.iload 4, 2) := by decide +kernel
theorem d_MM_asks_213 : decode b_MM_asks 213 = .ok (.invokevirtual 537, 3) := by decide +kernel
theorem d_MM_asks_216 : decode b_MM_asks 216 = .ok (.ireturn, 1) := by decide +kernel
theorem d_MM_asks_217 : decode b_MM_asks 217 = .ok (.iload_n 1, 1) := by decide +kernel
theorem d_MM_asks_218 : decode b_MM_asks 218 = .ok (.bipush 35, 2) := by decide +kernel
theorem d_MM_asks_220 : decode b_MM_asks 220 = .ok (.if_icmp .ne 56, 3) := by decide +kernel
theorem d_MM_asks_223 : decode b_MM_asks 223 = .ok (.aload_n 0, 1) := by decide +kernel
theorem d_MM_asks_224 : decode b_MM_asks 224 = .ok (.getfield 20, 3) := by decide +kernel
theorem d_MM_asks_227 : decode b_MM_asks 227 = .ok (.getfield 422, 3) := by decide +kernel
theorem d_MM_asks_230 : decode b_MM_asks 230 = .ok (.iload_n 2, 1) := by decide +kernel
theorem d_MM_asks_231 : decode b_MM_asks 231 = .ok (.iaload, 1) := by decide +kernel
theorem d_MM_asks_232 : decode b_MM_asks 232 = .ok (.istore 8, 2) := by decide +kernel
theorem d_MM_asks_234 : decode b_MM_asks 234 = .ok (.iload 8, 2) := by decide +kernel
theorem d_MM_asks_236 : decode b_MM_asks 236 = .ok (.ifCond .lt 38, 3) := by decide +kernel
theorem d_MM_asks_239 : decode b_MM_asks 239 = .ok (.aload_n 0, 1) := by decide +kernel
theorem d_MM_asks_240 : decode b_MM_asks 240 = .ok (.getfield 24, 3) := by decide +kernel
theorem d_MM_asks_243 : decode b_MM_asks 243 = .ok (.iload 4, 2) := by decide +kernel
theorem d_MM_asks_245 : decode b_MM_asks 245 = .ok (.aload_n 0, 1) := by decide +kernel
theorem d_MM_asks_246 : decode b_MM_asks 246 = .ok (.getfield 20, 3) := by decide +kernel
theorem d_MM_asks_249 : decode b_MM_asks 249 = .ok (.iload 8, 2) := by decide +kernel
theorem d_MM_asks_251 : decode b_MM_asks 251 = .ok (.invokevirtual 540, 3) := by decide +kernel
theorem d_MM_asks_254 : decode b_MM_asks 254 = .ok (.ifCond .eq 5, 3) := by decide +kernel
theorem d_MM_asks_257 : decode b_MM_asks 257 = .ok (.iconst 1, 1) := by decide +kernel
theorem d_MM_asks_258 : decode b_MM_asks 258 = .ok (.ireturn, 1) := by decide +kernel
theorem d_MM_asks_259 : decode b_MM_asks 259 = .ok (.aload_n 0, 1) := by decide +kernel
theorem d_MM_asks_260 : decode b_MM_asks 260 = .ok (.getfield 20, 3) := by decide +kernel
theorem d_MM_asks_263 : decode b_MM_asks 263 = .ok (.getfield 436, 3) := by decide +kernel
theorem d_MM_asks_266 : decode b_MM_asks 266 = .ok (.iload 8, 2) := by decide +kernel
theorem d_MM_asks_268 : decode b_MM_asks 268 = .ok (.iaload, 1) := by decide +kernel
theorem d_MM_asks_269 : decode b_MM_asks 269 = .ok (.istore 8, 2) := by decide +kernel
theorem d_MM_asks_271 : decode b_MM_asks 271 = .ok (.goto (-37), 3) := by decide +kernel
theorem d_MM_asks_274 : decode b_MM_asks 274 = .ok (.iconst 0, 1) := by decide +kernel
theorem d_MM_asks_275 : decode b_MM_asks 275 = .ok (.ireturn, 1) := by decide +kernel
theorem d_MM_asks_276 : decode b_MM_asks 276 = .ok (.iload_n 1, 1) := by decide +kernel
theorem d_MM_asks_277 : decode b_MM_asks 277 = .ok (.bipush 36, 2) := by decide +kernel
theorem d_MM_asks_279 : decode b_MM_asks 279 = .ok (.if_icmp .ne 18, 3) := by decide +kernel
theorem d_MM_asks_282 : decode b_MM_asks 282 = .ok (.aload_n 0, 1) := by decide +kernel
theorem d_MM_asks_283 : decode b_MM_asks 283 = .ok (.getfield 24, 3) := by decide +kernel
theorem d_MM_asks_286 : decode b_MM_asks 286 = .ok (.iload 4, 2) := by decide +kernel
theorem d_MM_asks_288 : decode b_MM_asks 288 = .ok (.aload_n 0, 1) := by decide +kernel
theorem d_MM_asks_289 : decode b_MM_asks 289 = .ok (.getfield 20, 3) := by decide +kernel
theorem d_MM_asks_292 : decode b_MM_asks 292 = .ok (.iload_n 2, 1) := by decide +kernel
theorem d_MM_asks_293 : decode b_MM_asks 293 = .ok (.invokevirtual 540, 3) := by decide +kernel
theorem d_MM_asks_296 : decode b_MM_asks 296 = .ok (.ireturn, 1) := by decide +kernel
theorem d_MM_asks_297 : decode b_MM_asks 297 = .ok (.iload 7, 2) := by decide +kernel
theorem d_MM_asks_299 : decode b_MM_asks 299 = .ok (.iconst 4, 1) := by decide +kernel
theorem d_MM_asks_300 : decode b_MM_asks 300 = .ok (.if_icmp .ne 102, 3) := by decide +kernel
theorem d_MM_asks_303 : decode b_MM_asks 303 = .ok (.iload_n 1, 1) := by decide +kernel
theorem d_MM_asks_304 : decode b_MM_asks 304 = .ok (.bipush 23, 2) := by decide +kernel
theorem d_MM_asks_306 : decode b_MM_asks 306 = .ok (.if_icmp .ne 27, 3) := by decide +kernel
theorem d_MM_asks_309 : decode b_MM_asks 309 = .ok (.aload_n 0, 1) := by decide +kernel
theorem d_MM_asks_310 : decode b_MM_asks 310 = .ok (.getfield 24, 3) := by decide +kernel
theorem d_MM_asks_313 : decode b_MM_asks 313 = .ok (.getfield 272, 3) := by decide +kernel
theorem d_MM_asks_316 : decode b_MM_asks 316 = .ok (.iload 4, 2) := by decide +kernel
theorem d_MM_asks_318 : decode b_MM_asks 318 = .ok (.iaload, 1) := by decide +kernel
theorem d_MM_asks_319 : decode b_MM_asks 319 = .ok (.aload_n 0, 1) := by decide +kernel
theorem d_MM_asks_320 : decode b_MM_asks 320 = .ok (.iload_n 2, 1) := by decide +kernel
theorem d_MM_asks_321 : decode b_MM_asks 321 = .ok (.invokevirtual 449, 3) := by decide +kernel
theorem d_MM_asks_324 : decode b_MM_asks 324 = .ok (.if_icmp .gt 7, 3) := by decide +kernel
theorem d_MM_asks_327 : decode b_MM_asks 327 = .ok (.iconst 1, 1) := by decide +kernel
theorem d_MM_asks_328 : decode b_MM_asks 328 = .ok (.goto 4, 3) := by decide +kernel
theorem d_MM_asks_331 : decode b_MM_asks 331 = .ok (.iconst 0, 1) := by decide +kernel
theorem d_MM_asks_332 : decode b_MM_asks 332 = .ok (.ireturn, 1) := by decide +kernel
theorem d_MM_asks_333 : decode b_MM_asks 333 = .ok (.iload_n 1, 1) := by decide +kernel
theorem d_MM_asks_334 : decode b_MM_asks 334 = .ok (.bipush 24, 2) := by decide +kernel
theorem d_MM_asks_336 : decode b_MM_asks 336 = .ok (.if_icmp .ne 27, 3) := by decide +kernel
theorem d_MM_asks_339 : decode b_MM_asks 339 = .ok (.aload_n 0, 1) := by decide +kernel
theorem d_MM_asks_340 : decode b_MM_asks 340 = .ok (.getfield 24, 3) := by decide +kernel
theorem d_MM_asks_343 : decode b_MM_asks 343 = .ok (.getfield 272, 3) := by decide +kernel
theorem d_MM_asks_346 : decode b_MM_asks 346 = .ok (.iload 4, 2) := by decide +kernel
theorem d_MM_asks_348 : decode b_MM_asks 348 = .ok (.iaload, 1) := by decide +kernel
theorem d_MM_asks_349 : decode b_MM_asks 349 = .ok (.aload_n 0, 1) := by decide +kernel
theorem d_MM_asks_350 : decode b_MM_asks 350 = .ok (.iload_n 2, 1) := by decide +kernel
theorem d_MM_asks_351 : decode b_MM_asks 351 = .ok (.invokevirtual 449, 3) := by decide +kernel
theorem d_MM_asks_354 : decode b_MM_asks 354 = .ok (.if_icmp .lt 7, 3) := by decide +kernel
theorem d_MM_asks_357 : decode b_MM_asks 357 = .ok (.iconst 1, 1) := by decide +kernel
theorem d_MM_asks_358 : decode b_MM_asks 358 = .ok (.goto 4, 3) := by decide +kernel
theorem d_MM_asks_361 : decode b_MM_asks 361 = .ok (.iconst 0, 1) := by decide +kernel
theorem d_MM_asks_362 : decode b_MM_asks 362 = .ok (.ireturn, 1) := by decide +kernel
theorem d_MM_asks_363 : decode b_MM_asks 363 = .ok (.iload_n 1, 1) := by decide +kernel
theorem d_MM_asks_364 : decode b_MM_asks 364 = .ok (.bipush 31, 2) := by decide +kernel
theorem d_MM_asks_366 : decode b_MM_asks 366 = .ok (.if_icmp .ne 34, 3) := by decide +kernel
theorem d_MM_asks_369 : decode b_MM_asks 369 = .ok (.aload_n 0, 1) := by decide +kernel
theorem d_MM_asks_370 : decode b_MM_asks 370 = .ok (.aload_n 0, 1) := by decide +kernel
theorem d_MM_asks_371 : decode b_MM_asks 371 = .ok (.getfield 20, 3) := by decide +kernel
theorem d_MM_asks_374 : decode b_MM_asks 374 = .ok (.iload_n 2, 1) := by decide +kernel
theorem d_MM_asks_375 : decode b_MM_asks 375 = .ok (.invokevirtual 439, 3) := by decide +kernel
theorem d_MM_asks_378 : decode b_MM_asks 378 = .ok (.ifCond .eq 20, 3) := by decide +kernel
theorem d_MM_asks_381 : decode b_MM_asks 381 = .ok (.aload_n 0, 1) := by decide +kernel
theorem d_MM_asks_382 : decode b_MM_asks 382 = .ok (.aload_n 0, 1) := by decide +kernel
theorem d_MM_asks_383 : decode b_MM_asks 383 = .ok (.getfield 24, 3) := by decide +kernel
theorem d_MM_asks_386 : decode b_MM_asks 386 = .ok (.iload 4, 2) := by decide +kernel
theorem d_MM_asks_388 : decode b_MM_asks 388 = .ok (.invokevirtual 543, 3) := by decide +kernel
theorem d_MM_asks_391 : decode b_MM_asks 391 = .ok (.ifCond .eq 7, 3) := by decide +kernel
theorem d_MM_asks_394 : decode b_MM_asks 394 = .ok (.iconst 1, 1) := by decide +kernel
theorem d_MM_asks_395 : decode b_MM_asks 395 = .ok (.goto 4, 3) := by decide +kernel
theorem d_MM_asks_398 : decode b_MM_asks 398 = .ok (.iconst 0, 1) := by decide +kernel
theorem d_MM_asks_399 : decode b_MM_asks 399 = .ok (.ireturn, 1) := by decide +kernel
theorem d_MM_asks_400 : decode b_MM_asks 400 = .ok (.iconst 1, 1) := by decide +kernel
theorem d_MM_asks_401 : decode b_MM_asks 401 = .ok (.ireturn, 1) := by decide +kernel
theorem d_MM_asks_402 : decode b_MM_asks 402 = .ok (.iload 7, 2) := by decide +kernel
theorem d_MM_asks_404 : decode b_MM_asks 404 = .ok (.iconst 5, 1) := by decide +kernel
theorem d_MM_asks_405 : decode b_MM_asks 405 = .ok (.if_icmp .ne 13, 3) := by decide +kernel
theorem d_MM_asks_408 : decode b_MM_asks 408 = .ok (.aload_n 0, 1) := by decide +kernel
theorem d_MM_asks_409 : decode b_MM_asks 409 = .ok (.iload_n 1, 1) := by decide +kernel
theorem d_MM_asks_410 : decode b_MM_asks 410 = .ok (.iload_n 2, 1) := by decide +kernel
theorem d_MM_asks_411 : decode b_MM_asks 411 = .ok (.iload_n 3, 1) := by decide +kernel
theorem d_MM_asks_412 : decode b_MM_asks 412 = .ok (.iload 4, 2) := by decide +kernel
theorem d_MM_asks_414 : decode b_MM_asks 414 = .ok (.invokevirtual 546, 3) := by decide +kernel
theorem d_MM_asks_417 : decode b_MM_asks 417 = .ok (.ireturn, 1) := by decide +kernel
theorem d_MM_asks_418 : decode b_MM_asks 418 = .ok (.iload 7, 2) := by decide +kernel
theorem d_MM_asks_420 : decode b_MM_asks 420 = .ok (.bipush 6, 2) := by decide +kernel
theorem d_MM_asks_422 : decode b_MM_asks 422 = .ok (.if_icmp .ne 15, 3) := by decide +kernel
theorem d_MM_asks_425 : decode b_MM_asks 425 = .ok (.aload_n 0, 1) := by decide +kernel
theorem d_MM_asks_426 : decode b_MM_asks 426 = .ok (.iload_n 1, 1) := by decide +kernel
theorem d_MM_asks_427 : decode b_MM_asks 427 = .ok (.iload_n 2, 1) := by decide +kernel
theorem d_MM_asks_428 : decode b_MM_asks 428 = .ok (.iload_n 3, 1) := by decide +kernel
theorem d_MM_asks_429 : decode b_MM_asks 429 = .ok (.iload 4, 2) := by decide +kernel
theorem d_MM_asks_431 : decode b_MM_asks 431 = .ok (.invokevirtual 548, 3) := by decide +kernel
theorem d_MM_asks_434 : decode b_MM_asks 434 = .ok (.ifCond .eq 7, 3) := by decide +kernel
theorem d_MM_asks_437 : decode b_MM_asks 437 = .ok (.iconst 1, 1) := by decide +kernel
theorem d_MM_asks_438 : decode b_MM_asks 438 = .ok (.goto 4, 3) := by decide +kernel
theorem d_MM_asks_441 : decode b_MM_asks 441 = .ok (.iconst 0, 1) := by decide +kernel
theorem d_MM_asks_442 : decode b_MM_asks 442 = .ok (.ireturn, 1) := by decide +kernel
theorem d_MM_judge_0 : decode b_MM_judge 0 = .ok (.aload_n 0, 1) := by decide +kernel
theorem d_MM_judge_1 : decode b_MM_judge 1 = .ok (.getfield 506, 3) := by decide +kernel
theorem d_MM_judge_4 : decode b_MM_judge 4 = .ok (.ifCond .eq 5, 3) := by decide +kernel
theorem d_MM_judge_7 : decode b_MM_judge 7 = .ok (.iconst 0, 1) := by decide +kernel
theorem d_MM_judge_8 : decode b_MM_judge 8 = .ok (.ireturn, 1) := by decide +kernel
theorem d_MM_judge_9 : decode b_MM_judge 9 = .ok (.aload_n 0, 1) := by decide +kernel
theorem d_MM_judge_10 : decode b_MM_judge 10 = .ok (.dup, 1) := by decide +kernel
theorem d_MM_judge_11 : decode b_MM_judge 11 = .ok (.getfield 503, 3) := by decide +kernel
theorem d_MM_judge_14 : decode b_MM_judge 14 = .ok (.iconst 1, 1) := by decide +kernel
theorem d_MM_judge_15 : decode b_MM_judge 15 = .ok (.iadd, 1) := by decide +kernel
theorem d_MM_judge_16 : decode b_MM_judge 16 = .ok (.putfield 503, 3) := by decide +kernel
theorem d_MM_judge_19 : decode b_MM_judge 19 = .ok (.aload_n 0, 1) := by decide +kernel
theorem d_MM_judge_20 : decode b_MM_judge 20 = .ok (.dup, 1) := by decide +kernel
theorem d_MM_judge_21 : decode b_MM_judge 21 = .ok (.getfield 497, 3) := by decide +kernel
theorem d_MM_judge_24 : decode b_MM_judge 24 = .ok (.iconst 1, 1) := by decide +kernel
theorem d_MM_judge_25 : decode b_MM_judge 25 = .ok (.iadd, 1) := by decide +kernel
theorem d_MM_judge_26 : decode b_MM_judge 26 = .ok (.dup_x1, 1) := by decide +kernel
theorem d_MM_judge_27 : decode b_MM_judge 27 = .ok (.putfield 497, 3) := by decide +kernel
theorem d_MM_judge_30 : decode b_MM_judge 30 = .ok (.sipush 20000, 3) := by decide +kernel
theorem d_MM_judge_33 : decode b_MM_judge 33 = .ok (.if_icmp .gt 12, 3) := by decide +kernel
theorem d_MM_judge_36 : decode b_MM_judge 36 = .ok (.aload_n 0, 1) := by decide +kernel
theorem d_MM_judge_37 : decode b_MM_judge 37 = .ok (.getfield 503, 3) := by decide +kernel
theorem d_MM_judge_40 : decode b_MM_judge 40 = .ok (.bipush 100, 2) := by decide +kernel
theorem d_MM_judge_42 : decode b_MM_judge 42 = .ok (.if_icmp .le 20, 3) := by decide +kernel
theorem d_MM_judge_45 : decode b_MM_judge 45 = .ok (.aload_n 0, 1) := by decide +kernel
theorem d_MM_judge_46 : decode b_MM_judge 46 = .ok (.iconst 1, 1) := by decide +kernel
theorem d_MM_judge_47 : decode b_MM_judge 47 = .ok (.putfield 506, 3) := by decide +kernel
theorem d_MM_judge_50 : decode b_MM_judge 50 = .ok (.aload_n 0, 1) := by decide +kernel
theorem d_MM_judge_51 : decode b_MM_judge 51 = .ok (.dup, 1) := by decide +kernel
theorem d_MM_judge_52 : decode b_MM_judge 52 = .ok (.getfield 503, 3) := by decide +kernel
theorem d_MM_judge_55 : decode b_MM_judge 55 = .ok (.iconst 1, 1) := by decide +kernel
theorem d_MM_judge_56 : decode b_MM_judge 56 = .ok (.isub, 1) := by decide +kernel
theorem d_MM_judge_57 : decode b_MM_judge 57 = .ok (.putfield 503, 3) := by decide +kernel
theorem d_MM_judge_60 : decode b_MM_judge 60 = .ok (.iconst 0, 1) := by decide +kernel
theorem d_MM_judge_61 : decode b_MM_judge 61 = .ok (.ireturn, 1) := by decide +kernel
theorem d_MM_judge_62 : decode b_MM_judge 62 = .ok (.aload_n 0, 1) := by decide +kernel
theorem d_MM_judge_63 : decode b_MM_judge 63 = .ok (.getfield 503, 3) := by decide +kernel
theorem d_MM_judge_66 : decode b_MM_judge 66 = .ok (.aload_n 0, 1) := by decide +kernel
theorem d_MM_judge_67 : decode b_MM_judge 67 = .ok (.getfield 500, 3) := by decide +kernel
theorem d_MM_judge_70 : decode b_MM_judge 70 = .ok (.if_icmp .le 11, 3) := by decide +kernel
theorem d_MM_judge_73 : decode b_MM_judge 73 = .ok (.aload_n 0, 1) := by decide +kernel
theorem d_MM_judge_74 : decode b_MM_judge 74 = .ok (.aload_n 0, 1) := by decide +kernel
theorem d_MM_judge_75 : decode b_MM_judge 75 = .ok (.getfield 503, 3) := by decide +kernel
theorem d_MM_judge_78 : decode b_MM_judge 78 = .ok (.putfield 500, 3) := by decide +kernel
theorem d_MM_judge_81 : decode b_MM_judge 81 = .ok (.aload_n 0, 1) := by decide +kernel
theorem d_MM_judge_82 : decode b_MM_judge 82 = .ok (.getfield 20, 3) := by decide +kernel
theorem d_MM_judge_85 : decode b_MM_judge 85 = .ok (.getfield 419, 3) := by decide +kernel
theorem d_MM_judge_88 : decode b_MM_judge 88 = .ok (.iload_n 1, 1) := by decide +kernel
theorem d_MM_judge_89 : decode b_MM_judge 89 = .ok (.iaload, 1) := by decide +kernel
theorem d_MM_judge_90 : decode b_MM_judge 90 = .ok (.iconst 2, 1) := by decide +kernel
theorem d_MM_judge_91 : decode b_MM_judge 91 = .ok (.if_icmp .ne 7, 3) := by decide +kernel
theorem d_MM_judge_94 : decode b_MM_judge 94 = .ok (.iconst 1, 1) := by decide +kernel
theorem d_MM_judge_95 : decode b_MM_judge 95 = .ok (.goto 4, 3) := by decide +kernel
theorem d_MM_judge_98 : decode b_MM_judge 98 = .ok (.iconst 0, 1) := by decide +kernel
theorem d_MM_judge_99 : decode b_MM_judge 99 = .ok (.istore_n 3, 1) := by decide +kernel
theorem d_MM_judge_100 : decode b_MM_judge 100 = .ok (.lconst 0, 1) := by decide +kernel
theorem d_MM_judge_101 : decode b_MM_judge 101 = .ok (.lstore 4, 2) := by decide +kernel
theorem d_MM_judge_103 : decode b_MM_judge 103 = .ok (.aload_n 0, 1) := by decide +kernel
theorem d_MM_judge_104 : decode b_MM_judge 104 = .ok (.getfield 20, 3) := by decide +kernel
theorem d_MM_judge_107 : decode b_MM_judge 107 = .ok (.getfield 419, 3) := by decide +kernel
theorem d_MM_judge_110 : decode b_MM_judge 110 = .ok (.iload_n 1, 1) := by decide +kernel
theorem d_MM_judge_111 : decode b_MM_judge 111 = .ok (.iaload, 1) := by decide +kernel
theorem d_MM_judge_112 : decode b_MM_judge 112 = .ok (.iconst 1, 1) := by decide +kernel
theorem d_MM_judge_113 : decode b_MM_judge 113 = .ok (.if_icmp .ne 12, 3) := by decide +kernel
theorem d_MM_judge_116 : decode b_MM_judge 116 = .ok (.aload_n 0, 1) := by decide +kernel
theorem d_MM_judge_117 : decode b_MM_judge 117 = .ok (.iload_n 2, 1) := by decide +kernel
theorem d_MM_judge_118 : decode b_MM_judge 118 = .ok (.iload_n 1, 1) := by decide +kernel
theorem d_MM_judge_119 : decode b_MM_judge 119 = .ok (.invokevirtual 515, 3) := by decide +kernel
theorem d_MM_judge_122 : decode b_MM_judge 122 = .ok (.goto 172, 3) := by decide +kernel
theorem d_MM_judge_125 : decode b_MM_judge 125 = .ok (.aload_n 0, 1) := by decide +kernel
theorem d_MM_judge_126 : decode b_MM_judge 126 = .ok (.getfield 20, 3) := by decide +kernel
theorem d_MM_judge_129 : decode b_MM_judge 129 = .ok (.getfield 419, 3) := by decide +kernel
theorem d_MM_judge_132 : decode b_MM_judge 132 = .ok (.iload_n 1, 1) := by decide +kernel
theorem d_MM_judge_133 : decode b_MM_judge 133 = .ok (.iaload, 1) := by decide +kernel
theorem d_MM_judge_134 : decode b_MM_judge 134 = .ok (.bipush 6, 2) := by decide +kernel
theorem d_MM_judge_136 : decode b_MM_judge 136 = .ok (.if_icmp .ne 158, 3) := by decide +kernel
theorem d_MM_judge_139 : decode b_MM_judge 139 = .ok (.iconst 1, 1) := by decide +kernel
theorem d_MM_judge_140 : decode b_MM_judge 140 = .ok (.istore_n 3, 1) := by decide +kernel
theorem d_MM_judge_141 : decode b_MM_judge 141 = .ok (.iconst 0, 1) := by decide +kernel
theorem d_MM_judge_142 : decode b_MM_judge 142 = .ok (.istore 6, 2) := by decide +kernel
theorem d_MM_judge_144 : decode b_MM_judge 144 = .ok (.iload 6, 2) := by decide +kernel
theorem d_MM_judge_146 : decode b_MM_judge 146 = .ok (.iconst 2, 1) := by decide +kernel
theorem d_MM_judge_147 : decode b_MM_judge 147 = .ok (.if_icmp .ge 147, 3) := by decide +kernel
theorem d_MM_judge_150 : decode b_MM_judge 150 = .ok (.aload_n 0, 1) := by decide +kernel
theorem d_MM_judge_151 : decode b_MM_judge 151 = .ok (.getfield 20, 3) := by decide +kernel
theorem d_MM_judge_154 : decode b_MM_judge 154 = .ok (.getfield 422, 3) := by decide +kernel
theorem d_MM_judge_157 : decode b_MM_judge 157 = .ok (.iload_n 1, 1) := by decide +kernel
theorem d_MM_judge_158 : decode b_MM_judge 158 = .ok (.iaload, 1) := by decide +kernel
theorem d_MM_judge_159 : decode b_MM_judge 159 = .ok (.istore 7, 2) := by decide +kernel
theorem d_MM_judge_161 : decode b_MM_judge 161 = .ok (.iload 7, 2) := by decide +kernel
theorem d_MM_judge_163 : decode b_MM_judge 163 = .ok (.ifCond .lt 125, 3) := by decide +kernel
theorem d_MM_judge_166 : decode b_MM_judge 166 = .ok (.aload_n 0, 1) := by decide +kernel
theorem d_MM_judge_167 : decode b_MM_judge 167 = .ok (.getfield 506, 3) := by decide +kernel
theorem d_MM_judge_170 : decode b_MM_judge 170 = .ok (.ifCond .ne 118, 3) := by decide +kernel
theorem d_MM_judge_173 : decode b_MM_judge 173 = .ok (.aload_n 0, 1) := by decide +kernel
theorem d_MM_judge_174 : decode b_MM_judge 174 = .ok (.getfield 194, 3) := by decide +kernel
theorem d_MM_judge_177 : decode b_MM_judge 177 = .ok (.iload 7, 2) := by decide +kernel
theorem d_MM_judge_179 : decode b_MM_judge 179 = .ok (.iaload, 1) := by decide +kernel
theorem d_MM_judge_180 : decode b_MM_judge 180 = .ok (.istore 8, 2) := by decide +kernel
theorem d_MM_judge_182 : decode b_MM_judge 182 = .ok (.iload 8, 2) := by decide +kernel
theorem d_MM_judge_184 : decode b_MM_judge 184 = .ok (.ifCond .lt 89, 3) := by decide +kernel
theorem d_MM_judge_187 : decode b_MM_judge 187 = .ok (.iload 8, 2) := by decide +kernel
theorem d_MM_judge_189 : decode b_MM_judge 189 = .ok (.bipush 8, 2) := by decide +kernel
theorem d_MM_judge_191 : decode b_MM_judge 191 = .ok (.if_icmp .eq 10, 3) := by decide +kernel
theorem d_MM_judge_194 : decode b_MM_judge 194 = .ok (.iload 8, 2) := by decide +kernel
theorem d_MM_judge_196 : decode b_MM_judge 196 = .ok (.bipush 9, 2) := by decide +kernel
theorem d_MM_judge_198 : decode b_MM_judge 198 = .ok (.if_icmp .ne 7, 3) := by decide +kernel
theorem d_MM_judge_201 : decode b_MM_judge 201 = .ok (.iconst 1, 1) := by decide +kernel
theorem d_MM_judge_202 : decode b_MM_judge 202 = .ok (.goto 4, 3) := by decide +kernel
theorem d_MM_judge_205 : decode b_MM_judge 205 = .ok (.iconst 0, 1) := by decide +kernel
theorem d_MM_judge_206 : decode b_MM_judge 206 = .ok (.iload 6, 2) := by decide +kernel
theorem d_MM_judge_208 : decode b_MM_judge 208 = .ok (.iconst 1, 1) := by decide +kernel
theorem d_MM_judge_209 : decode b_MM_judge 209 = .ok (.if_icmp .ne 7, 3) := by decide +kernel
theorem d_MM_judge_212 : decode b_MM_judge 212 = .ok (.iconst 1, 1) := by decide +kernel
theorem d_MM_judge_213 : decode b_MM_judge 213 = .ok (.goto 4, 3) := by decide +kernel
theorem d_MM_judge_216 : decode b_MM_judge 216 = .ok (.iconst 0, 1) := by decide +kernel
theorem d_MM_judge_217 : decode b_MM_judge 217 = .ok (.if_icmp .eq 6, 3) := by decide +kernel
theorem d_MM_judge_220 : decode b_MM_judge 220 = .ok (.goto 53, 3) := by decide +kernel
theorem d_MM_judge_223 : decode b_MM_judge 223 = .ok (.aload_n 0, 1) := by decide +kernel
theorem d_MM_judge_224 : decode b_MM_judge 224 = .ok (.lload 4, 2) := by decide +kernel
theorem d_MM_judge_226 : decode b_MM_judge 226 = .ok (.putfield 518, 3) := by decide +kernel
theorem d_MM_judge_229 : decode b_MM_judge 229 = .ok (.aload_n 0, 1) := by decide +kernel
theorem d_MM_judge_230 : decode b_MM_judge 230 = .ok (.iload 8, 2) := by decide +kernel
theorem d_MM_judge_232 : decode b_MM_judge 232 = .ok (.iload 7, 2) := by decide +kernel
theorem d_MM_judge_234 : decode b_MM_judge 234 = .ok (.iload_n 1, 1) := by decide +kernel
theorem d_MM_judge_235 : decode b_MM_judge 235 = .ok (.iload_n 2, 1) := by decide +kernel
theorem d_MM_judge_236 : decode b_MM_judge 236 = .ok (.invokevirtual 522, 3) := by decide +kernel
theorem d_MM_judge_239 : decode b_MM_judge 239 = .ok (.istore 9, 2) := by decide +kernel
theorem d_MM_judge_241 : decode b_MM_judge 241 = .ok (.lload 4, 2) := by decide +kernel
theorem d_MM_judge_243 : decode b_MM_judge 243 = .ok (.aload_n 0, 1) := by decide +kernel
theorem d_MM_judge_244 : decode b_MM_judge 244 = .ok (.getfield 518, 3) := by decide +kernel
theorem d_MM_judge_247 : decode b_MM_judge 247 = .ok (.lor, 1) := by decide +kernel
theorem d_MM_judge_248 : decode b_MM_judge 248 = .ok (.lstore 4, 2) := by decide +kernel
theorem d_MM_judge_250 : decode b_MM_judge 250 = .ok (.iload 9, 2) := by decide +kernel
theorem d_MM_judge_252 : decode b_MM_judge 252 = .ok (.ifCond .eq 6, 3) := by decide +kernel
theorem d_MM_judge_255 : decode b_MM_judge 255 = .ok (.goto 18, 3) := by decide +kernel
theorem d_MM_judge_258 : decode b_MM_judge 258 = .ok (.iconst 0, 1) := by decide +kernel
theorem d_MM_judge_259 : decode b_MM_judge 259 = .ok (.istore_n 3, 1) := by decide +kernel
theorem d_MM_judge_260 : decode b_MM_judge 260 = .ok (.iload 8, 2) := by decide +kernel
theorem d_MM_judge_262 : decode b_MM_judge 262 = .ok (.iconst 1, 1) := by decide +kernel
theorem d_MM_judge_263 : decode b_MM_judge 263 = .ok (.if_icmp .eq 10, 3) := by decide +kernel
theorem d_MM_judge_266 : decode b_MM_judge 266 = .ok (.aload_n 0, 1) := by decide +kernel
theorem d_MM_judge_267 : decode b_MM_judge 267 = .ok (.iload_n 2, 1) := by decide +kernel
theorem d_MM_judge_268 : decode b_MM_judge 268 = .ok (.iload 7, 2) := by decide +kernel
theorem d_MM_judge_270 : decode b_MM_judge 270 = .ok (.invokevirtual 515, 3) := by decide +kernel
theorem d_MM_judge_273 : decode b_MM_judge 273 = .ok (.aload_n 0, 1) := by decide +kernel
theorem d_MM_judge_274 : decode b_MM_judge 274 = .ok (.getfield 20, 3) := by decide +kernel
theorem d_MM_judge_277 : decode b_MM_judge 277 = .ok (.getfield 436, 3) := by decide +kernel
theorem d_MM_judge_280 : decode b_MM_judge 280 = .ok (.iload 7, 2) := by decide +kernel
theorem d_MM_judge_282 : decode b_MM_judge 282 = .ok (.iaload, 1) := by decide +kernel
theorem d_MM_judge_283 : decode b_MM_judge 283 = .ok (.istore 7, 2) := by decide +kernel
theorem d_MM_judge_285 : decode b_MM_judge 285 = .ok (.goto (-124), 3) := by decide +kernel
theorem d_MM_judge_288 : decode b_MM_judge 288 = .ok (.iinc 6 1, 3) := by decide +kernel
theorem d_MM_judge_291 : decode b_MM_judge 291 = .ok (.goto (-147), 3) := by decide +kernel
theorem d_MM_judge_294 : decode b_MM_judge 294 = .ok (.aload_n 0, 1) := by decide +kernel
theorem d_MM_judge_295 : decode b_MM_judge 295 = .ok (.lload 4, 2) := by decide +kernel
theorem d_MM_judge_297 : decode b_MM_judge 297 = .ok (.putfield 518, 3) := by decide +kernel
theorem d_MM_judge_300 : decode b_MM_judge 300 = .ok (.aload_n 0, 1) := by decide +kernel
theorem d_MM_judge_301 : decode b_MM_judge 301 = .ok (.dup, 1) := by decide +kernel
theorem d_MM_judge_302 : decode b_MM_judge 302 = .ok (.getfield 503, 3) := by decide +kernel
theorem d_MM_judge_305 : decode b_MM_judge 305 = .ok (.iconst 1, 1) := by decide +kernel
theorem d_MM_judge_306 : decode b_MM_judge 306 = .ok (.isub, 1) := by decide +kernel
theorem d_MM_judge_307 : decode b_MM_judge 307 = .ok (.putfield 503, 3) := by decide +kernel
theorem d_MM_judge_310 : decode b_MM_judge 310 = .ok (.iload_n 3, 1) := by decide +kernel
theorem d_MM_judge_311 : decode b_MM_judge 311 = .ok (.ifCond .eq 14, 3) := by decide +kernel
theorem d_MM_judge_314 : decode b_MM_judge 314 = .ok (.aload_n 0, 1) := by decide +kernel
theorem d_MM_judge_315 : decode b_MM_judge 315 = .ok (.getfield 506, 3) := by decide +kernel
theorem d_MM_judge_318 : decode b_MM_judge 318 = .ok (.ifCond .ne 7, 3) := by decide +kernel
theorem d_MM_judge_321 : decode b_MM_judge 321 = .ok (.iconst 1, 1) := by decide +kernel
theorem d_MM_judge_322 : decode b_MM_judge 322 = .ok (.goto 4, 3) := by decide +kernel
theorem d_MM_judge_325 : decode b_MM_judge 325 = .ok (.iconst 0, 1) := by decide +kernel
theorem d_MM_judge_326 : decode b_MM_judge 326 = .ok (.ireturn, 1) := by decide +kernel
theorem d_MM_sort_0 : decode b_MM_sort 0 = .ok (.iconst 1, 1) := by decide +kernel
theorem d_MM_sort_1 : decode b_MM_sort 1 = .ok (.istore_n 1, 1) := by decide +kernel
theorem d_MM_sort_2 : decode b_MM_sort 2 = .ok (.iload_n 1, 1) := by decide +kernel
theorem d_MM_sort_3 : decode b_MM_sort 3 = .ok (.aload_n 0, 1) := by decide +kernel
theorem d_MM_sort_4 : decode b_MM_sort 4 = .ok (.getfield 494, 3) := by decide +kernel
theorem d_MM_sort_7 : decode b_MM_sort 7 = .ok (.if_icmp .ge 124, 3) := by decide +kernel
theorem d_MM_sort_10 : decode b_MM_sort 10 = .ok (.aload_n 0, 1) := by decide +kernel
theorem d_MM_sort_11 : decode b_MM_sort 11 = .ok (.getfield 224, 3) := by decide +kernel
theorem d_MM_sort_14 : decode b_MM_sort 14 = .ok (.iload_n 1, 1) := by decide +kernel
theorem d_MM_sort_15 : decode b_MM_sort 15 = .ok (.iaload, 1) := by decide +kernel
theorem d_MM_sort_16 : decode b_MM_sort 16 = .ok (.istore_n 2, 1) := by decide +kernel
theorem d_MM_sort_17 : decode b_MM_sort 17 = .ok (.aload_n 0, 1) := by decide +kernel
theorem d_MM_sort_18 : decode b_MM_sort 18 = .ok (.getfield 227, 3) := by decide +kernel
theorem d_MM_sort_21 : decode b_MM_sort 21 = .ok (.iload_n 1, 1) := by decide +kernel
theorem d_MM_sort_22 : decode b_MM_sort 22 = .ok (.iaload, 1) := by decide +kernel
theorem d_MM_sort_23 : decode b_MM_sort 23 = .ok (.istore_n 3, 1) := by decide +kernel
theorem d_MM_sort_24 : decode b_MM_sort 24 = .ok (.iload_n 1, 1) := by decide +kernel
theorem d_MM_sort_25 : decode b_MM_sort 25 = .ok (.istore 4, 2) := by decide +kernel
theorem d_MM_sort_27 : decode b_MM_sort 27 = .ok (.iload 4, 2) := by decide +kernel
theorem d_MM_sort_29 : decode b_MM_sort 29 = .ok (.ifCond .le 80, 3) := by decide +kernel
theorem d_MM_sort_32 : decode b_MM_sort 32 = .ok (.aload_n 0, 1) := by decide +kernel
theorem d_MM_sort_33 : decode b_MM_sort 33 = .ok (.getfield 224, 3) := by decide +kernel
theorem d_MM_sort_36 : decode b_MM_sort 36 = .ok (.iload 4, 2) := by decide +kernel
theorem d_MM_sort_38 : decode b_MM_sort 38 = .ok (.iconst 1, 1) := by decide +kernel
theorem d_MM_sort_39 : decode b_MM_sort 39 = .ok (.isub, 1) := by decide +kernel
theorem d_MM_sort_40 : decode b_MM_sort 40 = .ok (.iaload, 1) := by decide +kernel
theorem d_MM_sort_41 : decode b_MM_sort 41 = .ok (.iload_n 2, 1) := by decide +kernel
theorem d_MM_sort_42 : decode b_MM_sort 42 = .ok (.if_icmp .gt 29, 3) := by decide +kernel
theorem d_MM_sort_45 : decode b_MM_sort 45 = .ok (.aload_n 0, 1) := by decide +kernel
theorem d_MM_sort_46 : decode b_MM_sort 46 = .ok (.getfield 224, 3) := by decide +kernel
theorem d_MM_sort_49 : decode b_MM_sort 49 = .ok (.iload 4, 2) := by decide +kernel
theorem d_MM_sort_51 : decode b_MM_sort 51 = .ok (.iconst 1, 1) := by decide +kernel
theorem d_MM_sort_52 : decode b_MM_sort 52 = .ok (.isub, 1) := by decide +kernel
theorem d_MM_sort_53 : decode b_MM_sort 53 = .ok (.iaload, 1) := by decide +kernel
theorem d_MM_sort_54 : decode b_MM_sort 54 = .ok (.iload_n 2, 1) := by decide +kernel
theorem d_MM_sort_55 : decode b_MM_sort 55 = .ok (.if_icmp .ne 54, 3) := by decide +kernel
theorem d_MM_sort_58 : decode b_MM_sort 58 = .ok (.aload_n 0, 1) := by decide +kernel
theorem d_MM_sort_59 : decode b_MM_sort 59 = .ok (.getfield 227, 3) := by decide +kernel
theorem d_MM_sort_62 : decode b_MM_sort 62 = .ok (.iload 4, 2) := by decide +kernel
theorem d_MM_sort_64 : decode b_MM_sort 64 = .ok (.iconst 1, 1) := by decide +kernel
theorem d_MM_sort_65 : decode b_MM_sort 65 = .ok (.isub, 1) := by decide +kernel
theorem d_MM_sort_66 : decode b_MM_sort 66 = .ok (.iaload, 1) := by decide +kernel
theorem d_MM_sort_67 : decode b_MM_sort 67 = .ok (.iload_n 3, 1) := by decide +kernel
theorem d_MM_sort_68 : decode b_MM_sort 68 = .ok (.if_icmp .le 41, 3) := by decide +kernel
theorem d_MM_sort_71 : decode b_MM_sort 71 = .ok (.aload_n 0, 1) := by decide +kernel
theorem d_MM_sort_72 : decode b_MM_sort 72 = .ok (.getfield 224, 3) := by decide +kernel
theorem d_MM_sort_75 : decode b_MM_sort 75 = .ok (.iload 4, 2) := by decide +kernel
theorem d_MM_sort_77 : decode b_MM_sort 77 = .ok (.aload_n 0, 1) := by decide +kernel
theorem d_MM_sort_78 : decode b_MM_sort 78 = .ok (.getfield 224, 3) := by decide +kernel
theorem d_MM_sort_81 : decode b_MM_sort 81 = .ok (.iload 4, 2) := by decide +kernel
theorem d_MM_sort_83 : decode b_MM_sort 83 = .ok (.iconst 1, 1) := by decide +kernel
theorem d_MM_sort_84 : decode b_MM_sort 84 = .ok (.isub, 1) := by decide +kernel
theorem d_MM_sort_85 : decode b_MM_sort 85 = .ok (.iaload, 1) := by decide +kernel
theorem d_MM_sort_86 : decode b_MM_sort 86 = .ok (.iastore, 1) := by decide +kernel
theorem d_MM_sort_87 : decode b_MM_sort 87 = .ok (.aload_n 0, 1) := by decide +kernel
theorem d_MM_sort_88 : decode b_MM_sort 88 = .ok (.getfield 227, 3) := by decide +kernel
theorem d_MM_sort_91 : decode b_MM_sort 91 = .ok (.iload 4, 2) := by decide +kernel
theorem d_MM_sort_93 : decode b_MM_sort 93 = .ok (.aload_n 0, 1) := by decide +kernel
theorem d_MM_sort_94 : decode b_MM_sort 94 = .ok (.getfield 227, 3) := by decide +kernel
theorem d_MM_sort_97 : decode b_MM_sort 97 = .ok (.iload 4, 2) := by decide +kernel
theorem d_MM_sort_99 : decode b_MM_sort 99 = .ok (.iconst 1, 1) := by decide +kernel
theorem d_MM_sort_100 : decode b_MM_sort 100 = .ok (.isub, 1) := by decide +kernel
theorem d_MM_sort_101 : decode b_MM_sort 101 = .ok (.iaload, 1) := by decide +kernel
theorem d_MM_sort_102 : decode b_MM_sort 102 = .ok (.iastore, 1) := by decide +kernel
theorem d_MM_sort_103 : decode b_MM_sort 103 = .ok (.iinc 4 (-1), 3) := by decide +kernel
theorem d_MM_sort_106 : decode b_MM_sort 106 = .ok (.goto (-79), 3) := by decide +kernel
theorem d_MM_sort_109 : decode b_MM_sort 109 = .ok (.aload_n 0, 1) := by decide +kernel
theorem d_MM_sort_110 : decode b_MM_sort 110 = .ok (.getfield 224, 3) := by decide +kernel
theorem d_MM_sort_113 : decode b_MM_sort 113 = .ok (.iload 4, 2) := by decide +kernel
theorem d_MM_sort_115 : decode b_MM_sort 115 = .ok (.iload_n 2, 1) := by decide +kernel
theorem d_MM_sort_116 : decode b_MM_sort 116 = .ok (.iastore, 1) := by decide +kernel
theorem d_MM_sort_117 : decode b_MM_sort 117 = .ok (.aload_n 0, 1) := by decide +kernel
theorem d_MM_sort_118 : decode b_MM_sort 118 = .ok (.getfield 227, 3) := by decide +kernel
theorem d_MM_sort_121 : decode b_MM_sort 121 = .ok (.iload 4, 2) := by decide +kernel
theorem d_MM_sort_123 : decode b_MM_sort 123 = .ok (.iload_n 3, 1) := by decide +kernel
theorem d_MM_sort_124 : decode b_MM_sort 124 = .ok (.iastore, 1) := by decide +kernel
theorem d_MM_sort_125 : decode b_MM_sort 125 = .ok (.iinc 1 1, 3) := by decide +kernel
theorem d_MM_sort_128 : decode b_MM_sort 128 = .ok (.goto (-126), 3) := by decide +kernel
theorem d_MM_sort_131 : decode b_MM_sort 131 = .ok (.iconst 0, 1) := by decide +kernel
theorem d_MM_sort_132 : decode b_MM_sort 132 = .ok (.istore_n 1, 1) := by decide +kernel
theorem d_MM_sort_133 : decode b_MM_sort 133 = .ok (.iconst 0, 1) := by decide +kernel
theorem d_MM_sort_134 : decode b_MM_sort 134 = .ok (.istore_n 2, 1) := by decide +kernel
theorem d_MM_sort_135 : decode b_MM_sort 135 = .ok (.iload_n 2, 1) := by decide +kernel
theorem d_MM_sort_136 : decode b_MM_sort 136 = .ok (.aload_n 0, 1) := by decide +kernel
theorem d_MM_sort_137 : decode b_MM_sort 137 = .ok (.getfield 494, 3) := by decide +kernel
theorem d_MM_sort_140 : decode b_MM_sort 140 = .ok (.if_icmp .ge 77, 3) := by decide +kernel
theorem d_MM_sort_143 : decode b_MM_sort 143 = .ok (.iload_n 1, 1) := by decide +kernel
theorem d_MM_sort_144 : decode b_MM_sort 144 = .ok (.ifCond .le 40, 3) := by decide +kernel
theorem d_MM_sort_147 : decode b_MM_sort 147 = .ok (.aload_n 0, 1) := by decide +kernel
theorem d_MM_sort_148 : decode b_MM_sort 148 = .ok (.getfield 224, 3) := by decide +kernel
theorem d_MM_sort_151 : decode b_MM_sort 151 = .ok (.iload_n 1, 1) := by decide +kernel
theorem d_MM_sort_152 : decode b_MM_sort 152 = .ok (.iconst 1, 1) := by decide +kernel
theorem d_MM_sort_153 : decode b_MM_sort 153 = .ok (.isub, 1) := by decide +kernel
theorem d_MM_sort_154 : decode b_MM_sort 154 = .ok (.iaload, 1) := by decide +kernel
theorem d_MM_sort_155 : decode b_MM_sort 155 = .ok (.aload_n 0, 1) := by decide +kernel
theorem d_MM_sort_156 : decode b_MM_sort 156 = .ok (.getfield 224, 3) := by decide +kernel
theorem d_MM_sort_159 : decode b_MM_sort 159 = .ok (.iload_n 2, 1) := by decide +kernel
theorem d_MM_sort_160 : decode b_MM_sort 160 = .ok (.iaload, 1) := by decide +kernel
theorem d_MM_sort_161 : decode b_MM_sort 161 = .ok (.if_icmp .ne 23, 3) := by decide +kernel
theorem d_MM_sort_164 : decode b_MM_sort 164 = .ok (.aload_n 0, 1) := by decide +kernel
theorem d_MM_sort_165 : decode b_MM_sort 165 = .ok (.getfield 227, 3) := by decide +kernel
theorem d_MM_sort_168 : decode b_MM_sort 168 = .ok (.iload_n 1, 1) := by decide +kernel
theorem d_MM_sort_169 : decode b_MM_sort 169 = .ok (.iconst 1, 1) := by decide +kernel
theorem d_MM_sort_170 : decode b_MM_sort 170 = .ok (.isub, 1) := by decide +kernel
theorem d_MM_sort_171 : decode b_MM_sort 171 = .ok (.iaload, 1) := by decide +kernel
theorem d_MM_sort_172 : decode b_MM_sort 172 = .ok (.aload_n 0, 1) := by decide +kernel
theorem d_MM_sort_173 : decode b_MM_sort 173 = .ok (.getfield 227, 3) := by decide +kernel
theorem d_MM_sort_176 : decode b_MM_sort 176 = .ok (.iload_n 2, 1) := by decide +kernel
theorem d_MM_sort_177 : decode b_MM_sort 177 = .ok (.iaload, 1) := by decide +kernel
theorem d_MM_sort_178 : decode b_MM_sort 178 = .ok (.if_icmp .ne 6, 3) := by decide +kernel
theorem d_MM_sort_181 : decode b_MM_sort 181 = .ok (.goto 30, 3) := by decide +kernel
theorem d_MM_sort_184 : decode b_MM_sort 184 = .ok (.aload_n 0, 1) := by decide +kernel
theorem d_MM_sort_185 : decode b_MM_sort 185 = .ok (.getfield 224, 3) := by decide +kernel
theorem d_MM_sort_188 : decode b_MM_sort 188 = .ok (.iload_n 1, 1) := by decide +kernel
theorem d_MM_sort_189 : decode b_MM_sort 189 = .ok (.aload_n 0, 1) := by decide +kernel
theorem d_MM_sort_190 : decode b_MM_sort 190 = .ok (.getfield 224, 3) := by decide +kernel
theorem d_MM_sort_193 : decode b_MM_sort 193 = .ok (.iload_n 2, 1) := by decide +kernel
theorem d_MM_sort_194 : decode b_MM_sort 194 = .ok (.iaload, 1) := by decide +kernel
theorem d_MM_sort_195 : decode b_MM_sort 195 = .ok (.iastore, 1) := by decide +kernel
theorem d_MM_sort_196 : decode b_MM_sort 196 = .ok (.aload_n 0, 1) := by decide +kernel
theorem d_MM_sort_197 : decode b_MM_sort 197 = .ok (.getfield 227, 3) := by decide +kernel
theorem d_MM_sort_200 : decode b_MM_sort 200 = .ok (.iload_n 1, 1) := by decide +kernel
theorem d_MM_sort_201 : decode b_MM_sort 201 = .ok (.iinc 1 1, 3) := by decide +kernel
theorem d_MM_sort_204 : decode b_MM_sort 204 = .ok (.aload_n 0, 1) := by decide +kernel
theorem d_MM_sort_205 : decode b_MM_sort 205 = .ok (.getfield 227, 3) := by decide +kernel
theorem d_MM_sort_208 : decode b_MM_sort 208 = .ok (.iload_n 2, 1) := by decide +kernel
theorem d_MM_sort_209 : decode b_MM_sort 209 = .ok (.iaload, 1) := by decide +kernel
theorem d_MM_sort_210 : decode b_MM_sort 210 = .ok (.iastore, 1) := by decide +kernel
theorem d_MM_sort_211 : decode b_MM_sort 211 = .ok (.iinc 2 1, 3) := by decide +kernel
theorem d_MM_sort_214 : decode b_MM_sort 214 = .ok (.goto (-79), 3) := by decide +kernel
theorem d_MM_sort_217 : decode b_MM_sort 217 = .ok (.aload_n 0, 1) := by decide +kernel
theorem d_MM_sort_218 : decode b_MM_sort 218 = .ok (.iload_n 1, 1) := by decide +kernel
theorem d_MM_sort_219 : decode b_MM_sort 219 = .ok (.putfield 494, 3) := by decide +kernel
