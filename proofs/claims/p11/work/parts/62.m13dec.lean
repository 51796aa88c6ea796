theorem d_Pg_beginSet_0 : decode b_Pg_beginSet 0 = .ok (.aload_n 0, 1) := by decide +kernel
theorem d_Pg_beginSet_1 : decode b_Pg_beginSet 1 = .ok (.getfield 37, 3) := by decide +kernel
theorem d_Pg_beginSet_4 : decode b_Pg_beginSet 4 = .ok (.istore_n 1, 1) := by decide +kernel
theorem d_Pg_beginSet_5 : decode b_Pg_beginSet 5 = .ok (.aload_n 0, 1) := by decide +kernel
theorem d_Pg_beginSet_6 : decode b_Pg_beginSet 6 = .ok (.getfield 37, 3) := by decide +kernel
theorem d_Pg_beginSet_9 : decode b_Pg_beginSet 9 = .ok (.iconst 2, 1) := by decide +kernel
theorem d_Pg_beginSet_10 : decode b_Pg_beginSet 10 = .ok (.iadd, 1) := by decide +kernel
theorem d_Pg_beginSet_11 : decode b_Pg_beginSet 11 = .ok (.aload_n 0, 1) := by decide +kernel
theorem d_Pg_beginSet_12 : decode b_Pg_beginSet 12 = .ok (.getfield 18, 3) := by decide +kernel
theorem d_Pg_beginSet_15 : decode b_Pg_beginSet 15 = .ok (.arraylength, 1) := by decide +kernel
theorem d_Pg_beginSet_16 : decode b_Pg_beginSet 16 = .ok (.if_icmp .gt 29, 3) := by decide +kernel
theorem d_Pg_beginSet_19 : decode b_Pg_beginSet 19 = .ok (.aload_n 0, 1) := by decide +kernel
theorem d_Pg_beginSet_20 : decode b_Pg_beginSet 20 = .ok (.getfield 18, 3) := by decide +kernel
theorem d_Pg_beginSet_23 : decode b_Pg_beginSet 23 = .ok (.iload_n 1, 1) := by decide +kernel
theorem d_Pg_beginSet_24 : decode b_Pg_beginSet 24 = .ok (.iconst 0, 1) := by decide +kernel
theorem d_Pg_beginSet_25 : decode b_Pg_beginSet 25 = .ok (.iastore, 1) := by decide +kernel
theorem d_Pg_beginSet_26 : decode b_Pg_beginSet 26 = .ok (.aload_n 0, 1) := by decide +kernel
theorem d_Pg_beginSet_27 : decode b_Pg_beginSet 27 = .ok (.getfield 18, 3) := by decide +kernel
theorem d_Pg_beginSet_30 : decode b_Pg_beginSet 30 = .ok (.iload_n 1, 1) := by decide +kernel
theorem d_Pg_beginSet_31 : decode b_Pg_beginSet 31 = .ok (.iconst 1, 1) := by decide +kernel
theorem d_Pg_beginSet_32 : decode b_Pg_beginSet 32 = .ok (.iadd, 1) := by decide +kernel
theorem d_Pg_beginSet_33 : decode b_Pg_beginSet 33 = .ok (.iconst 0, 1) := by decide +kernel
theorem d_Pg_beginSet_34 : decode b_Pg_beginSet 34 = .ok (.iastore, 1) := by decide +kernel
theorem d_Pg_beginSet_35 : decode b_Pg_beginSet 35 = .ok (.aload_n 0, 1) := by decide +kernel
theorem d_Pg_beginSet_36 : decode b_Pg_beginSet 36 = .ok (.dup, 1) := by decide +kernel
theorem d_Pg_beginSet_37 : decode b_Pg_beginSet 37 = .ok (.getfield 37, 3) := by decide +kernel
theorem d_Pg_beginSet_40 : decode b_Pg_beginSet 40 = .ok (.iconst 2, 1) := by decide +kernel
theorem d_Pg_beginSet_41 : decode b_Pg_beginSet 41 = .ok (.iadd, 1) := by decide +kernel
theorem d_Pg_beginSet_42 : decode b_Pg_beginSet 42 = .ok (.putfield 37, 3) := by decide +kernel
theorem d_Pg_beginSet_45 : decode b_Pg_beginSet 45 = .ok (.iload_n 1, 1) := by decide +kernel
theorem d_Pg_beginSet_46 : decode b_Pg_beginSet 46 = .ok (.ireturn, 1) := by decide +kernel
theorem d_Pg_addClass_0 : decode b_Pg_addClass 0 = .ok (.iload_n 1, 1) := by decide +kernel
theorem d_Pg_addClass_1 : decode b_Pg_addClass 1 = .ok (.ifCond .lt 26, 3) := by decide +kernel
theorem d_Pg_addClass_4 : decode b_Pg_addClass 4 = .ok (.iload_n 1, 1) := by decide +kernel
theorem d_Pg_addClass_5 : decode b_Pg_addClass 5 = .ok (.iconst 1, 1) := by decide +kernel
theorem d_Pg_addClass_6 : decode b_Pg_addClass 6 = .ok (.iadd, 1) := by decide +kernel
theorem d_Pg_addClass_7 : decode b_Pg_addClass 7 = .ok (.aload_n 0, 1) := by decide +kernel
theorem d_Pg_addClass_8 : decode b_Pg_addClass 8 = .ok (.getfield 18, 3) := by decide +kernel
theorem d_Pg_addClass_11 : decode b_Pg_addClass 11 = .ok (.arraylength, 1) := by decide +kernel
theorem d_Pg_addClass_12 : decode b_Pg_addClass 12 = .ok (.if_icmp .ge 15, 3) := by decide +kernel
theorem d_Pg_addClass_15 : decode b_Pg_addClass 15 = .ok (.aload_n 0, 1) := by decide +kernel
theorem d_Pg_addClass_16 : decode b_Pg_addClass 16 = .ok (.getfield 18, 3) := by decide +kernel
theorem d_Pg_addClass_19 : decode b_Pg_addClass 19 = .ok (.iload_n 1, 1) := by decide +kernel
theorem d_Pg_addClass_20 : decode b_Pg_addClass 20 = .ok (.iconst 1, 1) := by decide +kernel
theorem d_Pg_addClass_21 : decode b_Pg_addClass 21 = .ok (.iadd, 1) := by decide +kernel
theorem d_Pg_addClass_22 : decode b_Pg_addClass 22 = .ok (.dup2, 1) := by decide +kernel
theorem d_Pg_addClass_23 : decode b_Pg_addClass 23 = .ok (.iaload, 1) := by decide +kernel
theorem d_Pg_addClass_24 : decode b_Pg_addClass 24 = .ok (.iload_n 2, 1) := by decide +kernel
theorem d_Pg_addClass_25 : decode b_Pg_addClass 25 = .ok (.ior, 1) := by decide +kernel
theorem d_Pg_addClass_26 : decode b_Pg_addClass 26 = .ok (.iastore, 1) := by decide +kernel
theorem d_Pg_addClass_27 : decode b_Pg_addClass 27 = .ok (.return_, 1) := by decide +kernel
theorem d_Pg_addRange_0 : decode b_Pg_addRange 0 = .ok (.iload_n 1, 1) := by decide +kernel
theorem d_Pg_addRange_1 : decode b_Pg_addRange 1 = .ok (.ifCond .lt 68, 3) := by decide +kernel
theorem d_Pg_addRange_4 : decode b_Pg_addRange 4 = .ok (.iload_n 1, 1) := by decide +kernel
theorem d_Pg_addRange_5 : decode b_Pg_addRange 5 = .ok (.aload_n 0, 1) := by decide +kernel
theorem d_Pg_addRange_6 : decode b_Pg_addRange 6 = .ok (.getfield 18, 3) := by decide +kernel
theorem d_Pg_addRange_9 : decode b_Pg_addRange 9 = .ok (.arraylength, 1) := by decide +kernel
theorem d_Pg_addRange_10 : decode b_Pg_addRange 10 = .ok (.if_icmp .ge 59, 3) := by decide +kernel
theorem d_Pg_addRange_13 : decode b_Pg_addRange 13 = .ok (.aload_n 0, 1) := by decide +kernel
theorem d_Pg_addRange_14 : decode b_Pg_addRange 14 = .ok (.getfield 37, 3) := by decide +kernel
theorem d_Pg_addRange_17 : decode b_Pg_addRange 17 = .ok (.iconst 2, 1) := by decide +kernel
theorem d_Pg_addRange_18 : decode b_Pg_addRange 18 = .ok (.iadd, 1) := by decide +kernel
theorem d_Pg_addRange_19 : decode b_Pg_addRange 19 = .ok (.aload_n 0, 1) := by decide +kernel
theorem d_Pg_addRange_20 : decode b_Pg_addRange 20 = .ok (.getfield 18, 3) := by decide +kernel
theorem d_Pg_addRange_23 : decode b_Pg_addRange 23 = .ok (.arraylength, 1) := by decide +kernel
theorem d_Pg_addRange_24 : decode b_Pg_addRange 24 = .ok (.if_icmp .gt 45, 3) := by decide +kernel
theorem d_Pg_addRange_27 : decode b_Pg_addRange 27 = .ok (.aload_n 0, 1) := by decide +kernel
theorem d_Pg_addRange_28 : decode b_Pg_addRange 28 = .ok (.getfield 18, 3) := by decide +kernel
theorem d_Pg_addRange_31 : decode b_Pg_addRange 31 = .ok (.iload_n 1, 1) := by decide +kernel
theorem d_Pg_addRange_32 : decode b_Pg_addRange 32 = .ok (.dup2, 1) := by decide +kernel
theorem d_Pg_addRange_33 : decode b_Pg_addRange 33 = .ok (.iaload, 1) := by decide +kernel
theorem d_Pg_addRange_34 : decode b_Pg_addRange 34 = .ok (.iconst 1, 1) := by decide +kernel
theorem d_Pg_addRange_35 : decode b_Pg_addRange 35 = .ok (.iadd, 1) := by decide +kernel
theorem d_Pg_addRange_36 : decode b_Pg_addRange 36 = .ok (.iastore, 1) := by decide +kernel
theorem d_Pg_addRange_37 : decode b_Pg_addRange 37 = .ok (.aload_n 0, 1) := by decide +kernel
theorem d_Pg_addRange_38 : decode b_Pg_addRange 38 = .ok (.getfield 18, 3) := by decide +kernel
theorem d_Pg_addRange_41 : decode b_Pg_addRange 41 = .ok (.aload_n 0, 1) := by decide +kernel
theorem d_Pg_addRange_42 : decode b_Pg_addRange 42 = .ok (.getfield 37, 3) := by decide +kernel
theorem d_Pg_addRange_45 : decode b_Pg_addRange 45 = .ok (.iload_n 2, 1) := by decide +kernel
theorem d_Pg_addRange_46 : decode b_Pg_addRange 46 = .ok (.iastore, 1) := by decide +kernel
theorem d_Pg_addRange_47 : decode b_Pg_addRange 47 = .ok (.aload_n 0, 1) := by decide +kernel
theorem d_Pg_addRange_48 : decode b_Pg_addRange 48 = .ok (.getfield 18, 3) := by decide +kernel
theorem d_Pg_addRange_51 : decode b_Pg_addRange 51 = .ok (.aload_n 0, 1) := by decide +kernel
theorem d_Pg_addRange_52 : decode b_Pg_addRange 52 = .ok (.getfield 37, 3) := by decide +kernel
theorem d_Pg_addRange_55 : decode b_Pg_addRange 55 = .ok (.iconst 1, 1) := by decide +kernel
theorem d_Pg_addRange_56 : decode b_Pg_addRange 56 = .ok (.iadd, 1) := by decide +kernel
theorem d_Pg_addRange_57 : decode b_Pg_addRange 57 = .ok (.iload_n 3, 1) := by decide +kernel
theorem d_Pg_addRange_58 : decode b_Pg_addRange 58 = .ok (.iastore, 1) := by decide +kernel
theorem d_Pg_addRange_59 : decode b_Pg_addRange 59 = .ok (.aload_n 0, 1) := by decide +kernel
theorem d_Pg_addRange_60 : decode b_Pg_addRange 60 = .ok (.dup, 1) := by decide +kernel
theorem d_Pg_addRange_61 : decode b_Pg_addRange 61 = .ok (.getfield 37, 3) := by decide +kernel
theorem d_Pg_addRange_64 : decode b_Pg_addRange 64 = .ok (.iconst 2, 1) := by decide +kernel
theorem d_Pg_addRange_65 : decode b_Pg_addRange 65 = .ok (.iadd, 1) := by decide +kernel
theorem d_Pg_addRange_66 : decode b_Pg_addRange 66 = .ok (.putfield 37, 3) := by decide +kernel
theorem d_Pg_addRange_69 : decode b_Pg_addRange 69 = .ok (.return_, 1) := by decide +kernel
theorem d_Pt_readSet_0 : decode b_Pt_readSet 0 = .ok (.aload_n 0, 1) := by decide +kernel
theorem d_Pt_readSet_1 : decode b_Pt_readSet 1 = .ok (.getfield 27, 3) := by decide +kernel
theorem d_Pt_readSet_4 : decode b_Pt_readSet 4 = .ok (.invokevirtual 166, 3) := by decide +kernel
theorem d_Pt_readSet_7 : decode b_Pt_readSet 7 = .ok (.istore_n 1, 1) := by decide +kernel
theorem d_Pt_readSet_8 : decode b_Pt_readSet 8 = .ok (.aload_n 0, 1) := by decide +kernel
theorem d_Pt_readSet_9 : decode b_Pt_readSet 9 = .ok (.iconst 0, 1) := by decide +kernel
theorem d_Pt_readSet_10 : decode b_Pt_readSet 10 = .ok (.invokevirtual 107, 3) := by decide +kernel
theorem d_Pt_readSet_13 : decode b_Pt_readSet 13 = .ok (.bipush 94, 2) := by decide +kernel
theorem d_Pt_readSet_15 : decode b_Pt_readSet 15 = .ok (.if_icmp .ne 23, 3) := by decide +kernel
theorem d_Pt_readSet_18 : decode b_Pt_readSet 18 = .ok (.aload_n 0, 1) := by decide +kernel
theorem d_Pt_readSet_19 : decode b_Pt_readSet 19 = .ok (.getfield 27, 3) := by decide +kernel
theorem d_Pt_readSet_22 : decode b_Pt_readSet 22 = .ok (.iload_n 1, 1) := by decide +kernel
theorem d_Pt_readSet_23 : decode b_Pt_readSet 23 = .ok (.bipush 64, 2) := by decide +kernel
theorem d_Pt_readSet_25 : decode b_Pt_readSet 25 = .ok (.invokevirtual 169, 3) := by decide +kernel
theorem d_Pt_readSet_28 : decode b_Pt_readSet 28 = .ok (.aload_n 0, 1) := by decide +kernel
theorem d_Pt_readSet_29 : decode b_Pt_readSet 29 = .ok (.dup, 1) := by decide +kernel
theorem d_Pt_readSet_30 : decode b_Pt_readSet 30 = .ok (.getfield 53, 3) := by decide +kernel
theorem d_Pt_readSet_33 : decode b_Pt_readSet 33 = .ok (.iconst 1, 1) := by decide +kernel
theorem d_Pt_readSet_34 : decode b_Pt_readSet 34 = .ok (.iadd, 1) := by decide +kernel
theorem d_Pt_readSet_35 : decode b_Pt_readSet 35 = .ok (.putfield 53, 3) := by decide +kernel
theorem d_Pt_readSet_38 : decode b_Pt_readSet 38 = .ok (.iconst 0, 1) := by decide +kernel
theorem d_Pt_readSet_39 : decode b_Pt_readSet 39 = .ok (.istore_n 2, 1) := by decide +kernel
theorem d_Pt_readSet_40 : decode b_Pt_readSet 40 = .ok (.iload_n 2, 1) := by decide +kernel
theorem d_Pt_readSet_41 : decode b_Pt_readSet 41 = .ok (.aload_n 0, 1) := by decide +kernel
theorem d_Pt_readSet_42 : decode b_Pt_readSet 42 = .ok (.getfield 50, 3) := by decide +kernel
theorem d_Pt_readSet_45 : decode b_Pt_readSet 45 = .ok (.if_icmp .ge 152, 3) := by decide +kernel
theorem d_Pt_readSet_48 : decode b_Pt_readSet 48 = .ok (.aload_n 0, 1) := by decide +kernel
theorem d_Pt_readSet_49 : decode b_Pt_readSet 49 = .ok (.iconst 0, 1) := by decide +kernel
theorem d_Pt_readSet_50 : decode b_Pt_readSet 50 = .ok (.invokevirtual 107, 3) := by decide +kernel
theorem d_Pt_readSet_53 : decode b_Pt_readSet 53 = .ok (.istore_n 3, 1) := by decide +kernel
theorem d_Pt_readSet_54 : decode b_Pt_readSet 54 = .ok (.aload_n 0, 1) := by decide +kernel
theorem d_Pt_readSet_55 : decode b_Pt_readSet 55 = .ok (.dup, 1) := by decide +kernel
theorem d_Pt_readSet_56 : decode b_Pt_readSet 56 = .ok (.getfield 53, 3) := by decide +kernel
theorem d_Pt_readSet_59 : decode b_Pt_readSet 59 = .ok (.iconst 1, 1) := by decide +kernel
theorem d_Pt_readSet_60 : decode b_Pt_readSet 60 = .ok (.iadd, 1) := by decide +kernel
theorem d_Pt_readSet_61 : decode b_Pt_readSet 61 = .ok (.putfield 53, 3) := by decide +kernel
theorem d_Pt_readSet_64 : decode b_Pt_readSet 64 = .ok (.iload_n 3, 1) := by decide +kernel
theorem d_Pt_readSet_65 : decode b_Pt_readSet 65 = .ok (.bipush (-93), 2) := by decide +kernel
theorem d_Pt_readSet_67 : decode b_Pt_readSet 67 = .ok (.if_icmp .ne 5, 3) := by decide +kernel
theorem d_Pt_readSet_70 : decode b_Pt_readSet 70 = .ok (.iload_n 1, 1) := by decide +kernel
theorem d_Pt_readSet_71 : decode b_Pt_readSet 71 = .ok (.ireturn, 1) := by decide +kernel
theorem d_Pt_readSet_72 : decode b_Pt_readSet 72 = .ok (.iload_n 3, 1) := by decide +kernel
theorem d_Pt_readSet_73 : decode b_Pt_readSet 73 = .ok (.istore 4, 2) := by decide +kernel
theorem d_Pt_readSet_75 : decode b_Pt_readSet 75 = .ok (.aload_n 0, 1) := by decide +kernel
theorem d_Pt_readSet_76 : decode b_Pt_readSet 76 = .ok (.iconst 0, 1) := by decide +kernel
theorem d_Pt_readSet_77 : decode b_Pt_readSet 77 = .ok (.invokevirtual 107, 3) := by decide +kernel
theorem d_Pt_readSet_80 : decode b_Pt_readSet 80 = .ok (.bipush 45, 2) := by decide +kernel
theorem d_Pt_readSet_82 : decode b_Pt_readSet 82 = .ok (.if_icmp .ne 47, 3) := by decide +kernel
theorem d_Pt_readSet_85 : decode b_Pt_readSet 85 = .ok (.aload_n 0, 1) := by decide +kernel
theorem d_Pt_readSet_86 : decode b_Pt_readSet 86 = .ok (.iconst 1, 1) := by decide +kernel
theorem d_Pt_readSet_87 : decode b_Pt_readSet 87 = .ok (.invokevirtual 107, 3) := by decide +kernel
theorem d_Pt_readSet_90 : decode b_Pt_readSet 90 = .ok (.bipush (-93), 2) := by decide +kernel
theorem d_Pt_readSet_92 : decode b_Pt_readSet 92 = .ok (.if_icmp .eq 37, 3) := by decide +kernel
theorem d_Pt_readSet_95 : decode b_Pt_readSet 95 = .ok (.aload_n 0, 1) := by decide +kernel
theorem d_Pt_readSet_96 : decode b_Pt_readSet 96 = .ok (.iconst 1, 1) := by decide +kernel
theorem d_Pt_readSet_97 : decode b_Pt_readSet 97 = .ok (.invokevirtual 107, 3) := by decide +kernel
theorem d_Pt_readSet_100 : decode b_Pt_readSet 100 = .ok (.istore 4, 2) := by decide +kernel
theorem d_Pt_readSet_102 : decode b_Pt_readSet 102 = .ok (.aload_n 0, 1) := by decide +kernel
theorem d_Pt_readSet_103 : decode b_Pt_readSet 103 = .ok (.dup, 1) := by decide +kernel
theorem d_Pt_readSet_104 : decode b_Pt_readSet 104 = .ok (.getfield 53, 3) := by decide +kernel
theorem d_Pt_readSet_107 : decode b_Pt_readSet 107 = .ok (.iconst 2, 1) := by decide +kernel
theorem d_Pt_readSet_108 : decode b_Pt_readSet 108 = .ok (.iadd, 1) := by decide +kernel
theorem d_Pt_readSet_109 : decode b_Pt_readSet 109 = .ok (.putfield 53, 3) := by decide +kernel
theorem d_Pt_readSet_112 : decode b_Pt_readSet 112 = .ok (.iload_n 3, 1) := by decide +kernel
theorem d_Pt_readSet_113 : decode b_Pt_readSet 113 = .ok (.ldc 87, 2) := by decide +kernel
theorem d_Pt_readSet_115 : decode b_Pt_readSet 115 = .ok (.iand, 1) := by decide +kernel
theorem d_Pt_readSet_116 : decode b_Pt_readSet 116 = .ok (.ifCond .ne 11, 3) := by decide +kernel
theorem d_Pt_readSet_119 : decode b_Pt_readSet 119 = .ok (.iload 4, 2) := by decide +kernel
theorem d_Pt_readSet_121 : decode b_Pt_readSet 121 = .ok (.ldc 87, 2) := by decide +kernel
theorem d_Pt_readSet_123 : decode b_Pt_readSet 123 = .ok (.iand, 1) := by decide +kernel
theorem d_Pt_readSet_124 : decode b_Pt_readSet 124 = .ok (.ifCond .eq 5, 3) := by decide +kernel
theorem d_Pt_readSet_127 : decode b_Pt_readSet 127 = .ok (.iconst (-1), 1) := by decide +kernel
theorem d_Pt_readSet_128 : decode b_Pt_readSet 128 = .ok (.ireturn, 1) := by decide +kernel
theorem d_Pt_readSet_129 : decode b_Pt_readSet 129 = .ok (.iload_n 3, 1) := by decide +kernel
theorem d_Pt_readSet_130 : decode b_Pt_readSet 130 = .ok (.ifCond .lt 20, 3) := by decide +kernel
theorem d_Pt_readSet_133 : decode b_Pt_readSet 133 = .ok (.iload 4, 2) := by decide +kernel
theorem d_Pt_readSet_135 : decode b_Pt_readSet 135 = .ok (.ifCond .lt 15, 3) := by decide +kernel
theorem d_Pt_readSet_138 : decode b_Pt_readSet 138 = .ok (.iload_n 3, 1) := by decide +kernel
theorem d_Pt_readSet_139 : decode b_Pt_readSet 139 = .ok (.ldc 165, 2) := by decide +kernel
theorem d_Pt_readSet_141 : decode b_Pt_readSet 141 = .ok (.iand, 1) := by decide +kernel
theorem d_Pt_readSet_142 : decode b_Pt_readSet 142 = .ok (.iload 4, 2) := by decide +kernel
theorem d_Pt_readSet_144 : decode b_Pt_readSet 144 = .ok (.ldc 165, 2) := by decide +kernel
theorem d_Pt_readSet_146 : decode b_Pt_readSet 146 = .ok (.iand, 1) := by decide +kernel
theorem d_Pt_readSet_147 : decode b_Pt_readSet 147 = .ok (.if_icmp .le 5, 3) := by decide +kernel
theorem d_Pt_readSet_150 : decode b_Pt_readSet 150 = .ok (.iconst (-1), 1) := by decide +kernel
theorem d_Pt_readSet_151 : decode b_Pt_readSet 151 = .ok (.ireturn, 1) := by decide +kernel
theorem d_Pt_readSet_152 : decode b_Pt_readSet 152 = .ok (.iload_n 3, 1) := by decide +kernel
theorem d_Pt_readSet_153 : decode b_Pt_readSet 153 = .ok (.ldc 87, 2) := by decide +kernel
theorem d_Pt_readSet_155 : decode b_Pt_readSet 155 = .ok (.iand, 1) := by decide +kernel
theorem d_Pt_readSet_156 : decode b_Pt_readSet 156 = .ok (.ifCond .eq 18, 3) := by decide +kernel
theorem d_Pt_readSet_159 : decode b_Pt_readSet 159 = .ok (.aload_n 0, 1) := by decide +kernel
theorem d_Pt_readSet_160 : decode b_Pt_readSet 160 = .ok (.getfield 27, 3) := by decide +kernel
theorem d_Pt_readSet_163 : decode b_Pt_readSet 163 = .ok (.iload_n 1, 1) := by decide +kernel
theorem d_Pt_readSet_164 : decode b_Pt_readSet 164 = .ok (.iload_n 3, 1) := by decide +kernel
theorem d_Pt_readSet_165 : decode b_Pt_readSet 165 = .ok (.ldc 164, 2) := by decide +kernel
theorem d_Pt_readSet_167 : decode b_Pt_readSet 167 = .ok (.iand, 1) := by decide +kernel
theorem d_Pt_readSet_168 : decode b_Pt_readSet 168 = .ok (.invokevirtual 169, 3) := by decide +kernel
theorem d_Pt_readSet_171 : decode b_Pt_readSet 171 = .ok (.goto 20, 3) := by decide +kernel
theorem d_Pt_readSet_174 : decode b_Pt_readSet 174 = .ok (.aload_n 0, 1) := by decide +kernel
theorem d_Pt_readSet_175 : decode b_Pt_readSet 175 = .ok (.getfield 27, 3) := by decide +kernel
theorem d_Pt_readSet_178 : decode b_Pt_readSet 178 = .ok (.iload_n 1, 1) := by decide +kernel
theorem d_Pt_readSet_179 : decode b_Pt_readSet 179 = .ok (.iload_n 3, 1) := by decide +kernel
theorem d_Pt_readSet_180 : decode b_Pt_readSet 180 = .ok (.ldc 165, 2) := by decide +kernel
theorem d_Pt_readSet_182 : decode b_Pt_readSet 182 = .ok (.iand, 1) := by decide +kernel
theorem d_Pt_readSet_183 : decode b_Pt_readSet 183 = .ok (.iload 4, 2) := by decide +kernel
theorem d_Pt_readSet_185 : decode b_Pt_readSet 185 = .ok (.ldc 165, 2) := by decide +kernel
theorem d_Pt_readSet_187 : decode b_Pt_readSet 187 = .ok (.iand, 1) := by decide +kernel
theorem d_Pt_readSet_188 : decode b_Pt_readSet 188 = .ok (.invokevirtual 172, 3) := by decide +kernel
theorem d_Pt_readSet_191 : decode b_Pt_readSet 191 = .ok (.iinc 2 1, 3) := by decide +kernel
theorem d_Pt_readSet_194 : decode b_Pt_readSet 194 = .ok (.goto (-154), 3) := by decide +kernel
theorem d_Pt_readSet_197 : decode b_Pt_readSet 197 = .ok (.iconst (-1), 1) := by decide +kernel
theorem d_Pt_readSet_198 : decode b_Pt_readSet 198 = .ok (.ireturn, 1) := by decide +kernel
theorem d_Pt_single_0 : decode b_Pt_single 0 = .ok (.aload_n 0, 1) := by decide +kernel
theorem d_Pt_single_1 : decode b_Pt_single 1 = .ok (.dup, 1) := by decide +kernel
theorem d_Pt_single_2 : decode b_Pt_single 2 = .ok (.getfield 98, 3) := by decide +kernel
theorem d_Pt_single_5 : decode b_Pt_single 5 = .ok (.iconst 1, 1) := by decide +kernel
theorem d_Pt_single_6 : decode b_Pt_single 6 = .ok (.iadd, 1) := by decide +kernel
theorem d_Pt_single_7 : decode b_Pt_single 7 = .ok (.putfield 98, 3) := by decide +kernel
theorem d_Pt_single_10 : decode b_Pt_single 10 = .ok (.iload_n 1, 1) := by decide +kernel
theorem d_Pt_single_11 : decode b_Pt_single 11 = .ok (.lookupswitch 94 #[((-94), 41), ((-91), 74), ((-46), 63), ((-36), 52)], 41) := by decide +kernel
theorem d_Pt_single_52 : decode b_Pt_single 52 = .ok (.aload_n 0, 1) := by decide +kernel
theorem d_Pt_single_53 : decode b_Pt_single 53 = .ok (.getfield 27, 3) := by decide +kernel
theorem d_Pt_single_56 : decode b_Pt_single 56 = .ok (.iconst 4, 1) := by decide +kernel
theorem d_Pt_single_57 : decode b_Pt_single 57 = .ok (.iconst 0, 1) := by decide +kernel
theorem d_Pt_single_58 : decode b_Pt_single 58 = .ok (.invokevirtual 151, 3) := by decide +kernel
theorem d_Pt_single_61 : decode b_Pt_single 61 = .ok (.iconst 1, 1) := by decide +kernel
theorem d_Pt_single_62 : decode b_Pt_single 62 = .ok (.ireturn, 1) := by decide +kernel
theorem d_Pt_single_63 : decode b_Pt_single 63 = .ok (.aload_n 0, 1) := by decide +kernel
theorem d_Pt_single_64 : decode b_Pt_single 64 = .ok (.getfield 27, 3) := by decide +kernel
theorem d_Pt_single_67 : decode b_Pt_single 67 = .ok (.iconst 5, 1) := by decide +kernel
theorem d_Pt_single_68 : decode b_Pt_single 68 = .ok (.iconst 0, 1) := by decide +kernel
theorem d_Pt_single_69 : decode b_Pt_single 69 = .ok (.invokevirtual 151, 3) := by decide +kernel
theorem d_Pt_single_72 : decode b_Pt_single 72 = .ok (.iconst 1, 1) := by decide +kernel
theorem d_Pt_single_73 : decode b_Pt_single 73 = .ok (.ireturn, 1) := by decide +kernel
theorem d_Pt_single_74 : decode b_Pt_single 74 = .ok (.aload_n 0, 1) := by decide +kernel
theorem d_Pt_single_75 : decode b_Pt_single 75 = .ok (.getfield 27, 3) := by decide +kernel
theorem d_Pt_single_78 : decode b_Pt_single 78 = .ok (.iconst 1, 1) := by decide +kernel
theorem d_Pt_single_79 : decode b_Pt_single 79 = .ok (.iconst 0, 1) := by decide +kernel
theorem d_Pt_single_80 : decode b_Pt_single 80 = .ok (.invokevirtual 151, 3) := by decide +kernel
theorem d_Pt_single_83 : decode b_Pt_single 83 = .ok (.iconst 1, 1) := by decide +kernel
theorem d_Pt_single_84 : decode b_Pt_single 84 = .ok (.ireturn, 1) := by decide +kernel
theorem d_Pt_single_85 : decode b_Pt_single 85 = .ok (.aload_n 0, 1) := by decide +kernel
theorem d_Pt_single_86 : decode b_Pt_single 86 = .ok (.getfield 27, 3) := by decide +kernel
theorem d_Pt_single_89 : decode b_Pt_single 89 = .ok (.iconst 3, 1) := by decide +kernel
theorem d_Pt_single_90 : decode b_Pt_single 90 = .ok (.iload_n 2, 1) := by decide +kernel
theorem d_Pt_single_91 : decode b_Pt_single 91 = .ok (.invokevirtual 151, 3) := by decide +kernel
theorem d_Pt_single_94 : decode b_Pt_single 94 = .ok (.iload_n 2, 1) := by decide +kernel
theorem d_Pt_single_95 : decode b_Pt_single 95 = .ok (.iconst (-1), 1) := by decide +kernel
theorem d_Pt_single_96 : decode b_Pt_single 96 = .ok (.if_icmp .eq 7, 3) := by decide +kernel
theorem d_Pt_single_99 : decode b_Pt_single 99 = .ok (.iconst 1, 1) := by decide +kernel
theorem d_Pt_single_100 : decode b_Pt_single 100 = .ok (.goto 4, 3) := by decide +kernel
theorem d_Pt_single_103 : decode b_Pt_single 103 = .ok (.iconst 0, 1) := by decide +kernel
theorem d_Pt_single_104 : decode b_Pt_single 104 = .ok (.ireturn, 1) := by decide +kernel
theorem d_Pt_single_105 : decode b_Pt_single 105 = .ok (.iload_n 1, 1) := by decide +kernel
theorem d_Pt_single_106 : decode b_Pt_single 106 = .ok (.ldc 87, 2) := by decide +kernel
theorem d_Pt_single_108 : decode b_Pt_single 108 = .ok (.iand, 1) := by decide +kernel
theorem d_Pt_single_109 : decode b_Pt_single 109 = .ok (.ifCond .eq 18, 3) := by decide +kernel
theorem d_Pt_single_112 : decode b_Pt_single 112 = .ok (.aload_n 0, 1) := by decide +kernel
theorem d_Pt_single_113 : decode b_Pt_single 113 = .ok (.getfield 27, 3) := by decide +kernel
theorem d_Pt_single_116 : decode b_Pt_single 116 = .ok (.iconst 2, 1) := by decide +kernel
theorem d_Pt_single_117 : decode b_Pt_single 117 = .ok (.iload_n 1, 1) := by decide +kernel
theorem d_Pt_single_118 : decode b_Pt_single 118 = .ok (.ldc 164, 2) := by decide +kernel
theorem d_Pt_single_120 : decode b_Pt_single 120 = .ok (.iand, 1) := by decide +kernel
theorem d_Pt_single_121 : decode b_Pt_single 121 = .ok (.invokevirtual 151, 3) := by decide +kernel
theorem d_Pt_single_124 : decode b_Pt_single 124 = .ok (.goto 15, 3) := by decide +kernel
theorem d_Pt_single_127 : decode b_Pt_single 127 = .ok (.aload_n 0, 1) := by decide +kernel
theorem d_Pt_single_128 : decode b_Pt_single 128 = .ok (.getfield 27, 3) := by decide +kernel
theorem d_Pt_single_131 : decode b_Pt_single 131 = .ok (.iconst 0, 1) := by decide +kernel
theorem d_Pt_single_132 : decode b_Pt_single 132 = .ok (.iload_n 1, 1) := by decide +kernel
theorem d_Pt_single_133 : decode b_Pt_single 133 = .ok (.ldc 165, 2) := by decide +kernel
theorem d_Pt_single_135 : decode b_Pt_single 135 = .ok (.iand, 1) := by decide +kernel
theorem d_Pt_single_136 : decode b_Pt_single 136 = .ok (.invokevirtual 151, 3) := by decide +kernel
theorem d_Pt_single_139 : decode b_Pt_single 139 = .ok (.iload_n 1, 1) := by decide +kernel
theorem d_Pt_single_140 : decode b_Pt_single 140 = .ok (.ifCond .lt 7, 3) := by decide +kernel
theorem d_Pt_single_143 : decode b_Pt_single 143 = .ok (.iconst 1, 1) := by decide +kernel
theorem d_Pt_single_144 : decode b_Pt_single 144 = .ok (.goto 4, 3) := by decide +kernel
theorem d_Pt_single_147 : decode b_Pt_single 147 = .ok (.iconst 0, 1) := by decide +kernel
theorem d_Pt_single_148 : decode b_Pt_single 148 = .ok (.ireturn, 1) := by decide +kernel
theorem d_Pt_isQuantifier_0 : decode b_Pt_isQuantifier 0 = .ok (.iload_n 0, 1) := by decide +kernel
theorem d_Pt_isQuantifier_1 : decode b_Pt_isQuantifier 1 = .ok (.bipush (-42), 2) := by decide +kernel
theorem d_Pt_isQuantifier_3 : decode b_Pt_isQuantifier 3 = .ok (.if_icmp .eq 21, 3) := by decide +kernel
theorem d_Pt_isQuantifier_6 : decode b_Pt_isQuantifier 6 = .ok (.iload_n 0, 1) := by decide +kernel
theorem d_Pt_isQuantifier_7 : decode b_Pt_isQuantifier 7 = .ok (.bipush (-43), 2) := by decide +kernel
theorem d_Pt_isQuantifier_9 : decode b_Pt_isQuantifier 9 = .ok (.if_icmp .eq 15, 3) := by decide +kernel
theorem d_Pt_isQuantifier_12 : decode b_Pt_isQuantifier 12 = .ok (.iload_n 0, 1) := by decide +kernel
theorem d_Pt_isQuantifier_13 : decode b_Pt_isQuantifier 13 = .ok (.bipush (-63), 2) := by decide +kernel
theorem d_Pt_isQuantifier_15 : decode b_Pt_isQuantifier 15 = .ok (.if_icmp .eq 9, 3) := by decide +kernel
theorem d_Pt_isQuantifier_18 : decode b_Pt_isQuantifier 18 = .ok (.iload_n 0, 1) := by decide +kernel
theorem d_Pt_isQuantifier_19 : decode b_Pt_isQuantifier 19 = .ok (.bipush (-123), 2) := by decide +kernel
theorem d_Pt_isQuantifier_21 : decode b_Pt_isQuantifier 21 = .ok (.if_icmp .ne 7, 3) := by decide +kernel
theorem d_Pt_isQuantifier_24 : decode b_Pt_isQuantifier 24 = .ok (.iconst 1, 1) := by decide +kernel
theorem d_Pt_isQuantifier_25 : decode b_Pt_isQuantifier 25 = .ok (.goto 4, 3) := by decide +kernel
theorem d_Pt_isQuantifier_28 : decode b_Pt_isQuantifier 28 = .ok (.iconst 0, 1) := by decide +kernel
theorem d_Pt_isQuantifier_29 : decode b_Pt_isQuantifier 29 = .ok (.ireturn, 1) := by decide +kernel
theorem d_Pt_readNumber_0 : decode b_Pt_readNumber 0 = .ok (.iconst (-1), 1) := by decide +kernel
theorem d_Pt_readNumber_1 : decode b_Pt_readNumber 1 = .ok (.istore_n 1, 1) := by decide +kernel
theorem d_Pt_readNumber_2 : decode b_Pt_readNumber 2 = .ok (.iconst 0, 1) := by decide +kernel
theorem d_Pt_readNumber_3 : decode b_Pt_readNumber 3 = .ok (.istore_n 2, 1) := by decide +kernel
theorem d_Pt_readNumber_4 : decode b_Pt_readNumber 4 = .ok (.iload_n 2, 1) := by decide +kernel
theorem d_Pt_readNumber_5 : decode b_Pt_readNumber 5 = .ok (.iconst 3, 1) := by decide +kernel
theorem d_Pt_readNumber_6 : decode b_Pt_readNumber 6 = .ok (.if_icmp .ge 72, 3) := by decide +kernel
theorem d_Pt_readNumber_9 : decode b_Pt_readNumber 9 = .ok (.aload_n 0, 1) := by decide +kernel
theorem d_Pt_readNumber_10 : decode b_Pt_readNumber 10 = .ok (.getfield 53, 3) := by decide +kernel
theorem d_Pt_readNumber_13 : decode b_Pt_readNumber 13 = .ok (.aload_n 0, 1) := by decide +kernel
theorem d_Pt_readNumber_14 : decode b_Pt_readNumber 14 = .ok (.getfield 50, 3) := by decide +kernel
theorem d_Pt_readNumber_17 : decode b_Pt_readNumber 17 = .ok (.if_icmp .ge 15, 3) := by decide +kernel
theorem d_Pt_readNumber_20 : decode b_Pt_readNumber 20 = .ok (.aload_n 0, 1) := by decide +kernel
theorem d_Pt_readNumber_21 : decode b_Pt_readNumber 21 = .ok (.getfield 11, 3) := by decide +kernel
theorem d_Pt_readNumber_24 : decode b_Pt_readNumber 24 = .ok (.aload_n 0, 1) := by decide +kernel
theorem d_Pt_readNumber_25 : decode b_Pt_readNumber 25 = .ok (.getfield 53, 3) := by decide +kernel
theorem d_Pt_readNumber_28 : decode b_Pt_readNumber 28 = .ok (.iaload, 1) := by decide +kernel
theorem d_Pt_readNumber_29 : decode b_Pt_readNumber 29 = .ok (.goto 4, 3) := by decide +kernel
theorem d_Pt_readNumber_32 : decode b_Pt_readNumber 32 = .ok (.iconst (-1), 1) := by decide +kernel
theorem d_Pt_readNumber_33 : decode b_Pt_readNumber 33 = .ok (.istore_n 3, 1) := by decide +kernel
theorem d_Pt_readNumber_34 : decode b_Pt_readNumber 34 = .ok (.iload_n 3, 1) := by decide +kernel
theorem d_Pt_readNumber_35 : decode b_Pt_readNumber 35 = .ok (.bipush 48, 2) := by decide +kernel
theorem d_Pt_readNumber_37 : decode b_Pt_readNumber 37 = .ok (.if_icmp .lt 9, 3) := by decide +kernel
theorem d_Pt_readNumber_40 : decode b_Pt_readNumber 40 = .ok (.iload_n 3, 1) := by decide +kernel
theorem d_Pt_readNumber_41 : decode b_Pt_readNumber 41 = .ok (.bipush 57, 2) := by decide +kernel
theorem d_Pt_readNumber_43 : decode b_Pt_readNumber 43 = .ok (.if_icmp .le 5, 3) := by decide +kernel
theorem d_Pt_readNumber_46 : decode b_Pt_readNumber 46 = .ok (.iload_n 1, 1) := by decide +kernel
theorem d_Pt_readNumber_47 : decode b_Pt_readNumber 47 = .ok (.ireturn, 1) := by decide +kernel
theorem d_Pt_readNumber_48 : decode b_Pt_readNumber 48 = .ok (.iload_n 1, 1) := by decide +kernel
theorem d_Pt_readNumber_49 : decode b_Pt_readNumber 49 = .ok (.iconst 0, 1) := by decide +kernel
theorem d_Pt_readNumber_50 : decode b_Pt_readNumber 50 = .ok (.invokestatic 143, 3) := by decide +kernel
theorem d_Pt_readNumber_53 : decode b_Pt_readNumber 53 = .ok (.bipush 10, 2) := by decide +kernel
theorem d_Pt_readNumber_55 : decode b_Pt_readNumber 55 = .ok (.imul, 1) := by decide +kernel
theorem d_Pt_readNumber_56 : decode b_Pt_readNumber 56 = .ok (.iload_n 3, 1) := by decide +kernel
theorem d_Pt_readNumber_57 : decode b_Pt_readNumber 57 = .ok (.iadd, 1) := by decide +kernel
theorem d_Pt_readNumber_58 : decode b_Pt_readNumber 58 = .ok (.bipush 48, 2) := by decide +kernel
theorem d_Pt_readNumber_60 : decode b_Pt_readNumber 60 = .ok (.isub, 1) := by decide +kernel
theorem d_Pt_readNumber_61 : decode b_Pt_readNumber 61 = .ok (.istore_n 1, 1) := by decide +kernel
theorem d_Pt_readNumber_62 : decode b_Pt_readNumber 62 = .ok (.aload_n 0, 1) := by decide +kernel
theorem d_Pt_readNumber_63 : decode b_Pt_readNumber 63 = .ok (.dup, 1) := by decide +kernel
theorem d_Pt_readNumber_64 : decode b_Pt_readNumber 64 = .ok (.getfield 53, 3) := by decide +kernel
theorem d_Pt_readNumber_67 : decode b_Pt_readNumber 67 = .ok (.iconst 1, 1) := by decide +kernel
theorem d_Pt_readNumber_68 : decode b_Pt_readNumber 68 = .ok (.iadd, 1) := by decide +kernel
theorem d_Pt_readNumber_69 : decode b_Pt_readNumber 69 = .ok (.putfield 53, 3) := by decide +kernel
theorem d_Pt_readNumber_72 : decode b_Pt_readNumber 72 = .ok (.iinc 2 1, 3) := by decide +kernel
theorem d_Pt_readNumber_75 : decode b_Pt_readNumber 75 = .ok (.goto (-71), 3) := by decide +kernel
theorem d_Pt_readNumber_78 : decode b_Pt_readNumber 78 = .ok (.iload_n 1, 1) := by decide +kernel
theorem d_Pt_readNumber_79 : decode b_Pt_readNumber 79 = .ok (.ireturn, 1) := by decide +kernel
theorem d_Pt_readQuantifier_0 : decode b_Pt_readQuantifier 0 = .ok (.aload_n 0, 1) := by decide +kernel
theorem d_Pt_readQuantifier_1 : decode b_Pt_readQuantifier 1 = .ok (.iconst 0, 1) := by decide +kernel
theorem d_Pt_readQuantifier_2 : decode b_Pt_readQuantifier 2 = .ok (.invokevirtual 107, 3) := by decide +kernel
theorem d_Pt_readQuantifier_5 : decode b_Pt_readQuantifier 5 = .ok (.istore_n 1, 1) := by decide +kernel
theorem d_Pt_readQuantifier_6 : decode b_Pt_readQuantifier 6 = .ok (.aload_n 0, 1) := by decide +kernel
theorem d_Pt_readQuantifier_7 : decode b_Pt_readQuantifier 7 = .ok (.dup, 1) := by decide +kernel
theorem d_Pt_readQuantifier_8 : decode b_Pt_readQuantifier 8 = .ok (.getfield 53, 3) := by decide +kernel
theorem d_Pt_readQuantifier_11 : decode b_Pt_readQuantifier 11 = .ok (.iconst 1, 1) := by decide +kernel
theorem d_Pt_readQuantifier_12 : decode b_Pt_readQuantifier 12 = .ok (.iadd, 1) := by decide +kernel
theorem d_Pt_readQuantifier_13 : decode b_Pt_readQuantifier 13 = .ok (.putfield 53, 3) := by decide +kernel
theorem d_Pt_readQuantifier_16 : decode b_Pt_readQuantifier 16 = .ok (.aload_n 0, 1) := by decide +kernel
theorem d_Pt_readQuantifier_17 : decode b_Pt_readQuantifier 17 = .ok (.iload_n 1, 1) := by decide +kernel
theorem d_Pt_readQuantifier_18 : decode b_Pt_readQuantifier 18 = .ok (.bipush (-43), 2) := by decide +kernel
theorem d_Pt_readQuantifier_20 : decode b_Pt_readQuantifier 20 = .ok (.if_icmp .ne 7, 3) := by decide +kernel
theorem d_Pt_readQuantifier_23 : decode b_Pt_readQuantifier 23 = .ok (.iconst 1, 1) := by decide +kernel
theorem d_Pt_readQuantifier_24 : decode b_Pt_readQuantifier 24 = .ok (.goto 4, 3) := by decide +kernel
theorem d_Pt_readQuantifier_27 : decode b_Pt_readQuantifier 27 = .ok (.iconst 0, 1) := by decide +kernel
theorem d_Pt_readQuantifier_28 : decode b_Pt_readQuantifier 28 = .ok (.putfield 140, 3) := by decide +kernel
theorem d_Pt_readQuantifier_31 : decode b_Pt_readQuantifier 31 = .ok (.aload_n 0, 1) := by decide +kernel
theorem d_Pt_readQuantifier_32 : decode b_Pt_readQuantifier 32 = .ok (.iload_n 1, 1) := by decide +kernel
theorem d_Pt_readQuantifier_33 : decode b_Pt_readQuantifier 33 = .ok (.bipush (-63), 2) := by decide +kernel
theorem d_Pt_readQuantifier_35 : decode b_Pt_readQuantifier 35 = .ok (.if_icmp .ne 7, 3) := by decide +kernel
theorem d_Pt_readQuantifier_38 : decode b_Pt_readQuantifier 38 = .ok (.iconst 1, 1) := by decide +kernel
theorem d_Pt_readQuantifier_39 : decode b_Pt_readQuantifier 39 = .ok (.goto 4, 3) := by decide +kernel
theorem d_Pt_readQuantifier_42 : decode b_Pt_readQuantifier 42 = .ok (.iconst (-1), 1) := by decide +kernel
theorem d_Pt_readQuantifier_43 : decode b_Pt_readQuantifier 43 = .ok (.putfield 137, 3) := by decide +kernel
theorem d_Pt_readQuantifier_46 : decode b_Pt_readQuantifier 46 = .ok (.iconst 1, 1) := by decide +kernel
theorem d_Pt_readQuantifier_47 : decode b_Pt_readQuantifier 47 = .ok (.istore_n 2, 1) := by decide +kernel
theorem d_Pt_readQuantifier_48 : decode b_Pt_readQuantifier 48 = .ok (.iload_n 1, 1) := by decide +kernel
theorem d_Pt_readQuantifier_49 : decode b_Pt_readQuantifier 49 = .ok (.bipush (-123), 2) := by decide +kernel
theorem d_Pt_readQuantifier_51 : decode b_Pt_readQuantifier 51 = .ok (.if_icmp .ne 110, 3) := by decide +kernel
theorem d_Pt_readQuantifier_54 : decode b_Pt_readQuantifier 54 = .ok (.aload_n 0, 1) := by decide +kernel
theorem d_Pt_readQuantifier_55 : decode b_Pt_readQuantifier 55 = .ok (.aload_n 0, 1) := by decide +kernel
theorem d_Pt_readQuantifier_56 : decode b_Pt_readQuantifier 56 = .ok (.invokevirtual 175, 3) := by decide +kernel
theorem d_Pt_readQuantifier_59 : decode b_Pt_readQuantifier 59 = .ok (.putfield 140, 3) := by decide +kernel
theorem d_Pt_readQuantifier_62 : decode b_Pt_readQuantifier 62 = .ok (.aload_n 0, 1) := by decide +kernel
theorem d_Pt_readQuantifier_63 : decode b_Pt_readQuantifier 63 = .ok (.aload_n 0, 1) := by decide +kernel
theorem d_Pt_readQuantifier_64 : decode b_Pt_readQuantifier 64 = .ok (.getfield 140, 3) := by decide +kernel
theorem d_Pt_readQuantifier_67 : decode b_Pt_readQuantifier 67 = .ok (.putfield 137, 3) := by decide +kernel
theorem d_Pt_readQuantifier_70 : decode b_Pt_readQuantifier 70 = .ok (.aload_n 0, 1) := by decide +kernel
theorem d_Pt_readQuantifier_71 : decode b_Pt_readQuantifier 71 = .ok (.getfield 140, 3) := by decide +kernel
theorem d_Pt_readQuantifier_74 : decode b_Pt_readQuantifier 74 = .ok (.iconst (-1), 1) := by decide +kernel
theorem d_Pt_readQuantifier_75 : decode b_Pt_readQuantifier 75 = .ok (.if_icmp .eq 7, 3) := by decide +kernel
theorem d_Pt_readQuantifier_78 : decode b_Pt_readQuantifier 78 = .ok (.iconst 1, 1) := by decide +kernel
theorem d_Pt_readQuantifier_79 : decode b_Pt_readQuantifier 79 = .ok (.goto 4, 3) := by decide +kernel
theorem d_Pt_readQuantifier_82 : decode b_Pt_readQuantifier 82 = .ok (.iconst 0, 1) := by decide +kernel
theorem d_Pt_readQuantifier_83 : decode b_Pt_readQuantifier 83 = .ok (.istore_n 2, 1) := by decide +kernel
theorem d_Pt_readQuantifier_84 : decode b_Pt_readQuantifier 84 = .ok (.aload_n 0, 1) := by decide +kernel
theorem d_Pt_readQuantifier_85 : decode b_Pt_readQuantifier 85 = .ok (.iconst 0, 1) := by decide +kernel
theorem d_Pt_readQuantifier_86 : decode b_Pt_readQuantifier 86 = .ok (.invokevirtual 107, 3) := by decide +kernel
theorem d_Pt_readQuantifier_89 : decode b_Pt_readQuantifier 89 = .ok (.bipush 44, 2) := by decide +kernel
theorem d_Pt_readQuantifier_91 : decode b_Pt_readQuantifier 91 = .ok (.if_icmp .ne 21, 3) := by decide +kernel
theorem d_Pt_readQuantifier_94 : decode b_Pt_readQuantifier 94 = .ok (.aload_n 0, 1) := by decide +kernel
theorem d_Pt_readQuantifier_95 : decode b_Pt_readQuantifier 95 = .ok (.dup, 1) := by decide +kernel
theorem d_Pt_readQuantifier_96 : decode b_Pt_readQuantifier 96 = .ok (.getfield 53, 3) := by decide +kernel
theorem d_Pt_readQuantifier_99 : decode b_Pt_readQuantifier 99 = .ok (.iconst 1, 1) := by decide +kernel
theorem d_Pt_readQuantifier_100 : decode b_Pt_readQuantifier 100 = .ok (.iadd, 1) := by decide +kernel
theorem d_Pt_readQuantifier_101 : decode b_Pt_readQuantifier 101 = .ok (.putfield 53, 3) := by decide +kernel
theorem d_Pt_readQuantifier_104 : decode b_Pt_readQuantifier 104 = .ok (.aload_n 0, 1) := by decide +kernel
theorem d_Pt_readQuantifier_105 : decode b_Pt_readQuantifier 105 = .ok (.aload_n 0, 1) := by decide +kernel
theorem d_Pt_readQuantifier_106 : decode b_Pt_readQuantifier 106 = .ok (.invokevirtual 175, 3) := by decide +kernel
theorem d_Pt_readQuantifier_109 : decode b_Pt_readQuantifier 109 = .ok (.putfield 137, 3) := by decide +kernel
theorem d_Pt_readQuantifier_112 : decode b_Pt_readQuantifier 112 = .ok (.iload_n 2, 1) := by decide +kernel
theorem d_Pt_readQuantifier_113 : decode b_Pt_readQuantifier 113 = .ok (.ifCond .eq 36, 3) := by decide +kernel
theorem d_Pt_readQuantifier_116 : decode b_Pt_readQuantifier 116 = .ok (.aload_n 0, 1) := by decide +kernel
theorem d_Pt_readQuantifier_117 : decode b_Pt_readQuantifier 117 = .ok (.iconst 0, 1) := by decide +kernel
theorem d_Pt_readQuantifier_118 : decode b_Pt_readQuantifier 118 = .ok (.invokevirtual 107, 3) := by decide +kernel
theorem d_Pt_readQuantifier_121 : decode b_Pt_readQuantifier 121 = .ok (.bipush (-125), 2) := by decide +kernel
theorem d_Pt_readQuantifier_123 : decode b_Pt_readQuantifier 123 = .ok (.if_icmp .ne 26, 3) := by decide +kernel
theorem d_Pt_readQuantifier_126 : decode b_Pt_readQuantifier 126 = .ok (.aload_n 0, 1) := by decide +kernel
theorem d_Pt_readQuantifier_127 : decode b_Pt_readQuantifier 127 = .ok (.getfield 137, 3) := by decide +kernel
theorem d_Pt_readQuantifier_130 : decode b_Pt_readQuantifier 130 = .ok (.iconst (-1), 1) := by decide +kernel
theorem d_Pt_readQuantifier_131 : decode b_Pt_readQuantifier 131 = .ok (.if_icmp .eq 14, 3) := by decide +kernel
theorem d_Pt_readQuantifier_134 : decode b_Pt_readQuantifier 134 = .ok (.aload_n 0, 1) := by decide +kernel
theorem d_Pt_readQuantifier_135 : decode b_Pt_readQuantifier 135 = .ok (.getfield 140, 3) := by decide +kernel
theorem d_Pt_readQuantifier_138 : decode b_Pt_readQuantifier 138 = .ok (.aload_n 0, 1) := by decide +kernel
theorem d_Pt_readQuantifier_139 : decode b_Pt_readQuantifier 139 = .ok (.getfield 137, 3) := by decide +kernel
theorem d_Pt_readQuantifier_142 : decode b_Pt_readQuantifier 142 = .ok (.if_icmp .gt 7, 3) := by decide +kernel
theorem d_Pt_readQuantifier_145 : decode b_Pt_readQuantifier 145 = .ok (.iconst 1, 1) := by decide +kernel
theorem d_Pt_readQuantifier_146 : decode b_Pt_readQuantifier 146 = .ok (.goto 4, 3) := by decide +kernel
theorem d_Pt_readQuantifier_149 : decode b_Pt_readQuantifier 149 = .ok (.iconst 0, 1) := by decide +kernel
theorem d_Pt_readQuantifier_150 : decode b_Pt_readQuantifier 150 = .ok (.istore_n 2, 1) := by decide +kernel
theorem d_Pt_readQuantifier_151 : decode b_Pt_readQuantifier 151 = .ok (.aload_n 0, 1) := by decide +kernel
theorem d_Pt_readQuantifier_152 : decode b_Pt_readQuantifier 152 = .ok (.dup, 1) := by decide +kernel
theorem d_Pt_readQuantifier_153 : decode b_Pt_readQuantifier 153 = .ok (.getfield 53, 3) := by decide +kernel
theorem d_Pt_readQuantifier_156 : decode b_Pt_readQuantifier 156 = .ok (.iconst 1, 1) := by decide +kernel
theorem d_Pt_readQuantifier_157 : decode b_Pt_readQuantifier 157 = .ok (.iadd, 1) := by decide +kernel
theorem d_Pt_readQuantifier_158 : decode b_Pt_readQuantifier 158 = .ok (.putfield 53, 3) := by decide +kernel
theorem d_Pt_readQuantifier_161 : decode b_Pt_readQuantifier 161 = .ok (.aload_n 0, 1) := by decide +kernel
theorem d_Pt_readQuantifier_162 : decode b_Pt_readQuantifier 162 = .ok (.iconst 0, 1) := by decide +kernel
theorem d_Pt_readQuantifier_163 : decode b_Pt_readQuantifier 163 = .ok (.invokevirtual 107, 3) := by decide +kernel
theorem d_Pt_readQuantifier_166 : decode b_Pt_readQuantifier 166 = .ok (.bipush (-63), 2) := by decide +kernel
theorem d_Pt_readQuantifier_168 : decode b_Pt_readQuantifier 168 = .ok (.if_icmp .ne 13, 3) := by decide +kernel
theorem d_Pt_readQuantifier_171 : decode b_Pt_readQuantifier 171 = .ok (.aload_n 0, 1) := by decide +kernel
theorem d_Pt_readQuantifier_172 : decode b_Pt_readQuantifier 172 = .ok (.dup, 1) := by decide +kernel
theorem d_Pt_readQuantifier_173 : decode b_Pt_readQuantifier 173 = .ok (.getfield 53, 3) := by decide +kernel
theorem d_Pt_readQuantifier_176 : decode b_Pt_readQuantifier 176 = .ok (.iconst 1, 1) := by decide +kernel
theorem d_Pt_readQuantifier_177 : decode b_Pt_readQuantifier 177 = .ok (.iadd, 1) := by decide +kernel
theorem d_Pt_readQuantifier_178 : decode b_Pt_readQuantifier 178 = .ok (.putfield 53, 3) := by decide +kernel
theorem d_Pt_readQuantifier_181 : decode b_Pt_readQuantifier 181 = .ok (.iload_n 2, 1) := by decide +kernel
theorem d_Pt_readQuantifier_182 : decode b_Pt_readQuantifier 182 = .ok (.ifCond .eq 25, 3) := by decide +kernel
theorem d_Pt_readQuantifier_185 : decode b_Pt_readQuantifier 185 = .ok (.aload_n 0, 1) := by decide +kernel
theorem d_Pt_readQuantifier_186 : decode b_Pt_readQuantifier 186 = .ok (.getfield 140, 3) := by decide +kernel
theorem d_Pt_readQuantifier_189 : decode b_Pt_readQuantifier 189 = .ok (.bipush 50, 2) := by decide +kernel
theorem d_Pt_readQuantifier_191 : decode b_Pt_readQuantifier 191 = .ok (.if_icmp .gt 16, 3) := by decide +kernel
theorem d_Pt_readQuantifier_194 : decode b_Pt_readQuantifier 194 = .ok (.aload_n 0, 1) := by decide +kernel
theorem d_Pt_readQuantifier_195 : decode b_Pt_readQuantifier 195 = .ok (.getfield 137, 3) := by decide +kernel
theorem d_Pt_readQuantifier_198 : decode b_Pt_readQuantifier 198 = .ok (.bipush 50, 2) := by decide +kernel
theorem d_Pt_readQuantifier_200 : decode b_Pt_readQuantifier 200 = .ok (.if_icmp .gt 7, 3) := by decide +kernel
theorem d_Pt_readQuantifier_203 : decode b_Pt_readQuantifier 203 = .ok (.iconst 1, 1) := by decide +kernel
theorem d_Pt_readQuantifier_204 : decode b_Pt_readQuantifier 204 = .ok (.goto 4, 3) := by decide +kernel
theorem d_Pt_readQuantifier_207 : decode b_Pt_readQuantifier 207 = .ok (.iconst 0, 1) := by decide +kernel
theorem d_Pt_readQuantifier_208 : decode b_Pt_readQuantifier 208 = .ok (.ireturn, 1) := by decide +kernel
theorem d_Pg_copy_0 : decode b_Pg_copy 0 = .ok (.iload_n 1, 1) := by decide +kernel
theorem d_Pg_copy_1 : decode b_Pg_copy 1 = .ok (.ifCond .lt 63, 3) := by decide +kernel
theorem d_Pg_copy_4 : decode b_Pg_copy 4 = .ok (.iload_n 2, 1) := by decide +kernel
theorem d_Pg_copy_5 : decode b_Pg_copy 5 = .ok (.ifCond .lt 59, 3) := by decide +kernel
theorem d_Pg_copy_8 : decode b_Pg_copy 8 = .ok (.iload_n 1, 1) := by decide +kernel
theorem d_Pg_copy_9 : decode b_Pg_copy 9 = .ok (.iload_n 2, 1) := by decide +kernel
theorem d_Pg_copy_10 : decode b_Pg_copy 10 = .ok (.iadd, 1) := by decide +kernel
theorem d_Pg_copy_11 : decode b_Pg_copy 11 = .ok (.aload_n 0, 1) := by decide +kernel
theorem d_Pg_copy_12 : decode b_Pg_copy 12 = .ok (.getfield 33, 3) := by decide +kernel
theorem d_Pg_copy_15 : decode b_Pg_copy 15 = .ok (.if_icmp .gt 49, 3) := by decide +kernel
theorem d_Pg_copy_18 : decode b_Pg_copy 18 = .ok (.aload_n 0, 1) := by decide +kernel
theorem d_Pg_copy_19 : decode b_Pg_copy 19 = .ok (.getfield 33, 3) := by decide +kernel
theorem d_Pg_copy_22 : decode b_Pg_copy 22 = .ok (.iload_n 2, 1) := by decide +kernel
theorem d_Pg_copy_23 : decode b_Pg_copy 23 = .ok (.iadd, 1) := by decide +kernel
theorem d_Pg_copy_24 : decode b_Pg_copy 24 = .ok (.sipush 1300, 3) := by decide +kernel
theorem d_Pg_copy_27 : decode b_Pg_copy 27 = .ok (.if_icmp .gt 37, 3) := by decide +kernel
theorem d_Pg_copy_30 : decode b_Pg_copy 30 = .ok (.aload_n 0, 1) := by decide +kernel
theorem d_Pg_copy_31 : decode b_Pg_copy 31 = .ok (.getfield 9, 3) := by decide +kernel
theorem d_Pg_copy_34 : decode b_Pg_copy 34 = .ok (.iload_n 1, 1) := by decide +kernel
theorem d_Pg_copy_35 : decode b_Pg_copy 35 = .ok (.aload_n 0, 1) := by decide +kernel
theorem d_Pg_copy_36 : decode b_Pg_copy 36 = .ok (.getfield 9, 3) := by decide +kernel
theorem d_Pg_copy_39 : decode b_Pg_copy 39 = .ok (.aload_n 0, 1) := by decide +kernel
theorem d_Pg_copy_40 : decode b_Pg_copy 40 = .ok (.getfield 33, 3) := by decide +kernel
theorem d_Pg_copy_43 : decode b_Pg_copy 43 = .ok (.iload_n 2, 1) := by decide +kernel
theorem d_Pg_copy_44 : decode b_Pg_copy 44 = .ok (.invokestatic 47, 3) := by decide +kernel
theorem d_Pg_copy_47 : decode b_Pg_copy 47 = .ok (.aload_n 0, 1) := by decide +kernel
theorem d_Pg_copy_48 : decode b_Pg_copy 48 = .ok (.getfield 15, 3) := by decide +kernel
theorem d_Pg_copy_51 : decode b_Pg_copy 51 = .ok (.iload_n 1, 1) := by decide +kernel
theorem d_Pg_copy_52 : decode b_Pg_copy 52 = .ok (.aload_n 0, 1) := by decide +kernel
theorem d_Pg_copy_53 : decode b_Pg_copy 53 = .ok (.getfield 15, 3) := by decide +kernel
theorem d_Pg_copy_56 : decode b_Pg_copy 56 = .ok (.aload_n 0, 1) := by decide +kernel
theorem d_Pg_copy_57 : decode b_Pg_copy 57 = .ok (.getfield 33, 3) := by decide +kernel
theorem d_Pg_copy_60 : decode b_Pg_copy 60 = .ok (.iload_n 2, 1) := by decide +kernel
theorem d_Pg_copy_61 : decode b_Pg_copy 61 = .ok (.invokestatic 47, 3) := by decide +kernel
theorem d_Pg_copy_64 : decode b_Pg_copy 64 = .ok (.aload_n 0, 1) := by decide +kernel
theorem d_Pg_copy_65 : decode b_Pg_copy 65 = .ok (.aload_n 0, 1) := by decide +kernel
theorem d_Pg_copy_66 : decode b_Pg_copy 66 = .ok (.getfield 33, 3) := by decide +kernel
theorem d_Pg_copy_69 : decode b_Pg_copy 69 = .ok (.iload_n 2, 1) := by decide +kernel
theorem d_Pg_copy_70 : decode b_Pg_copy 70 = .ok (.iadd, 1) := by decide +kernel
theorem d_Pg_copy_71 : decode b_Pg_copy 71 = .ok (.ldc 40, 2) := by decide +kernel
theorem d_Pg_copy_73 : decode b_Pg_copy 73 = .ok (.invokestatic 41, 3) := by decide +kernel
theorem d_Pg_copy_76 : decode b_Pg_copy 76 = .ok (.putfield 33, 3) := by decide +kernel
theorem d_Pg_copy_79 : decode b_Pg_copy 79 = .ok (.return_, 1) := by decide +kernel
theorem d_Pg_repeat_0 : decode b_Pg_repeat 0 = .ok (.aload_n 0, 1) := by decide +kernel
theorem d_Pg_repeat_1 : decode b_Pg_repeat 1 = .ok (.getfield 33, 3) := by decide +kernel
theorem d_Pg_repeat_4 : decode b_Pg_repeat 4 = .ok (.iload_n 1, 1) := by decide +kernel
theorem d_Pg_repeat_5 : decode b_Pg_repeat 5 = .ok (.isub, 1) := by decide +kernel
theorem d_Pg_repeat_6 : decode b_Pg_repeat 6 = .ok (.istore 4, 2) := by decide +kernel
theorem d_Pg_repeat_8 : decode b_Pg_repeat 8 = .ok (.iload_n 1, 1) := by decide +kernel
theorem d_Pg_repeat_9 : decode b_Pg_repeat 9 = .ok (.ifCond .lt 8, 3) := by decide +kernel
theorem d_Pg_repeat_12 : decode b_Pg_repeat 12 = .ok (.iload 4, 2) := by decide +kernel
theorem d_Pg_repeat_14 : decode b_Pg_repeat 14 = .ok (.ifCond .gt 4, 3) := by decide +kernel
theorem d_Pg_repeat_17 : decode b_Pg_repeat 17 = .ok (.return_, 1) := by decide +kernel
theorem d_Pg_repeat_18 : decode b_Pg_repeat 18 = .ok (.iload_n 3, 1) := by decide +kernel
theorem d_Pg_repeat_19 : decode b_Pg_repeat 19 = .ok (.ifCond .ne 9, 3) := by decide +kernel
theorem d_Pg_repeat_22 : decode b_Pg_repeat 22 = .ok (.aload_n 0, 1) := by decide +kernel
theorem d_Pg_repeat_23 : decode b_Pg_repeat 23 = .ok (.iload_n 1, 1) := by decide +kernel
theorem d_Pg_repeat_24 : decode b_Pg_repeat 24 = .ok (.putfield 33, 3) := by decide +kernel
theorem d_Pg_repeat_27 : decode b_Pg_repeat 27 = .ok (.return_, 1) := by decide +kernel
theorem d_Pg_repeat_28 : decode b_Pg_repeat 28 = .ok (.iload_n 2, 1) := by decide +kernel
theorem d_Pg_repeat_29 : decode b_Pg_repeat 29 = .ok (.ifCond .ne 67, 3) := by decide +kernel
theorem d_Pg_repeat_32 : decode b_Pg_repeat 32 = .ok (.aload_n 0, 1) := by decide +kernel
theorem d_Pg_repeat_33 : decode b_Pg_repeat 33 = .ok (.iload_n 1, 1) := by decide +kernel
theorem d_Pg_repeat_34 : decode b_Pg_repeat 34 = .ok (.bipush 6, 2) := by decide +kernel
theorem d_Pg_repeat_36 : decode b_Pg_repeat 36 = .ok (.iload_n 3, 1) := by decide +kernel
theorem d_Pg_repeat_37 : decode b_Pg_repeat 37 = .ok (.iconst (-1), 1) := by decide +kernel
theorem d_Pg_repeat_38 : decode b_Pg_repeat 38 = .ok (.if_icmp .ne 10, 3) := by decide +kernel
theorem d_Pg_repeat_41 : decode b_Pg_repeat 41 = .ok (.iload 4, 2) := by decide +kernel
theorem d_Pg_repeat_43 : decode b_Pg_repeat 43 = .ok (.iconst 2, 1) := by decide +kernel
theorem d_Pg_repeat_44 : decode b_Pg_repeat 44 = .ok (.iadd, 1) := by decide +kernel
theorem d_Pg_repeat_45 : decode b_Pg_repeat 45 = .ok (.goto 7, 3) := by decide +kernel
theorem d_Pg_repeat_48 : decode b_Pg_repeat 48 = .ok (.iload 4, 2) := by decide +kernel
theorem d_Pg_repeat_50 : decode b_Pg_repeat 50 = .ok (.iconst 1, 1) := by decide +kernel
theorem d_Pg_repeat_51 : decode b_Pg_repeat 51 = .ok (.iadd, 1) := by decide +kernel
theorem d_Pg_repeat_52 : decode b_Pg_repeat 52 = .ok (.invokevirtual 53, 3) := by decide +kernel
theorem d_Pg_repeat_55 : decode b_Pg_repeat 55 = .ok (.iload_n 3, 1) := by decide +kernel
theorem d_Pg_repeat_56 : decode b_Pg_repeat 56 = .ok (.iconst (-1), 1) := by decide +kernel
theorem d_Pg_repeat_57 : decode b_Pg_repeat 57 = .ok (.if_icmp .ne 14, 3) := by decide +kernel
theorem d_Pg_repeat_60 : decode b_Pg_repeat 60 = .ok (.aload_n 0, 1) := by decide +kernel
theorem d_Pg_repeat_61 : decode b_Pg_repeat 61 = .ok (.bipush 7, 2) := by decide +kernel
theorem d_Pg_repeat_63 : decode b_Pg_repeat 63 = .ok (.iload 4, 2) := by decide +kernel
theorem d_Pg_repeat_65 : decode b_Pg_repeat 65 = .ok (.iconst 1, 1) := by decide +kernel
theorem d_Pg_repeat_66 : decode b_Pg_repeat 66 = .ok (.iadd, 1) := by decide +kernel
theorem d_Pg_repeat_67 : decode b_Pg_repeat 67 = .ok (.ineg, 1) := by decide +kernel
theorem d_Pg_repeat_68 : decode b_Pg_repeat 68 = .ok (.invokevirtual 57, 3) := by decide +kernel
theorem d_Pg_repeat_71 : decode b_Pg_repeat 71 = .ok (.iconst 1, 1) := by decide +kernel
theorem d_Pg_repeat_72 : decode b_Pg_repeat 72 = .ok (.istore 5, 2) := by decide +kernel
theorem d_Pg_repeat_74 : decode b_Pg_repeat 74 = .ok (.iload 5, 2) := by decide +kernel
theorem d_Pg_repeat_76 : decode b_Pg_repeat 76 = .ok (.iload_n 3, 1) := by decide +kernel
theorem d_Pg_repeat_77 : decode b_Pg_repeat 77 = .ok (.if_icmp .ge 18, 3) := by decide +kernel
theorem d_Pg_repeat_80 : decode b_Pg_repeat 80 = .ok (.aload_n 0, 1) := by decide +kernel
theorem d_Pg_repeat_81 : decode b_Pg_repeat 81 = .ok (.iload_n 1, 1) := by decide +kernel
theorem d_Pg_repeat_82 : decode b_Pg_repeat 82 = .ok (.iload 4, 2) := by decide +kernel
theorem d_Pg_repeat_84 : decode b_Pg_repeat 84 = .ok (.iconst 1, 1) := by decide +kernel
theorem d_Pg_repeat_85 : decode b_Pg_repeat 85 = .ok (.iadd, 1) := by decide +kernel
theorem d_Pg_repeat_86 : decode b_Pg_repeat 86 = .ok (.invokevirtual 61, 3) := by decide +kernel
theorem d_Pg_repeat_89 : decode b_Pg_repeat 89 = .ok (.iinc 5 1, 3) := by decide +kernel
theorem d_Pg_repeat_92 : decode b_Pg_repeat 92 = .ok (.goto (-18), 3) := by decide +kernel
theorem d_Pg_repeat_95 : decode b_Pg_repeat 95 = .ok (.return_, 1) := by decide +kernel
theorem d_Pg_repeat_96 : decode b_Pg_repeat 96 = .ok (.iconst 1, 1) := by decide +kernel
theorem d_Pg_repeat_97 : decode b_Pg_repeat 97 = .ok (.istore 5, 2) := by decide +kernel
theorem d_Pg_repeat_99 : decode b_Pg_repeat 99 = .ok (.iload 5, 2) := by decide +kernel
theorem d_Pg_repeat_101 : decode b_Pg_repeat 101 = .ok (.iload_n 2, 1) := by decide +kernel
theorem d_Pg_repeat_102 : decode b_Pg_repeat 102 = .ok (.if_icmp .ge 16, 3) := by decide +kernel
theorem d_Pg_repeat_105 : decode b_Pg_repeat 105 = .ok (.aload_n 0, 1) := by decide +kernel
theorem d_Pg_repeat_106 : decode b_Pg_repeat 106 = .ok (.iload_n 1, 1) := by decide +kernel
theorem d_Pg_repeat_107 : decode b_Pg_repeat 107 = .ok (.iload 4, 2) := by decide +kernel
theorem d_Pg_repeat_109 : decode b_Pg_repeat 109 = .ok (.invokevirtual 61, 3) := by decide +kernel
theorem d_Pg_repeat_112 : decode b_Pg_repeat 112 = .ok (.iinc 5 1, 3) := by decide +kernel
theorem d_Pg_repeat_115 : decode b_Pg_repeat 115 = .ok (.goto (-16), 3) := by decide +kernel
theorem d_Pg_repeat_118 : decode b_Pg_repeat 118 = .ok (.iload_n 3, 1) := by decide +kernel
theorem d_Pg_repeat_119 : decode b_Pg_repeat 119 = .ok (.iconst (-1), 1) := by decide +kernel
theorem d_Pg_repeat_120 : decode b_Pg_repeat 120 = .ok (.if_icmp .ne 12, 3) := by decide +kernel
theorem d_Pg_repeat_123 : decode b_Pg_repeat 123 = .ok (.aload_n 0, 1) := by decide +kernel
theorem d_Pg_repeat_124 : decode b_Pg_repeat 124 = .ok (.bipush 6, 2) := by decide +kernel
theorem d_Pg_repeat_126 : decode b_Pg_repeat 126 = .ok (.iload 4, 2) := by decide +kernel
theorem d_Pg_repeat_128 : decode b_Pg_repeat 128 = .ok (.ineg, 1) := by decide +kernel
theorem d_Pg_repeat_129 : decode b_Pg_repeat 129 = .ok (.invokevirtual 57, 3) := by decide +kernel
theorem d_Pg_repeat_132 : decode b_Pg_repeat 132 = .ok (.iload_n 2, 1) := by decide +kernel
theorem d_Pg_repeat_133 : decode b_Pg_repeat 133 = .ok (.istore 5, 2) := by decide +kernel
theorem d_Pg_repeat_135 : decode b_Pg_repeat 135 = .ok (.iload 5, 2) := by decide +kernel
theorem d_Pg_repeat_137 : decode b_Pg_repeat 137 = .ok (.iload_n 3, 1) := by decide +kernel
theorem d_Pg_repeat_138 : decode b_Pg_repeat 138 = .ok (.if_icmp .ge 26, 3) := by decide +kernel
theorem d_Pg_repeat_141 : decode b_Pg_repeat 141 = .ok (.aload_n 0, 1) := by decide +kernel
theorem d_Pg_repeat_142 : decode b_Pg_repeat 142 = .ok (.bipush 6, 2) := by decide +kernel
theorem d_Pg_repeat_144 : decode b_Pg_repeat 144 = .ok (.iload 4, 2) := by decide +kernel
theorem d_Pg_repeat_146 : decode b_Pg_repeat 146 = .ok (.iconst 1, 1) := by decide +kernel
theorem d_Pg_repeat_147 : decode b_Pg_repeat 147 = .ok (.iadd, 1) := by decide +kernel
theorem d_Pg_repeat_148 : decode b_Pg_repeat 148 = .ok (.invokevirtual 57, 3) := by decide +kernel
theorem d_Pg_repeat_151 : decode b_Pg_repeat 151 = .ok (.aload_n 0, 1) := by decide +kernel
theorem d_Pg_repeat_152 : decode b_Pg_repeat 152 = .ok (.iload_n 1, 1) := by decide +kernel
theorem d_Pg_repeat_153 : decode b_Pg_repeat 153 = .ok (.iload 4, 2) := by decide +kernel
theorem d_Pg_repeat_155 : decode b_Pg_repeat 155 = .ok (.invokevirtual 61, 3) := by decide +kernel
theorem d_Pg_repeat_158 : decode b_Pg_repeat 158 = .ok (.iinc 5 1, 3) := by decide +kernel
theorem d_Pg_repeat_161 : decode b_Pg_repeat 161 = .ok (.goto (-26), 3) := by decide +kernel
theorem d_Pg_repeat_164 : decode b_Pg_repeat 164 = .ok (.return_, 1) := by decide +kernel
theorem d_Pt_parse_0 : decode b_Pt_parse 0 = .ok (.aload_n 0, 1) := by decide +kernel
theorem d_Pt_parse_1 : decode b_Pt_parse 1 = .ok (.getfield 27, 3) := by decide +kernel
theorem d_Pt_parse_4 : decode b_Pt_parse 4 = .ok (.invokevirtual 93, 3) := by decide +kernel
theorem d_Pt_parse_7 : decode b_Pt_parse 7 = .ok (.aload_n 0, 1) := by decide +kernel
theorem d_Pt_parse_8 : decode b_Pt_parse 8 = .ok (.iconst 0, 1) := by decide +kernel
theorem d_Pt_parse_9 : decode b_Pt_parse 9 = .ok (.putfield 53, 3) := by decide +kernel
theorem d_Pt_parse_12 : decode b_Pt_parse 12 = .ok (.aload_n 0, 1) := by decide +kernel
theorem d_Pt_parse_13 : decode b_Pt_parse 13 = .ok (.iconst 0, 1) := by decide +kernel
theorem d_Pt_parse_14 : decode b_Pt_parse 14 = .ok (.putfield 98, 3) := by decide +kernel
theorem d_Pt_parse_17 : decode b_Pt_parse 17 = .ok (.aload_n 0, 1) := by decide +kernel
theorem d_Pt_parse_18 : decode b_Pt_parse 18 = .ok (.iconst 0, 1) := by decide +kernel
theorem d_Pt_parse_19 : decode b_Pt_parse 19 = .ok (.putfield 101, 3) := by decide +kernel
theorem d_Pt_parse_22 : decode b_Pt_parse 22 = .ok (.aload_n 0, 1) := by decide +kernel
theorem d_Pt_parse_23 : decode b_Pt_parse 23 = .ok (.invokevirtual 104, 3) := by decide +kernel
theorem d_Pt_parse_26 : decode b_Pt_parse 26 = .ok (.iconst 0, 1) := by decide +kernel
theorem d_Pt_parse_27 : decode b_Pt_parse 27 = .ok (.istore_n 1, 1) := by decide +kernel
theorem d_Pt_parse_28 : decode b_Pt_parse 28 = .ok (.iload_n 1, 1) := by decide +kernel
theorem d_Pt_parse_29 : decode b_Pt_parse 29 = .ok (.sipush 4000, 3) := by decide +kernel
theorem d_Pt_parse_32 : decode b_Pt_parse 32 = .ok (.if_icmp .ge 323, 3) := by decide +kernel
theorem d_Pt_parse_35 : decode b_Pt_parse 35 = .ok (.aload_n 0, 1) := by decide +kernel
theorem d_Pt_parse_36 : decode b_Pt_parse 36 = .ok (.getfield 53, 3) := by decide +kernel
theorem d_Pt_parse_39 : decode b_Pt_parse 39 = .ok (.aload_n 0, 1) := by decide +kernel
theorem d_Pt_parse_40 : decode b_Pt_parse 40 = .ok (.getfield 50, 3) := by decide +kernel
theorem d_Pt_parse_43 : decode b_Pt_parse 43 = .ok (.if_icmp .ge 312, 3) := by decide +kernel
theorem d_Pt_parse_46 : decode b_Pt_parse 46 = .ok (.aload_n 0, 1) := by decide +kernel
theorem d_Pt_parse_47 : decode b_Pt_parse 47 = .ok (.iconst 0, 1) := by decide +kernel
theorem d_Pt_parse_48 : decode b_Pt_parse 48 = .ok (.invokevirtual 107, 3) := by decide +kernel
theorem d_Pt_parse_51 : decode b_Pt_parse 51 = .ok (.istore_n 2, 1) := by decide +kernel
theorem d_Pt_parse_52 : decode b_Pt_parse 52 = .ok (.aload_n 0, 1) := by decide +kernel
theorem d_Pt_parse_53 : decode b_Pt_parse 53 = .ok (.dup, 1) := by decide +kernel
theorem d_Pt_parse_54 : decode b_Pt_parse 54 = .ok (.getfield 53, 3) := by decide +kernel
theorem d_Pt_parse_57 : decode b_Pt_parse 57 = .ok (.iconst 1, 1) := by decide +kernel
theorem d_Pt_parse_58 : decode b_Pt_parse 58 = .ok (.iadd, 1) := by decide +kernel
theorem d_Pt_parse_59 : decode b_Pt_parse 59 = .ok (.putfield 53, 3) := by decide +kernel
theorem d_Pt_parse_62 : decode b_Pt_parse 62 = .ok (.aload_n 0, 1) := by decide +kernel
theorem d_Pt_parse_63 : decode b_Pt_parse 63 = .ok (.getfield 27, 3) := by decide +kernel
theorem d_Pt_parse_66 : decode b_Pt_parse 66 = .ok (.getfield 110, 3) := by decide +kernel
theorem d_Pt_parse_69 : decode b_Pt_parse 69 = .ok (.istore_n 3, 1) := by decide +kernel
theorem d_Pt_parse_70 : decode b_Pt_parse 70 = .ok (.aload_n 0, 1) := by decide +kernel
theorem d_Pt_parse_71 : decode b_Pt_parse 71 = .ok (.getfield 98, 3) := by decide +kernel
theorem d_Pt_parse_74 : decode b_Pt_parse 74 = .ok (.istore 4, 2) := by decide +kernel
theorem d_Pt_parse_76 : decode b_Pt_parse 76 = .ok (.iload_n 2, 1) := by decide +kernel
theorem d_Pt_parse_77 : decode b_Pt_parse 77 = .ok (.bipush (-94), 2) := by decide +kernel
theorem d_Pt_parse_79 : decode b_Pt_parse 79 = .ok (.if_icmp .eq 25, 3) := by decide +kernel
theorem d_Pt_parse_82 : decode b_Pt_parse 82 = .ok (.iload_n 2, 1) := by decide +kernel
theorem d_Pt_parse_83 : decode b_Pt_parse 83 = .ok (.bipush (-36), 2) := by decide +kernel
theorem d_Pt_parse_85 : decode b_Pt_parse 85 = .ok (.if_icmp .eq 19, 3) := by decide +kernel
theorem d_Pt_parse_88 : decode b_Pt_parse 88 = .ok (.iload_n 2, 1) := by decide +kernel
theorem d_Pt_parse_89 : decode b_Pt_parse 89 = .ok (.bipush (-124), 2) := by decide +kernel
theorem d_Pt_parse_91 : decode b_Pt_parse 91 = .ok (.if_icmp .eq 13, 3) := by decide +kernel
theorem d_Pt_parse_94 : decode b_Pt_parse 94 = .ok (.iload_n 2, 1) := by decide +kernel
theorem d_Pt_parse_95 : decode b_Pt_parse 95 = .ok (.bipush (-40), 2) := by decide +kernel
theorem d_Pt_parse_97 : decode b_Pt_parse 97 = .ok (.if_icmp .eq 7, 3) := by decide +kernel
theorem d_Pt_parse_100 : decode b_Pt_parse 100 = .ok (.iconst 1, 1) := by decide +kernel
theorem d_Pt_parse_101 : decode b_Pt_parse 101 = .ok (.goto 4, 3) := by decide +kernel
theorem d_Pt_parse_104 : decode b_Pt_parse 104 = .ok (.iconst 0, 1) := by decide +kernel
theorem d_Pt_parse_105 : decode b_Pt_parse 105 = .ok (.istore 5, 2) := by decide +kernel
theorem d_Pt_parse_107 : decode b_Pt_parse 107 = .ok (.iconst 1, 1) := by decide +kernel
theorem d_Pt_parse_108 : decode b_Pt_parse 108 = .ok (.istore 6, 2) := by decide +kernel
theorem d_Pt_parse_110 : decode b_Pt_parse 110 = .ok (.iload_n 2, 1) := by decide +kernel
theorem d_Pt_parse_111 : decode b_Pt_parse 111 = .ok (.bipush (-41), 2) := by decide +kernel
theorem d_Pt_parse_113 : decode b_Pt_parse 113 = .ok (.if_icmp .ne 64, 3) := by decide +kernel
theorem d_Pt_parse_116 : decode b_Pt_parse 116 = .ok (.aload_n 0, 1) := by decide +kernel
theorem d_Pt_parse_117 : decode b_Pt_parse 117 = .ok (.getfield 101, 3) := by decide +kernel
theorem d_Pt_parse_120 : decode b_Pt_parse 120 = .ok (.ifCond .le 7, 3) := by decide +kernel
theorem d_Pt_parse_123 : decode b_Pt_parse 123 = .ok (.iconst 1, 1) := by decide +kernel
theorem d_Pt_parse_124 : decode b_Pt_parse 124 = .ok (.goto 4, 3) := by decide +kernel
theorem d_Pt_parse_127 : decode b_Pt_parse 127 = .ok (.iconst 0, 1) := by decide +kernel
theorem d_Pt_parse_128 : decode b_Pt_parse 128 = .ok (.istore 6, 2) := by decide +kernel
theorem d_Pt_parse_130 : decode b_Pt_parse 130 = .ok (.aload_n 0, 1) := by decide +kernel
theorem d_Pt_parse_131 : decode b_Pt_parse 131 = .ok (.getfield 15, 3) := by decide +kernel
theorem d_Pt_parse_134 : decode b_Pt_parse 134 = .ok (.aload_n 0, 1) := by decide +kernel
theorem d_Pt_parse_135 : decode b_Pt_parse 135 = .ok (.getfield 101, 3) := by decide +kernel
theorem d_Pt_parse_138 : decode b_Pt_parse 138 = .ok (.iaload, 1) := by decide +kernel
theorem d_Pt_parse_139 : decode b_Pt_parse 139 = .ok (.istore_n 3, 1) := by decide +kernel
theorem d_Pt_parse_140 : decode b_Pt_parse 140 = .ok (.aload_n 0, 1) := by decide +kernel
theorem d_Pt_parse_141 : decode b_Pt_parse 141 = .ok (.getfield 24, 3) := by decide +kernel
theorem d_Pt_parse_144 : decode b_Pt_parse 144 = .ok (.aload_n 0, 1) := by decide +kernel
theorem d_Pt_parse_145 : decode b_Pt_parse 145 = .ok (.getfield 101, 3) := by decide +kernel
theorem d_Pt_parse_148 : decode b_Pt_parse 148 = .ok (.iaload, 1) := by decide +kernel
theorem d_Pt_parse_149 : decode b_Pt_parse 149 = .ok (.istore 4, 2) := by decide +kernel
theorem d_Pt_parse_151 : decode b_Pt_parse 151 = .ok (.aload_n 0, 1) := by decide +kernel
theorem d_Pt_parse_152 : decode b_Pt_parse 152 = .ok (.invokevirtual 113, 3) := by decide +kernel
theorem d_Pt_parse_155 : decode b_Pt_parse 155 = .ok (.aload_n 0, 1) := by decide +kernel
theorem d_Pt_parse_156 : decode b_Pt_parse 156 = .ok (.dup, 1) := by decide +kernel
theorem d_Pt_parse_157 : decode b_Pt_parse 157 = .ok (.getfield 101, 3) := by decide +kernel
theorem d_Pt_parse_160 : decode b_Pt_parse 160 = .ok (.iload 6, 2) := by decide +kernel
theorem d_Pt_parse_162 : decode b_Pt_parse 162 = .ok (.ifCond .eq 7, 3) := by decide +kernel
theorem d_Pt_parse_165 : decode b_Pt_parse 165 = .ok (.iconst 1, 1) := by decide +kernel
theorem d_Pt_parse_166 : decode b_Pt_parse 166 = .ok (.goto 4, 3) := by decide +kernel
theorem d_Pt_parse_169 : decode b_Pt_parse 169 = .ok (.iconst 0, 1) := by decide +kernel
theorem d_Pt_parse_170 : decode b_Pt_parse 170 = .ok (.isub, 1) := by decide +kernel
theorem d_Pt_parse_171 : decode b_Pt_parse 171 = .ok (.putfield 101, 3) := by decide +kernel
theorem d_Pt_parse_174 : decode b_Pt_parse 174 = .ok (.goto 52, 3) := by decide +kernel
theorem d_Pt_parse_177 : decode b_Pt_parse 177 = .ok (.iload_n 2, 1) := by decide +kernel
theorem d_Pt_parse_178 : decode b_Pt_parse 178 = .ok (.bipush (-40), 2) := by decide +kernel
theorem d_Pt_parse_180 : decode b_Pt_parse 180 = .ok (.if_icmp .ne 12, 3) := by decide +kernel
theorem d_Pt_parse_183 : decode b_Pt_parse 183 = .ok (.aload_n 0, 1) := by decide +kernel
theorem d_Pt_parse_184 : decode b_Pt_parse 184 = .ok (.invokevirtual 116, 3) := by decide +kernel
theorem d_Pt_parse_187 : decode b_Pt_parse 187 = .ok (.istore 6, 2) := by decide +kernel
theorem d_Pt_parse_189 : decode b_Pt_parse 189 = .ok (.goto 37, 3) := by decide +kernel
theorem d_Pt_parse_192 : decode b_Pt_parse 192 = .ok (.iload_n 2, 1) := by decide +kernel
theorem d_Pt_parse_193 : decode b_Pt_parse 193 = .ok (.bipush (-124), 2) := by decide +kernel
theorem d_Pt_parse_195 : decode b_Pt_parse 195 = .ok (.if_icmp .ne 10, 3) := by decide +kernel
theorem d_Pt_parse_198 : decode b_Pt_parse 198 = .ok (.aload_n 0, 1) := by decide +kernel
theorem d_Pt_parse_199 : decode b_Pt_parse 199 = .ok (.invokevirtual 120, 3) := by decide +kernel
theorem d_Pt_parse_202 : decode b_Pt_parse 202 = .ok (.goto 24, 3) := by decide +kernel
theorem d_Pt_parse_205 : decode b_Pt_parse 205 = .ok (.aload_n 0, 1) := by decide +kernel
theorem d_Pt_parse_206 : decode b_Pt_parse 206 = .ok (.iload_n 2, 1) := by decide +kernel
theorem d_Pt_parse_207 : decode b_Pt_parse 207 = .ok (.iload_n 2, 1) := by decide +kernel
theorem d_Pt_parse_208 : decode b_Pt_parse 208 = .ok (.bipush (-91), 2) := by decide +kernel
theorem d_Pt_parse_210 : decode b_Pt_parse 210 = .ok (.if_icmp .ne 10, 3) := by decide +kernel
theorem d_Pt_parse_213 : decode b_Pt_parse 213 = .ok (.aload_n 0, 1) := by decide +kernel
theorem d_Pt_parse_214 : decode b_Pt_parse 214 = .ok (.invokevirtual 123, 3) := by decide +kernel
theorem d_Pt_parse_217 : decode b_Pt_parse 217 = .ok (.goto 4, 3) := by decide +kernel
theorem d_Pt_parse_220 : decode b_Pt_parse 220 = .ok (.iconst 0, 1) := by decide +kernel
theorem d_Pt_parse_221 : decode b_Pt_parse 221 = .ok (.invokevirtual 127, 3) := by decide +kernel
theorem d_Pt_parse_224 : decode b_Pt_parse 224 = .ok (.istore 6, 2) := by decide +kernel
theorem d_Pt_parse_226 : decode b_Pt_parse 226 = .ok (.iload 6, 2) := by decide +kernel
theorem d_Pt_parse_228 : decode b_Pt_parse 228 = .ok (.ifCond .eq 97, 3) := by decide +kernel
theorem d_Pt_parse_231 : decode b_Pt_parse 231 = .ok (.iload 5, 2) := by decide +kernel
theorem d_Pt_parse_233 : decode b_Pt_parse 233 = .ok (.ifCond .eq 92, 3) := by decide +kernel
theorem d_Pt_parse_236 : decode b_Pt_parse 236 = .ok (.aload_n 0, 1) := by decide +kernel
theorem d_Pt_parse_237 : decode b_Pt_parse 237 = .ok (.iconst 0, 1) := by decide +kernel
theorem d_Pt_parse_238 : decode b_Pt_parse 238 = .ok (.invokevirtual 107, 3) := by decide +kernel
theorem d_Pt_parse_241 : decode b_Pt_parse 241 = .ok (.invokestatic 131, 3) := by decide +kernel
theorem d_Pt_parse_244 : decode b_Pt_parse 244 = .ok (.ifCond .eq 81, 3) := by decide +kernel
theorem d_Pt_parse_247 : decode b_Pt_parse 247 = .ok (.aload_n 0, 1) := by decide +kernel
theorem d_Pt_parse_248 : decode b_Pt_parse 248 = .ok (.invokevirtual 134, 3) := by decide +kernel
theorem d_Pt_parse_251 : decode b_Pt_parse 251 = .ok (.istore 6, 2) := by decide +kernel
theorem d_Pt_parse_253 : decode b_Pt_parse 253 = .ok (.iload 6, 2) := by decide +kernel
theorem d_Pt_parse_255 : decode b_Pt_parse 255 = .ok (.ifCond .eq 70, 3) := by decide +kernel
theorem d_Pt_parse_258 : decode b_Pt_parse 258 = .ok (.aload_n 0, 1) := by decide +kernel
theorem d_Pt_parse_259 : decode b_Pt_parse 259 = .ok (.getfield 98, 3) := by decide +kernel
theorem d_Pt_parse_262 : decode b_Pt_parse 262 = .ok (.iload 4, 2) := by decide +kernel
theorem d_Pt_parse_264 : decode b_Pt_parse 264 = .ok (.isub, 1) := by decide +kernel
theorem d_Pt_parse_265 : decode b_Pt_parse 265 = .ok (.aload_n 0, 1) := by decide +kernel
theorem d_Pt_parse_266 : decode b_Pt_parse 266 = .ok (.getfield 137, 3) := by decide +kernel
theorem d_Pt_parse_269 : decode b_Pt_parse 269 = .ok (.iconst (-1), 1) := by decide +kernel
theorem d_Pt_parse_270 : decode b_Pt_parse 270 = .ok (.if_icmp .ne 12, 3) := by decide +kernel
theorem d_Pt_parse_273 : decode b_Pt_parse 273 = .ok (.aload_n 0, 1) := by decide +kernel
theorem d_Pt_parse_274 : decode b_Pt_parse 274 = .ok (.getfield 140, 3) := by decide +kernel
theorem d_Pt_parse_277 : decode b_Pt_parse 277 = .ok (.iconst 1, 1) := by decide +kernel
theorem d_Pt_parse_278 : decode b_Pt_parse 278 = .ok (.iadd, 1) := by decide +kernel
theorem d_Pt_parse_279 : decode b_Pt_parse 279 = .ok (.goto 7, 3) := by decide +kernel
theorem d_Pt_parse_282 : decode b_Pt_parse 282 = .ok (.aload_n 0, 1) := by decide +kernel
theorem d_Pt_parse_283 : decode b_Pt_parse 283 = .ok (.getfield 137, 3) := by decide +kernel
theorem d_Pt_parse_286 : decode b_Pt_parse 286 = .ok (.imul, 1) := by decide +kernel
theorem d_Pt_parse_287 : decode b_Pt_parse 287 = .ok (.istore 7, 2) := by decide +kernel
theorem d_Pt_parse_289 : decode b_Pt_parse 289 = .ok (.aload_n 0, 1) := by decide +kernel
theorem d_Pt_parse_290 : decode b_Pt_parse 290 = .ok (.iload 4, 2) := by decide +kernel
theorem d_Pt_parse_292 : decode b_Pt_parse 292 = .ok (.iload 7, 2) := by decide +kernel
theorem d_Pt_parse_294 : decode b_Pt_parse 294 = .ok (.iconst 1, 1) := by decide +kernel
theorem d_Pt_parse_295 : decode b_Pt_parse 295 = .ok (.invokestatic 143, 3) := by decide +kernel
theorem d_Pt_parse_298 : decode b_Pt_parse 298 = .ok (.iadd, 1) := by decide +kernel
theorem d_Pt_parse_299 : decode b_Pt_parse 299 = .ok (.iconst 1, 1) := by decide +kernel
theorem d_Pt_parse_300 : decode b_Pt_parse 300 = .ok (.iadd, 1) := by decide +kernel
theorem d_Pt_parse_301 : decode b_Pt_parse 301 = .ok (.ldc 146, 2) := by decide +kernel
theorem d_Pt_parse_303 : decode b_Pt_parse 303 = .ok (.invokestatic 37, 3) := by decide +kernel
theorem d_Pt_parse_306 : decode b_Pt_parse 306 = .ok (.putfield 98, 3) := by decide +kernel
theorem d_Pt_parse_309 : decode b_Pt_parse 309 = .ok (.aload_n 0, 1) := by decide +kernel
theorem d_Pt_parse_310 : decode b_Pt_parse 310 = .ok (.getfield 27, 3) := by decide +kernel
theorem d_Pt_parse_313 : decode b_Pt_parse 313 = .ok (.iload_n 3, 1) := by decide +kernel
theorem d_Pt_parse_314 : decode b_Pt_parse 314 = .ok (.aload_n 0, 1) := by decide +kernel
theorem d_Pt_parse_315 : decode b_Pt_parse 315 = .ok (.getfield 140, 3) := by decide +kernel
theorem d_Pt_parse_318 : decode b_Pt_parse 318 = .ok (.aload_n 0, 1) := by decide +kernel
theorem d_Pt_parse_319 : decode b_Pt_parse 319 = .ok (.getfield 137, 3) := by decide +kernel
theorem d_Pt_parse_322 : decode b_Pt_parse 322 = .ok (.invokevirtual 147, 3) := by decide +kernel
theorem d_Pt_parse_325 : decode b_Pt_parse 325 = .ok (.iload 6, 2) := by decide +kernel
theorem d_Pt_parse_327 : decode b_Pt_parse 327 = .ok (.ifCond .eq 20, 3) := by decide +kernel
theorem d_Pt_parse_330 : decode b_Pt_parse 330 = .ok (.aload_n 0, 1) := by decide +kernel
theorem d_Pt_parse_331 : decode b_Pt_parse 331 = .ok (.getfield 101, 3) := by decide +kernel
theorem d_Pt_parse_334 : decode b_Pt_parse 334 = .ok (.ifCond .ne 15, 3) := by decide +kernel
theorem d_Pt_parse_337 : decode b_Pt_parse 337 = .ok (.aload_n 0, 1) := by decide +kernel
theorem d_Pt_parse_338 : decode b_Pt_parse 338 = .ok (.getfield 98, 3) := by decide +kernel
theorem d_Pt_parse_341 : decode b_Pt_parse 341 = .ok (.sipush 400, 3) := by decide +kernel
theorem d_Pt_parse_344 : decode b_Pt_parse 344 = .ok (.if_icmp .le 5, 3) := by decide +kernel
theorem d_Pt_parse_347 : decode b_Pt_parse 347 = .ok (.iconst 0, 1) := by decide +kernel
theorem d_Pt_parse_348 : decode b_Pt_parse 348 = .ok (.ireturn, 1) := by decide +kernel
theorem d_Pt_parse_349 : decode b_Pt_parse 349 = .ok (.iinc 1 1, 3) := by decide +kernel
theorem d_Pt_parse_352 : decode b_Pt_parse 352 = .ok (.goto (-324), 3) := by decide +kernel
theorem d_Pt_parse_355 : decode b_Pt_parse 355 = .ok (.aload_n 0, 1) := by decide +kernel
theorem d_Pt_parse_356 : decode b_Pt_parse 356 = .ok (.invokevirtual 113, 3) := by decide +kernel
theorem d_Pt_parse_359 : decode b_Pt_parse 359 = .ok (.aload_n 0, 1) := by decide +kernel
theorem d_Pt_parse_360 : decode b_Pt_parse 360 = .ok (.getfield 27, 3) := by decide +kernel
theorem d_Pt_parse_363 : decode b_Pt_parse 363 = .ok (.bipush 8, 2) := by decide +kernel
theorem d_Pt_parse_365 : decode b_Pt_parse 365 = .ok (.iconst 0, 1) := by decide +kernel
theorem d_Pt_parse_366 : decode b_Pt_parse 366 = .ok (.invokevirtual 151, 3) := by decide +kernel
theorem d_Pt_parse_369 : decode b_Pt_parse 369 = .ok (.aload_n 0, 1) := by decide +kernel
theorem d_Pt_parse_370 : decode b_Pt_parse 370 = .ok (.getfield 101, 3) := by decide +kernel
theorem d_Pt_parse_373 : decode b_Pt_parse 373 = .ok (.ifCond .ne 7, 3) := by decide +kernel
theorem d_Pt_parse_376 : decode b_Pt_parse 376 = .ok (.iconst 1, 1) := by decide +kernel
theorem d_Pt_parse_377 : decode b_Pt_parse 377 = .ok (.goto 4, 3) := by decide +kernel
theorem d_Pt_parse_380 : decode b_Pt_parse 380 = .ok (.iconst 0, 1) := by decide +kernel
theorem d_Pt_parse_381 : decode b_Pt_parse 381 = .ok (.ireturn, 1) := by decide +kernel
theorem d_Ck_inspectPatterns_0 : decode b_Ck_inspectPatterns 0 = .ok (.aload_n 0, 1) := by decide +kernel
theorem d_Ck_inspectPatterns_1 : decode b_Ck_inspectPatterns 1 = .ok (.getfield 22, 3) := by decide +kernel
theorem d_Ck_inspectPatterns_4 : decode b_Ck_inspectPatterns 4 = .ok (.iload_n 1, 1) := by decide +kernel
theorem d_Ck_inspectPatterns_5 : decode b_Ck_inspectPatterns 5 = .ok (.invokevirtual 92, 3) := by decide +kernel
theorem d_Ck_inspectPatterns_8 : decode b_Ck_inspectPatterns 8 = .ok (.istore_n 2, 1) := by decide +kernel
theorem d_Ck_inspectPatterns_9 : decode b_Ck_inspectPatterns 9 = .ok (.iconst 0, 1) := by decide +kernel
theorem d_Ck_inspectPatterns_10 : decode b_Ck_inspectPatterns 10 = .ok (.istore_n 3, 1) := by decide +kernel
theorem d_Ck_inspectPatterns_11 : decode b_Ck_inspectPatterns 11 = .ok (.iload_n 3, 1) := by decide +kernel
theorem d_Ck_inspectPatterns_12 : decode b_Ck_inspectPatterns 12 = .ok (.aload_n 0, 1) := by decide +kernel
theorem d_Ck_inspectPatterns_13 : decode b_Ck_inspectPatterns 13 = .ok (.getfield 22, 3) := by decide +kernel
theorem d_Ck_inspectPatterns_16 : decode b_Ck_inspectPatterns 16 = .ok (.iload_n 1, 1) := by decide +kernel
theorem d_Ck_inspectPatterns_17 : decode b_Ck_inspectPatterns 17 = .ok (.invokevirtual 96, 3) := by decide +kernel
theorem d_Ck_inspectPatterns_20 : decode b_Ck_inspectPatterns 20 = .ok (.if_icmp .ge 51, 3) := by decide +kernel
theorem d_Ck_inspectPatterns_23 : decode b_Ck_inspectPatterns 23 = .ok (.aload_n 0, 1) := by decide +kernel
theorem d_Ck_inspectPatterns_24 : decode b_Ck_inspectPatterns 24 = .ok (.getfield 30, 3) := by decide +kernel
theorem d_Ck_inspectPatterns_27 : decode b_Ck_inspectPatterns 27 = .ok (.aload_n 0, 1) := by decide +kernel
theorem d_Ck_inspectPatterns_28 : decode b_Ck_inspectPatterns 28 = .ok (.getfield 22, 3) := by decide +kernel
theorem d_Ck_inspectPatterns_31 : decode b_Ck_inspectPatterns 31 = .ok (.iload_n 2, 1) := by decide +kernel
theorem d_Ck_inspectPatterns_32 : decode b_Ck_inspectPatterns 32 = .ok (.iconst 1, 1) := by decide +kernel
theorem d_Ck_inspectPatterns_33 : decode b_Ck_inspectPatterns 33 = .ok (.isub, 1) := by decide +kernel
theorem d_Ck_inspectPatterns_34 : decode b_Ck_inspectPatterns 34 = .ok (.invokevirtual 135, 3) := by decide +kernel
theorem d_Ck_inspectPatterns_37 : decode b_Ck_inspectPatterns 37 = .ok (.ifCond .eq 13, 3) := by decide +kernel
theorem d_Ck_inspectPatterns_40 : decode b_Ck_inspectPatterns 40 = .ok (.aload_n 0, 1) := by decide +kernel
theorem d_Ck_inspectPatterns_41 : decode b_Ck_inspectPatterns 41 = .ok (.getfield 30, 3) := by decide +kernel
theorem d_Ck_inspectPatterns_44 : decode b_Ck_inspectPatterns 44 = .ok (.invokevirtual 141, 3) := by decide +kernel
theorem d_Ck_inspectPatterns_47 : decode b_Ck_inspectPatterns 47 = .ok (.ifCond .ne 9, 3) := by decide +kernel
theorem d_Ck_inspectPatterns_50 : decode b_Ck_inspectPatterns 50 = .ok (.aload_n 0, 1) := by decide +kernel
theorem d_Ck_inspectPatterns_51 : decode b_Ck_inspectPatterns 51 = .ok (.iconst 4, 1) := by decide +kernel
theorem d_Ck_inspectPatterns_52 : decode b_Ck_inspectPatterns 52 = .ok (.iload_n 2, 1) := by decide +kernel
theorem d_Ck_inspectPatterns_53 : decode b_Ck_inspectPatterns 53 = .ok (.invokevirtual 81, 3) := by decide +kernel
theorem d_Ck_inspectPatterns_56 : decode b_Ck_inspectPatterns 56 = .ok (.aload_n 0, 1) := by decide +kernel
theorem d_Ck_inspectPatterns_57 : decode b_Ck_inspectPatterns 57 = .ok (.getfield 22, 3) := by decide +kernel
theorem d_Ck_inspectPatterns_60 : decode b_Ck_inspectPatterns 60 = .ok (.iload_n 2, 1) := by decide +kernel
theorem d_Ck_inspectPatterns_61 : decode b_Ck_inspectPatterns 61 = .ok (.invokevirtual 107, 3) := by decide +kernel
theorem d_Ck_inspectPatterns_64 : decode b_Ck_inspectPatterns 64 = .ok (.istore_n 2, 1) := by decide +kernel
theorem d_Ck_inspectPatterns_65 : decode b_Ck_inspectPatterns 65 = .ok (.iinc 3 1, 3) := by decide +kernel
theorem d_Ck_inspectPatterns_68 : decode b_Ck_inspectPatterns 68 = .ok (.goto (-57), 3) := by decide +kernel
theorem d_Ck_inspectPatterns_71 : decode b_Ck_inspectPatterns 71 = .ok (.return_, 1) := by decide +kernel
theorem d_Tx_sign_0 : decode b_Tx_sign 0 = .ok (.iload_n 1, 1) := by decide +kernel
theorem d_Tx_sign_1 : decode b_Tx_sign 1 = .ok (.ifCond .lt 20, 3) := by decide +kernel
theorem d_Tx_sign_4 : decode b_Tx_sign 4 = .ok (.iload_n 1, 1) := by decide +kernel
theorem d_Tx_sign_5 : decode b_Tx_sign 5 = .ok (.aload_n 0, 1) := by decide +kernel
theorem d_Tx_sign_6 : decode b_Tx_sign 6 = .ok (.getfield 43, 3) := by decide +kernel
theorem d_Tx_sign_9 : decode b_Tx_sign 9 = .ok (.if_icmp .ge 12, 3) := by decide +kernel
theorem d_Tx_sign_12 : decode b_Tx_sign 12 = .ok (.aload_n 0, 1) := by decide +kernel
theorem d_Tx_sign_13 : decode b_Tx_sign 13 = .ok (.getfield 18, 3) := by decide +kernel
theorem d_Tx_sign_16 : decode b_Tx_sign 16 = .ok (.iload_n 1, 1) := by decide +kernel
theorem d_Tx_sign_17 : decode b_Tx_sign 17 = .ok (.iaload, 1) := by decide +kernel
theorem d_Tx_sign_18 : decode b_Tx_sign 18 = .ok (.ifCond .ne 5, 3) := by decide +kernel
theorem d_Tx_sign_21 : decode b_Tx_sign 21 = .ok (.iconst 0, 1) := by decide +kernel
theorem d_Tx_sign_22 : decode b_Tx_sign 22 = .ok (.ireturn, 1) := by decide +kernel
theorem d_Tx_sign_23 : decode b_Tx_sign 23 = .ok (.aload_n 0, 1) := by decide +kernel
theorem d_Tx_sign_24 : decode b_Tx_sign 24 = .ok (.getfield 36, 3) := by decide +kernel
theorem d_Tx_sign_27 : decode b_Tx_sign 27 = .ok (.iload_n 1, 1) := by decide +kernel
theorem d_Tx_sign_28 : decode b_Tx_sign 28 = .ok (.baload, 1) := by decide +kernel
theorem d_Tx_sign_29 : decode b_Tx_sign 29 = .ok (.ifCond .eq 7, 3) := by decide +kernel
theorem d_Tx_sign_32 : decode b_Tx_sign 32 = .ok (.iconst (-1), 1) := by decide +kernel
theorem d_Tx_sign_33 : decode b_Tx_sign 33 = .ok (.goto 4, 3) := by decide +kernel
theorem d_Tx_sign_36 : decode b_Tx_sign 36 = .ok (.iconst 1, 1) := by decide +kernel
theorem d_Tx_sign_37 : decode b_Tx_sign 37 = .ok (.ireturn, 1) := by decide +kernel
theorem d_Tx_exponent_0 : decode b_Tx_exponent 0 = .ok (.iload_n 1, 1) := by decide +kernel
theorem d_Tx_exponent_1 : decode b_Tx_exponent 1 = .ok (.ifCond .lt 20, 3) := by decide +kernel
theorem d_Tx_exponent_4 : decode b_Tx_exponent 4 = .ok (.iload_n 1, 1) := by decide +kernel
theorem d_Tx_exponent_5 : decode b_Tx_exponent 5 = .ok (.aload_n 0, 1) := by decide +kernel
theorem d_Tx_exponent_6 : decode b_Tx_exponent 6 = .ok (.getfield 43, 3) := by decide +kernel
theorem d_Tx_exponent_9 : decode b_Tx_exponent 9 = .ok (.if_icmp .ge 12, 3) := by decide +kernel
theorem d_Tx_exponent_12 : decode b_Tx_exponent 12 = .ok (.aload_n 0, 1) := by decide +kernel
theorem d_Tx_exponent_13 : decode b_Tx_exponent 13 = .ok (.getfield 24, 3) := by decide +kernel
theorem d_Tx_exponent_16 : decode b_Tx_exponent 16 = .ok (.iload_n 1, 1) := by decide +kernel
theorem d_Tx_exponent_17 : decode b_Tx_exponent 17 = .ok (.iaload, 1) := by decide +kernel
theorem d_Tx_exponent_18 : decode b_Tx_exponent 18 = .ok (.goto 4, 3) := by decide +kernel
theorem d_Tx_exponent_21 : decode b_Tx_exponent 21 = .ok (.iconst 0, 1) := by decide +kernel
theorem d_Tx_exponent_22 : decode b_Tx_exponent 22 = .ok (.ireturn, 1) := by decide +kernel
theorem d_Tx_wholeNumber_0 : decode b_Tx_wholeNumber 0 = .ok (.aload_n 0, 1) := by decide +kernel
theorem d_Tx_wholeNumber_1 : decode b_Tx_wholeNumber 1 = .ok (.iload_n 1, 1) := by decide +kernel
theorem d_Tx_wholeNumber_2 : decode b_Tx_wholeNumber 2 = .ok (.invokevirtual 77, 3) := by decide +kernel
theorem d_Tx_wholeNumber_5 : decode b_Tx_wholeNumber 5 = .ok (.iconst 3, 1) := by decide +kernel
theorem d_Tx_wholeNumber_6 : decode b_Tx_wholeNumber 6 = .ok (.if_icmp .ne 35, 3) := by decide +kernel
theorem d_Tx_wholeNumber_9 : decode b_Tx_wholeNumber 9 = .ok (.aload_n 0, 1) := by decide +kernel
theorem d_Tx_wholeNumber_10 : decode b_Tx_wholeNumber 10 = .ok (.iload_n 1, 1) := by decide +kernel
theorem d_Tx_wholeNumber_11 : decode b_Tx_wholeNumber 11 = .ok (.invokevirtual 80, 3) := by decide +kernel
theorem d_Tx_wholeNumber_14 : decode b_Tx_wholeNumber 14 = .ok (.ifCond .lt 27, 3) := by decide +kernel
theorem d_Tx_wholeNumber_17 : decode b_Tx_wholeNumber 17 = .ok (.aload_n 0, 1) := by decide +kernel
theorem d_Tx_wholeNumber_18 : decode b_Tx_wholeNumber 18 = .ok (.iload_n 1, 1) := by decide +kernel
theorem d_Tx_wholeNumber_19 : decode b_Tx_wholeNumber 19 = .ok (.invokevirtual 83, 3) := by decide +kernel
theorem d_Tx_wholeNumber_22 : decode b_Tx_wholeNumber 22 = .ok (.ifCond .lt 19, 3) := by decide +kernel
theorem d_Tx_wholeNumber_25 : decode b_Tx_wholeNumber 25 = .ok (.aload_n 0, 1) := by decide +kernel
theorem d_Tx_wholeNumber_26 : decode b_Tx_wholeNumber 26 = .ok (.iload_n 1, 1) := by decide +kernel
theorem d_Tx_wholeNumber_27 : decode b_Tx_wholeNumber 27 = .ok (.invokevirtual 60, 3) := by decide +kernel
theorem d_Tx_wholeNumber_30 : decode b_Tx_wholeNumber 30 = .ok (.aload_n 0, 1) := by decide +kernel
theorem d_Tx_wholeNumber_31 : decode b_Tx_wholeNumber 31 = .ok (.iload_n 1, 1) := by decide +kernel
theorem d_Tx_wholeNumber_32 : decode b_Tx_wholeNumber 32 = .ok (.invokevirtual 83, 3) := by decide +kernel
theorem d_Tx_wholeNumber_35 : decode b_Tx_wholeNumber 35 = .ok (.iadd, 1) := by decide +kernel
theorem d_Tx_wholeNumber_36 : decode b_Tx_wholeNumber 36 = .ok (.bipush 7, 2) := by decide +kernel
theorem d_Tx_wholeNumber_38 : decode b_Tx_wholeNumber 38 = .ok (.if_icmp .le 5, 3) := by decide +kernel
theorem d_Tx_wholeNumber_41 : decode b_Tx_wholeNumber 41 = .ok (.iconst (-1), 1) := by decide +kernel
theorem d_Tx_wholeNumber_42 : decode b_Tx_wholeNumber 42 = .ok (.ireturn, 1) := by decide +kernel
theorem d_Tx_wholeNumber_43 : decode b_Tx_wholeNumber 43 = .ok (.iconst 0, 1) := by decide +kernel
theorem d_Tx_wholeNumber_44 : decode b_Tx_wholeNumber 44 = .ok (.istore_n 2, 1) := by decide +kernel
theorem d_Tx_wholeNumber_45 : decode b_Tx_wholeNumber 45 = .ok (.iconst 0, 1) := by decide +kernel
theorem d_Tx_wholeNumber_46 : decode b_Tx_wholeNumber 46 = .ok (.istore_n 3, 1) := by decide +kernel
theorem d_Tx_wholeNumber_47 : decode b_Tx_wholeNumber 47 = .ok (.iload_n 3, 1) := by decide +kernel
theorem d_Tx_wholeNumber_48 : decode b_Tx_wholeNumber 48 = .ok (.aload_n 0, 1) := by decide +kernel
theorem d_Tx_wholeNumber_49 : decode b_Tx_wholeNumber 49 = .ok (.iload_n 1, 1) := by decide +kernel
theorem d_Tx_wholeNumber_50 : decode b_Tx_wholeNumber 50 = .ok (.invokevirtual 60, 3) := by decide +kernel
theorem d_Tx_wholeNumber_53 : decode b_Tx_wholeNumber 53 = .ok (.aload_n 0, 1) := by decide +kernel
theorem d_Tx_wholeNumber_54 : decode b_Tx_wholeNumber 54 = .ok (.iload_n 1, 1) := by decide +kernel
theorem d_Tx_wholeNumber_55 : decode b_Tx_wholeNumber 55 = .ok (.invokevirtual 83, 3) := by decide +kernel
theorem d_Tx_wholeNumber_58 : decode b_Tx_wholeNumber 58 = .ok (.iadd, 1) := by decide +kernel
theorem d_Tx_wholeNumber_59 : decode b_Tx_wholeNumber 59 = .ok (.if_icmp .ge 21, 3) := by decide +kernel
theorem d_Tx_wholeNumber_62 : decode b_Tx_wholeNumber 62 = .ok (.iload_n 2, 1) := by decide +kernel
theorem d_Tx_wholeNumber_63 : decode b_Tx_wholeNumber 63 = .ok (.bipush 10, 2) := by decide +kernel
theorem d_Tx_wholeNumber_65 : decode b_Tx_wholeNumber 65 = .ok (.imul, 1) := by decide +kernel
theorem d_Tx_wholeNumber_66 : decode b_Tx_wholeNumber 66 = .ok (.aload_n 0, 1) := by decide +kernel
theorem d_Tx_wholeNumber_67 : decode b_Tx_wholeNumber 67 = .ok (.iload_n 1, 1) := by decide +kernel
theorem d_Tx_wholeNumber_68 : decode b_Tx_wholeNumber 68 = .ok (.iload_n 3, 1) := by decide +kernel
theorem d_Tx_wholeNumber_69 : decode b_Tx_wholeNumber 69 = .ok (.invokevirtual 86, 3) := by decide +kernel
theorem d_Tx_wholeNumber_72 : decode b_Tx_wholeNumber 72 = .ok (.iadd, 1) := by decide +kernel
theorem d_Tx_wholeNumber_73 : decode b_Tx_wholeNumber 73 = .ok (.istore_n 2, 1) := by decide +kernel
theorem d_Tx_wholeNumber_74 : decode b_Tx_wholeNumber 74 = .ok (.iinc 3 1, 3) := by decide +kernel
theorem d_Tx_wholeNumber_77 : decode b_Tx_wholeNumber 77 = .ok (.goto (-30), 3) := by decide +kernel
theorem d_Tx_wholeNumber_80 : decode b_Tx_wholeNumber 80 = .ok (.iload_n 2, 1) := by decide +kernel
theorem d_Tx_wholeNumber_81 : decode b_Tx_wholeNumber 81 = .ok (.ldc 90, 2) := by decide +kernel
theorem d_Tx_wholeNumber_83 : decode b_Tx_wholeNumber 83 = .ok (.if_icmp .le 7, 3) := by decide +kernel
theorem d_Tx_wholeNumber_86 : decode b_Tx_wholeNumber 86 = .ok (.iconst (-1), 1) := by decide +kernel
theorem d_Tx_wholeNumber_87 : decode b_Tx_wholeNumber 87 = .ok (.goto 4, 3) := by decide +kernel
theorem d_Tx_wholeNumber_90 : decode b_Tx_wholeNumber 90 = .ok (.iload_n 2, 1) := by decide +kernel
theorem d_Tx_wholeNumber_91 : decode b_Tx_wholeNumber 91 = .ok (.ireturn, 1) := by decide +kernel
