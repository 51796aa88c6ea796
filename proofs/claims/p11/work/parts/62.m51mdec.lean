theorem d_MT_value_116 : decode b_MT_value 116 = .ok (.ireturn, 1) := by decide +kernel
theorem d_MT_value_117 : decode b_MT_value 117 = .ok (.iload_n 3, 1) := by decide +kernel
theorem d_MT_value_118 : decode b_MT_value 118 = .ok (.bipush 116, 2) := by decide +kernel
theorem d_MT_value_120 : decode b_MT_value 120 = .ok (.if_icmp .ne 12, 3) := by decide +kernel
theorem d_MT_value_123 : decode b_MT_value 123 = .ok (.aload_n 0, 1) := by decide +kernel
theorem d_MT_value_124 : decode b_MT_value 124 = .ok (.ldc 113, 2) := by decide +kernel
theorem d_MT_value_126 : decode b_MT_value 126 = .ok (.iload_n 1, 1) := by decide +kernel
theorem d_MT_value_127 : decode b_MT_value 127 = .ok (.iconst 2, 1) := by decide +kernel
theorem d_MT_value_128 : decode b_MT_value 128 = .ok (.invokevirtual 109, 3) := by decide +kernel
theorem d_MT_value_131 : decode b_MT_value 131 = .ok (.ireturn, 1) := by decide +kernel
theorem d_MT_value_132 : decode b_MT_value 132 = .ok (.iload_n 3, 1) := by decide +kernel
theorem d_MT_value_133 : decode b_MT_value 133 = .ok (.bipush 102, 2) := by decide +kernel
theorem d_MT_value_135 : decode b_MT_value 135 = .ok (.if_icmp .ne 12, 3) := by decide +kernel
theorem d_MT_value_138 : decode b_MT_value 138 = .ok (.aload_n 0, 1) := by decide +kernel
theorem d_MT_value_139 : decode b_MT_value 139 = .ok (.ldc 115, 2) := by decide +kernel
theorem d_MT_value_141 : decode b_MT_value 141 = .ok (.iload_n 1, 1) := by decide +kernel
theorem d_MT_value_142 : decode b_MT_value 142 = .ok (.iconst 1, 1) := by decide +kernel
theorem d_MT_value_143 : decode b_MT_value 143 = .ok (.invokevirtual 109, 3) := by decide +kernel
theorem d_MT_value_146 : decode b_MT_value 146 = .ok (.ireturn, 1) := by decide +kernel
theorem d_MT_value_147 : decode b_MT_value 147 = .ok (.iload_n 3, 1) := by decide +kernel
theorem d_MT_value_148 : decode b_MT_value 148 = .ok (.bipush 34, 2) := by decide +kernel
theorem d_MT_value_150 : decode b_MT_value 150 = .ok (.if_icmp .ne 9, 3) := by decide +kernel
theorem d_MT_value_153 : decode b_MT_value 153 = .ok (.aload_n 0, 1) := by decide +kernel
theorem d_MT_value_154 : decode b_MT_value 154 = .ok (.iload_n 1, 1) := by decide +kernel
theorem d_MT_value_155 : decode b_MT_value 155 = .ok (.invokevirtual 117, 3) := by decide +kernel
theorem d_MT_value_158 : decode b_MT_value 158 = .ok (.ireturn, 1) := by decide +kernel
theorem d_MT_value_159 : decode b_MT_value 159 = .ok (.iload 4, 2) := by decide +kernel
theorem d_MT_value_161 : decode b_MT_value 161 = .ok (.ifCond .eq 9, 3) := by decide +kernel
theorem d_MT_value_164 : decode b_MT_value 164 = .ok (.aload_n 0, 1) := by decide +kernel
theorem d_MT_value_165 : decode b_MT_value 165 = .ok (.iload_n 1, 1) := by decide +kernel
theorem d_MT_value_166 : decode b_MT_value 166 = .ok (.invokevirtual 120, 3) := by decide +kernel
theorem d_MT_value_169 : decode b_MT_value 169 = .ok (.ireturn, 1) := by decide +kernel
theorem d_MT_value_170 : decode b_MT_value 170 = .ok (.iload_n 2, 1) := by decide +kernel
theorem d_MT_value_171 : decode b_MT_value 171 = .ok (.bipush 40, 2) := by decide +kernel
theorem d_MT_value_173 : decode b_MT_value 173 = .ok (.if_icmp .ne 12, 3) := by decide +kernel
theorem d_MT_value_176 : decode b_MT_value 176 = .ok (.aload_n 0, 1) := by decide +kernel
theorem d_MT_value_177 : decode b_MT_value 177 = .ok (.aload_n 0, 1) := by decide +kernel
theorem d_MT_value_178 : decode b_MT_value 178 = .ok (.getfield 62, 3) := by decide +kernel
theorem d_MT_value_181 : decode b_MT_value 181 = .ok (.invokevirtual 81, 3) := by decide +kernel
theorem d_MT_value_184 : decode b_MT_value 184 = .ok (.ireturn, 1) := by decide +kernel
theorem d_MT_value_185 : decode b_MT_value 185 = .ok (.iload_n 3, 1) := by decide +kernel
theorem d_MT_value_186 : decode b_MT_value 186 = .ok (.bipush 91, 2) := by decide +kernel
theorem d_MT_value_188 : decode b_MT_value 188 = .ok (.if_icmp .ne 12, 3) := by decide +kernel
theorem d_MT_value_191 : decode b_MT_value 191 = .ok (.aload_n 0, 1) := by decide +kernel
theorem d_MT_value_192 : decode b_MT_value 192 = .ok (.iload_n 1, 1) := by decide +kernel
theorem d_MT_value_193 : decode b_MT_value 193 = .ok (.iload_n 2, 1) := by decide +kernel
theorem d_MT_value_194 : decode b_MT_value 194 = .ok (.invokevirtual 123, 3) := by decide +kernel
theorem d_MT_value_197 : decode b_MT_value 197 = .ok (.goto 9, 3) := by decide +kernel
theorem d_MT_value_200 : decode b_MT_value 200 = .ok (.aload_n 0, 1) := by decide +kernel
theorem d_MT_value_201 : decode b_MT_value 201 = .ok (.iload_n 1, 1) := by decide +kernel
theorem d_MT_value_202 : decode b_MT_value 202 = .ok (.iload_n 2, 1) := by decide +kernel
theorem d_MT_value_203 : decode b_MT_value 203 = .ok (.invokevirtual 126, 3) := by decide +kernel
theorem d_MT_value_206 : decode b_MT_value 206 = .ok (.ireturn, 1) := by decide +kernel
theorem d_MT_read_0 : decode b_MT_read 0 = .ok (.aload_n 0, 1) := by decide +kernel
theorem d_MT_read_1 : decode b_MT_read 1 = .ok (.iload_n 1, 1) := by decide +kernel
theorem d_MT_read_2 : decode b_MT_read 2 = .ok (.putfield 59, 3) := by decide +kernel
theorem d_MT_read_5 : decode b_MT_read 5 = .ok (.aload_n 0, 1) := by decide +kernel
theorem d_MT_read_6 : decode b_MT_read 6 = .ok (.iconst 0, 1) := by decide +kernel
theorem d_MT_read_7 : decode b_MT_read 7 = .ok (.putfield 62, 3) := by decide +kernel
theorem d_MT_read_10 : decode b_MT_read 10 = .ok (.aload_n 0, 1) := by decide +kernel
theorem d_MT_read_11 : decode b_MT_read 11 = .ok (.iconst (-1), 1) := by decide +kernel
theorem d_MT_read_12 : decode b_MT_read 12 = .ok (.putfield 55, 3) := by decide +kernel
theorem d_MT_read_15 : decode b_MT_read 15 = .ok (.aload_n 0, 1) := by decide +kernel
theorem d_MT_read_16 : decode b_MT_read 16 = .ok (.iconst 0, 1) := by decide +kernel
theorem d_MT_read_17 : decode b_MT_read 17 = .ok (.putfield 65, 3) := by decide +kernel
theorem d_MT_read_20 : decode b_MT_read 20 = .ok (.aload_n 0, 1) := by decide +kernel
theorem d_MT_read_21 : decode b_MT_read 21 = .ok (.iconst 0, 1) := by decide +kernel
theorem d_MT_read_22 : decode b_MT_read 22 = .ok (.putfield 68, 3) := by decide +kernel
theorem d_MT_read_25 : decode b_MT_read 25 = .ok (.aload_n 0, 1) := by decide +kernel
theorem d_MT_read_26 : decode b_MT_read 26 = .ok (.iconst 0, 1) := by decide +kernel
theorem d_MT_read_27 : decode b_MT_read 27 = .ok (.putfield 71, 3) := by decide +kernel
theorem d_MT_read_30 : decode b_MT_read 30 = .ok (.aload_n 0, 1) := by decide +kernel
theorem d_MT_read_31 : decode b_MT_read 31 = .ok (.invokevirtual 74, 3) := by decide +kernel
theorem d_MT_read_34 : decode b_MT_read 34 = .ok (.aload_n 0, 1) := by decide +kernel
theorem d_MT_read_35 : decode b_MT_read 35 = .ok (.iconst (-1), 1) := by decide +kernel
theorem d_MT_read_36 : decode b_MT_read 36 = .ok (.iconst 0, 1) := by decide +kernel
theorem d_MT_read_37 : decode b_MT_read 37 = .ok (.invokevirtual 77, 3) := by decide +kernel
theorem d_MT_read_40 : decode b_MT_read 40 = .ok (.ifCond .eq 27, 3) := by decide +kernel
theorem d_MT_read_43 : decode b_MT_read 43 = .ok (.aload_n 0, 1) := by decide +kernel
theorem d_MT_read_44 : decode b_MT_read 44 = .ok (.invokevirtual 74, 3) := by decide +kernel
theorem d_MT_read_47 : decode b_MT_read 47 = .ok (.aload_n 0, 1) := by decide +kernel
theorem d_MT_read_48 : decode b_MT_read 48 = .ok (.getfield 62, 3) := by decide +kernel
theorem d_MT_read_51 : decode b_MT_read 51 = .ok (.aload_n 0, 1) := by decide +kernel
theorem d_MT_read_52 : decode b_MT_read 52 = .ok (.getfield 59, 3) := by decide +kernel
theorem d_MT_read_55 : decode b_MT_read 55 = .ok (.if_icmp .ge 12, 3) := by decide +kernel
theorem d_MT_read_58 : decode b_MT_read 58 = .ok (.aload_n 0, 1) := by decide +kernel
theorem d_MT_read_59 : decode b_MT_read 59 = .ok (.aload_n 0, 1) := by decide +kernel
theorem d_MT_read_60 : decode b_MT_read 60 = .ok (.getfield 62, 3) := by decide +kernel
theorem d_MT_read_63 : decode b_MT_read 63 = .ok (.invokevirtual 81, 3) := by decide +kernel
theorem d_MT_read_66 : decode b_MT_read 66 = .ok (.pop, 1) := by decide +kernel
theorem d_MT_read_67 : decode b_MT_read 67 = .ok (.aload_n 0, 1) := by decide +kernel
theorem d_MT_read_68 : decode b_MT_read 68 = .ok (.getfield 55, 3) := by decide +kernel
theorem d_MT_read_71 : decode b_MT_read 71 = .ok (.ifCond .lt 8, 3) := by decide +kernel
theorem d_MT_read_74 : decode b_MT_read 74 = .ok (.aload_n 0, 1) := by decide +kernel
theorem d_MT_read_75 : decode b_MT_read 75 = .ok (.iconst 0, 1) := by decide +kernel
theorem d_MT_read_76 : decode b_MT_read 76 = .ok (.putfield 65, 3) := by decide +kernel
theorem d_MT_read_79 : decode b_MT_read 79 = .ok (.aload_n 0, 1) := by decide +kernel
theorem d_MT_read_80 : decode b_MT_read 80 = .ok (.getfield 55, 3) := by decide +kernel
theorem d_MT_read_83 : decode b_MT_read 83 = .ok (.ireturn, 1) := by decide +kernel
theorem d_MM_end_0 : decode b_MM_end 0 = .ok (.aload_n 0, 1) := by decide +kernel
theorem d_MM_end_1 : decode b_MM_end 1 = .ok (.iconst 0, 1) := by decide +kernel
theorem d_MM_end_2 : decode b_MM_end 2 = .ok (.putfield 230, 3) := by decide +kernel
theorem d_MM_end_5 : decode b_MM_end 5 = .ok (.aload_n 0, 1) := by decide +kernel
theorem d_MM_end_6 : decode b_MM_end 6 = .ok (.iload_n 2, 1) := by decide +kernel
theorem d_MM_end_7 : decode b_MM_end 7 = .ok (.ifCond .lt 18, 3) := by decide +kernel
theorem d_MM_end_10 : decode b_MM_end 10 = .ok (.iload_n 2, 1) := by decide +kernel
theorem d_MM_end_11 : decode b_MM_end 11 = .ok (.sipush 8192, 3) := by decide +kernel
theorem d_MM_end_14 : decode b_MM_end 14 = .ok (.if_icmp .gt 11, 3) := by decide +kernel
theorem d_MM_end_17 : decode b_MM_end 17 = .ok (.iload_n 2, 1) := by decide +kernel
theorem d_MM_end_18 : decode b_MM_end 18 = .ok (.aload_n 0, 1) := by decide +kernel
theorem d_MM_end_19 : decode b_MM_end 19 = .ok (.getfield 233, 3) := by decide +kernel
theorem d_MM_end_22 : decode b_MM_end 22 = .ok (.if_icmp .le 7, 3) := by decide +kernel
theorem d_MM_end_25 : decode b_MM_end 25 = .ok (.iconst 1, 1) := by decide +kernel
theorem d_MM_end_26 : decode b_MM_end 26 = .ok (.goto 4, 3) := by decide +kernel
theorem d_MM_end_29 : decode b_MM_end 29 = .ok (.iconst 0, 1) := by decide +kernel
theorem d_MM_end_30 : decode b_MM_end 30 = .ok (.iconst 1, 1) := by decide +kernel
theorem d_MM_end_31 : decode b_MM_end 31 = .ok (.invokevirtual 236, 3) := by decide +kernel
theorem d_MM_end_34 : decode b_MM_end 34 = .ok (.ifCond .eq 5, 3) := by decide +kernel
theorem d_MM_end_37 : decode b_MM_end 37 = .ok (.iconst 0, 1) := by decide +kernel
theorem d_MM_end_38 : decode b_MM_end 38 = .ok (.ireturn, 1) := by decide +kernel
theorem d_MM_end_39 : decode b_MM_end 39 = .ok (.aload_n 0, 1) := by decide +kernel
theorem d_MM_end_40 : decode b_MM_end 40 = .ok (.iconst 0, 1) := by decide +kernel
theorem d_MM_end_41 : decode b_MM_end 41 = .ok (.putfield 233, 3) := by decide +kernel
theorem d_MM_end_44 : decode b_MM_end 44 = .ok (.iload_n 1, 1) := by decide +kernel
theorem d_MM_end_45 : decode b_MM_end 45 = .ok (.ifCond .eq 10, 3) := by decide +kernel
theorem d_MM_end_48 : decode b_MM_end 48 = .ok (.aload_n 0, 1) := by decide +kernel
theorem d_MM_end_49 : decode b_MM_end 49 = .ok (.getfield 20, 3) := by decide +kernel
theorem d_MM_end_52 : decode b_MM_end 52 = .ok (.goto 7, 3) := by decide +kernel
theorem d_MM_end_55 : decode b_MM_end 55 = .ok (.aload_n 0, 1) := by decide +kernel
theorem d_MM_end_56 : decode b_MM_end 56 = .ok (.getfield 24, 3) := by decide +kernel
theorem d_MM_end_59 : decode b_MM_end 59 = .ok (.astore_n 3, 1) := by decide +kernel
theorem d_MM_end_60 : decode b_MM_end 60 = .ok (.iconst 0, 1) := by decide +kernel
theorem d_MM_end_61 : decode b_MM_end 61 = .ok (.istore 4, 2) := by decide +kernel
theorem d_MM_end_63 : decode b_MM_end 63 = .ok (.iload 4, 2) := by decide +kernel
theorem d_MM_end_65 : decode b_MM_end 65 = .ok (.iload_n 2, 1) := by decide +kernel
theorem d_MM_end_66 : decode b_MM_end 66 = .ok (.if_icmp .ge 23, 3) := by decide +kernel
theorem d_MM_end_69 : decode b_MM_end 69 = .ok (.aload_n 3, 1) := by decide +kernel
theorem d_MM_end_70 : decode b_MM_end 70 = .ok (.getfield 240, 3) := by decide +kernel
theorem d_MM_end_73 : decode b_MM_end 73 = .ok (.iload 4, 2) := by decide +kernel
theorem d_MM_end_75 : decode b_MM_end 75 = .ok (.aload_n 0, 1) := by decide +kernel
theorem d_MM_end_76 : decode b_MM_end 76 = .ok (.getfield 13, 3) := by decide +kernel
theorem d_MM_end_79 : decode b_MM_end 79 = .ok (.iload 4, 2) := by decide +kernel
theorem d_MM_end_81 : decode b_MM_end 81 = .ok (.iaload, 1) := by decide +kernel
theorem d_MM_end_82 : decode b_MM_end 82 = .ok (.iastore, 1) := by decide +kernel
theorem d_MM_end_83 : decode b_MM_end 83 = .ok (.iinc 4 1, 3) := by decide +kernel
theorem d_MM_end_86 : decode b_MM_end 86 = .ok (.goto (-23), 3) := by decide +kernel
theorem d_MM_end_89 : decode b_MM_end 89 = .ok (.iload_n 1, 1) := by decide +kernel
theorem d_MM_end_90 : decode b_MM_end 90 = .ok (.ifCond .eq 13, 3) := by decide +kernel
theorem d_MM_end_93 : decode b_MM_end 93 = .ok (.aload_n 0, 1) := by decide +kernel
theorem d_MM_end_94 : decode b_MM_end 94 = .ok (.iconst 0, 1) := by decide +kernel
theorem d_MM_end_95 : decode b_MM_end 95 = .ok (.putfield 243, 3) := by decide +kernel
theorem d_MM_end_98 : decode b_MM_end 98 = .ok (.aload_n 0, 1) := by decide +kernel
theorem d_MM_end_99 : decode b_MM_end 99 = .ok (.iconst (-1), 1) := by decide +kernel
theorem d_MM_end_100 : decode b_MM_end 100 = .ok (.putfield 191, 3) := by decide +kernel
theorem d_MM_end_103 : decode b_MM_end 103 = .ok (.aload_n 0, 1) := by decide +kernel
theorem d_MM_end_104 : decode b_MM_end 104 = .ok (.aload_n 3, 1) := by decide +kernel
theorem d_MM_end_105 : decode b_MM_end 105 = .ok (.iload_n 2, 1) := by decide +kernel
theorem d_MM_end_106 : decode b_MM_end 106 = .ok (.invokevirtual 247, 3) := by decide +kernel
theorem d_MM_end_109 : decode b_MM_end 109 = .ok (.putfield 7, 3) := by decide +kernel
theorem d_MM_end_112 : decode b_MM_end 112 = .ok (.aload_n 0, 1) := by decide +kernel
theorem d_MM_end_113 : decode b_MM_end 113 = .ok (.aload_n 0, 1) := by decide +kernel
theorem d_MM_end_114 : decode b_MM_end 114 = .ok (.getfield 7, 3) := by decide +kernel
theorem d_MM_end_117 : decode b_MM_end 117 = .ok (.ifCond .lt 7, 3) := by decide +kernel
theorem d_MM_end_120 : decode b_MM_end 120 = .ok (.iconst 1, 1) := by decide +kernel
theorem d_MM_end_121 : decode b_MM_end 121 = .ok (.goto 4, 3) := by decide +kernel
theorem d_MM_end_124 : decode b_MM_end 124 = .ok (.iconst 0, 1) := by decide +kernel
theorem d_MM_end_125 : decode b_MM_end 125 = .ok (.iconst 2, 1) := by decide +kernel
theorem d_MM_end_126 : decode b_MM_end 126 = .ok (.invokevirtual 236, 3) := by decide +kernel
theorem d_MM_end_129 : decode b_MM_end 129 = .ok (.ifCond .eq 7, 3) := by decide +kernel
theorem d_MM_end_132 : decode b_MM_end 132 = .ok (.iconst 0, 1) := by decide +kernel
theorem d_MM_end_133 : decode b_MM_end 133 = .ok (.goto 7, 3) := by decide +kernel
theorem d_MM_end_136 : decode b_MM_end 136 = .ok (.aload_n 3, 1) := by decide +kernel
theorem d_MM_end_137 : decode b_MM_end 137 = .ok (.getfield 251, 3) := by decide +kernel
theorem d_MM_end_140 : decode b_MM_end 140 = .ok (.ireturn, 1) := by decide +kernel
theorem d_MM_wrong_0 : decode b_MM_wrong 0 = .ok (.aload_n 0, 1) := by decide +kernel
theorem d_MM_wrong_1 : decode b_MM_wrong 1 = .ok (.iconst 0, 1) := by decide +kernel
theorem d_MM_wrong_2 : decode b_MM_wrong 2 = .ok (.putfield 230, 3) := by decide +kernel
theorem d_MM_wrong_5 : decode b_MM_wrong 5 = .ok (.aload_n 0, 1) := by decide +kernel
theorem d_MM_wrong_6 : decode b_MM_wrong 6 = .ok (.getfield 7, 3) := by decide +kernel
theorem d_MM_wrong_9 : decode b_MM_wrong 9 = .ok (.ireturn, 1) := by decide +kernel
theorem d_MM_p_0 : decode b_MM_p 0 = .ok (.aload_n 0, 1) := by decide +kernel
theorem d_MM_p_1 : decode b_MM_p 1 = .ok (.getfield 254, 3) := by decide +kernel
theorem d_MM_p_4 : decode b_MM_p 4 = .ok (.iload_n 1, 1) := by decide +kernel
theorem d_MM_p_5 : decode b_MM_p 5 = .ok (.iadd, 1) := by decide +kernel
theorem d_MM_p_6 : decode b_MM_p 6 = .ok (.aload_n 0, 1) := by decide +kernel
theorem d_MM_p_7 : decode b_MM_p 7 = .ok (.getfield 257, 3) := by decide +kernel
theorem d_MM_p_10 : decode b_MM_p 10 = .ok (.if_icmp .ge 20, 3) := by decide +kernel
theorem d_MM_p_13 : decode b_MM_p 13 = .ok (.aload_n 0, 1) := by decide +kernel
theorem d_MM_p_14 : decode b_MM_p 14 = .ok (.getfield 260, 3) := by decide +kernel
theorem d_MM_p_17 : decode b_MM_p 17 = .ok (.getfield 263, 3) := by decide +kernel
theorem d_MM_p_20 : decode b_MM_p 20 = .ok (.aload_n 0, 1) := by decide +kernel
theorem d_MM_p_21 : decode b_MM_p 21 = .ok (.getfield 254, 3) := by decide +kernel
theorem d_MM_p_24 : decode b_MM_p 24 = .ok (.iload_n 1, 1) := by decide +kernel
theorem d_MM_p_25 : decode b_MM_p 25 = .ok (.iadd, 1) := by decide +kernel
theorem d_MM_p_26 : decode b_MM_p 26 = .ok (.iaload, 1) := by decide +kernel
theorem d_MM_p_27 : decode b_MM_p 27 = .ok (.goto 4, 3) := by decide +kernel
theorem d_MM_p_30 : decode b_MM_p 30 = .ok (.iconst (-1), 1) := by decide +kernel
theorem d_MM_p_31 : decode b_MM_p 31 = .ok (.ireturn, 1) := by decide +kernel
theorem d_MM_node_0 : decode b_MM_node 0 = .ok (.aload_n 0, 1) := by decide +kernel
theorem d_MM_node_1 : decode b_MM_node 1 = .ok (.getfield 27, 3) := by decide +kernel
theorem d_MM_node_4 : decode b_MM_node 4 = .ok (.aload_n 0, 1) := by decide +kernel
theorem d_MM_node_5 : decode b_MM_node 5 = .ok (.getfield 266, 3) := by decide +kernel
theorem d_MM_node_8 : decode b_MM_node 8 = .ok (.iload_n 1, 1) := by decide +kernel
theorem d_MM_node_9 : decode b_MM_node 9 = .ok (.iastore, 1) := by decide +kernel
theorem d_MM_node_10 : decode b_MM_node 10 = .ok (.aload_n 0, 1) := by decide +kernel
theorem d_MM_node_11 : decode b_MM_node 11 = .ok (.getfield 30, 3) := by decide +kernel
theorem d_MM_node_14 : decode b_MM_node 14 = .ok (.aload_n 0, 1) := by decide +kernel
theorem d_MM_node_15 : decode b_MM_node 15 = .ok (.getfield 266, 3) := by decide +kernel
theorem d_MM_node_18 : decode b_MM_node 18 = .ok (.iload_n 2, 1) := by decide +kernel
theorem d_MM_node_19 : decode b_MM_node 19 = .ok (.iastore, 1) := by decide +kernel
theorem d_MM_node_20 : decode b_MM_node 20 = .ok (.aload_n 0, 1) := by decide +kernel
theorem d_MM_node_21 : decode b_MM_node 21 = .ok (.getfield 33, 3) := by decide +kernel
theorem d_MM_node_24 : decode b_MM_node 24 = .ok (.aload_n 0, 1) := by decide +kernel
theorem d_MM_node_25 : decode b_MM_node 25 = .ok (.getfield 266, 3) := by decide +kernel
theorem d_MM_node_28 : decode b_MM_node 28 = .ok (.iconst 0, 1) := by decide +kernel
theorem d_MM_node_29 : decode b_MM_node 29 = .ok (.iastore, 1) := by decide +kernel
theorem d_MM_node_30 : decode b_MM_node 30 = .ok (.aload_n 0, 1) := by decide +kernel
theorem d_MM_node_31 : decode b_MM_node 31 = .ok (.getfield 36, 3) := by decide +kernel
theorem d_MM_node_34 : decode b_MM_node 34 = .ok (.aload_n 0, 1) := by decide +kernel
theorem d_MM_node_35 : decode b_MM_node 35 = .ok (.getfield 266, 3) := by decide +kernel
theorem d_MM_node_38 : decode b_MM_node 38 = .ok (.iconst 0, 1) := by decide +kernel
theorem d_MM_node_39 : decode b_MM_node 39 = .ok (.iastore, 1) := by decide +kernel
theorem d_MM_node_40 : decode b_MM_node 40 = .ok (.aload_n 0, 1) := by decide +kernel
theorem d_MM_node_41 : decode b_MM_node 41 = .ok (.getfield 39, 3) := by decide +kernel
theorem d_MM_node_44 : decode b_MM_node 44 = .ok (.aload_n 0, 1) := by decide +kernel
theorem d_MM_node_45 : decode b_MM_node 45 = .ok (.getfield 266, 3) := by decide +kernel
theorem d_MM_node_48 : decode b_MM_node 48 = .ok (.iconst (-1), 1) := by decide +kernel
theorem d_MM_node_49 : decode b_MM_node 49 = .ok (.iastore, 1) := by decide +kernel
theorem d_MM_node_50 : decode b_MM_node 50 = .ok (.aload_n 0, 1) := by decide +kernel
theorem d_MM_node_51 : decode b_MM_node 51 = .ok (.dup, 1) := by decide +kernel
theorem d_MM_node_52 : decode b_MM_node 52 = .ok (.getfield 266, 3) := by decide +kernel
theorem d_MM_node_55 : decode b_MM_node 55 = .ok (.dup_x1, 1) := by decide +kernel
theorem d_MM_node_56 : decode b_MM_node 56 = .ok (.iconst 1, 1) := by decide +kernel
theorem d_MM_node_57 : decode b_MM_node 57 = .ok (.iadd, 1) := by decide +kernel
theorem d_MM_node_58 : decode b_MM_node 58 = .ok (.putfield 266, 3) := by decide +kernel
theorem d_MM_node_61 : decode b_MM_node 61 = .ok (.ireturn, 1) := by decide +kernel
theorem d_MM_no_0 : decode b_MM_no 0 = .ok (.aload_n 0, 1) := by decide +kernel
theorem d_MM_no_1 : decode b_MM_no 1 = .ok (.iconst 1, 1) := by decide +kernel
theorem d_MM_no_2 : decode b_MM_no 2 = .ok (.putfield 281, 3) := by decide +kernel
theorem d_MM_no_5 : decode b_MM_no 5 = .ok (.aload_n 0, 1) := by decide +kernel
theorem d_MM_no_6 : decode b_MM_no 6 = .ok (.iconst 0, 1) := by decide +kernel
theorem d_MM_no_7 : decode b_MM_no 7 = .ok (.iconst 0, 1) := by decide +kernel
theorem d_MM_no_8 : decode b_MM_no 8 = .ok (.invokevirtual 304, 3) := by decide +kernel
theorem d_MM_no_11 : decode b_MM_no 11 = .ok (.ireturn, 1) := by decide +kernel
theorem d_MM_begin_0 : decode b_MM_begin 0 = .ok (.aload_n 0, 1) := by decide +kernel
theorem d_MM_begin_1 : decode b_MM_begin 1 = .ok (.getfield 278, 3) := by decide +kernel
theorem d_MM_begin_4 : decode b_MM_begin 4 = .ok (.ireturn, 1) := by decide +kernel
theorem d_MM_range_0 : decode b_MM_range 0 = .ok (.aload_n 0, 1) := by decide +kernel
theorem d_MM_range_1 : decode b_MM_range 1 = .ok (.getfield 43, 3) := by decide +kernel
theorem d_MM_range_4 : decode b_MM_range 4 = .ok (.aload_n 0, 1) := by decide +kernel
theorem d_MM_range_5 : decode b_MM_range 5 = .ok (.getfield 278, 3) := by decide +kernel
theorem d_MM_range_8 : decode b_MM_range 8 = .ok (.iload_n 1, 1) := by decide +kernel
theorem d_MM_range_9 : decode b_MM_range 9 = .ok (.iastore, 1) := by decide +kernel
theorem d_MM_range_10 : decode b_MM_range 10 = .ok (.aload_n 0, 1) := by decide +kernel
theorem d_MM_range_11 : decode b_MM_range 11 = .ok (.getfield 46, 3) := by decide +kernel
theorem d_MM_range_14 : decode b_MM_range 14 = .ok (.aload_n 0, 1) := by decide +kernel
theorem d_MM_range_15 : decode b_MM_range 15 = .ok (.dup, 1) := by decide +kernel
theorem d_MM_range_16 : decode b_MM_range 16 = .ok (.getfield 278, 3) := by decide +kernel
theorem d_MM_range_19 : decode b_MM_range 19 = .ok (.dup_x1, 1) := by decide +kernel
theorem d_MM_range_20 : decode b_MM_range 20 = .ok (.iconst 1, 1) := by decide +kernel
theorem d_MM_range_21 : decode b_MM_range 21 = .ok (.iadd, 1) := by decide +kernel
theorem d_MM_range_22 : decode b_MM_range 22 = .ok (.putfield 278, 3) := by decide +kernel
theorem d_MM_range_25 : decode b_MM_range 25 = .ok (.iload_n 2, 1) := by decide +kernel
theorem d_MM_range_26 : decode b_MM_range 26 = .ok (.iastore, 1) := by decide +kernel
theorem d_MM_range_27 : decode b_MM_range 27 = .ok (.return_, 1) := by decide +kernel
theorem d_MM_set_0 : decode b_MM_set 0 = .ok (.aload_n 0, 1) := by decide +kernel
theorem d_MM_set_1 : decode b_MM_set 1 = .ok (.getfield 278, 3) := by decide +kernel
theorem d_MM_set_4 : decode b_MM_set 4 = .ok (.istore_n 2, 1) := by decide +kernel
theorem d_MM_set_5 : decode b_MM_set 5 = .ok (.iload_n 1, 1) := by decide +kernel
theorem d_MM_set_6 : decode b_MM_set 6 = .ok (.bipush 32, 2) := by decide +kernel
theorem d_MM_set_8 : decode b_MM_set 8 = .ok (.ior, 1) := by decide +kernel
theorem d_MM_set_9 : decode b_MM_set 9 = .ok (.bipush 100, 2) := by decide +kernel
theorem d_MM_set_11 : decode b_MM_set 11 = .ok (.if_icmp .ne 14, 3) := by decide +kernel
theorem d_MM_set_14 : decode b_MM_set 14 = .ok (.aload_n 0, 1) := by decide +kernel
theorem d_MM_set_15 : decode b_MM_set 15 = .ok (.bipush 48, 2) := by decide +kernel
theorem d_MM_set_17 : decode b_MM_set 17 = .ok (.bipush 57, 2) := by decide +kernel
theorem d_MM_set_19 : decode b_MM_set 19 = .ok (.invokevirtual 331, 3) := by decide +kernel
theorem d_MM_set_22 : decode b_MM_set 22 = .ok (.goto 143, 3) := by decide +kernel
theorem d_MM_set_25 : decode b_MM_set 25 = .ok (.iload_n 1, 1) := by decide +kernel
theorem d_MM_set_26 : decode b_MM_set 26 = .ok (.bipush 32, 2) := by decide +kernel
theorem d_MM_set_28 : decode b_MM_set 28 = .ok (.ior, 1) := by decide +kernel
theorem d_MM_set_29 : decode b_MM_set 29 = .ok (.bipush 119, 2) := by decide +kernel
theorem d_MM_set_31 : decode b_MM_set 31 = .ok (.if_icmp .ne 38, 3) := by decide +kernel
theorem d_MM_set_34 : decode b_MM_set 34 = .ok (.aload_n 0, 1) := by decide +kernel
theorem d_MM_set_35 : decode b_MM_set 35 = .ok (.bipush 48, 2) := by decide +kernel
theorem d_MM_set_37 : decode b_MM_set 37 = .ok (.bipush 57, 2) := by decide +kernel
theorem d_MM_set_39 : decode b_MM_set 39 = .ok (.invokevirtual 331, 3) := by decide +kernel
theorem d_MM_set_42 : decode b_MM_set 42 = .ok (.aload_n 0, 1) := by decide +kernel
theorem d_MM_set_43 : decode b_MM_set 43 = .ok (.bipush 65, 2) := by decide +kernel
theorem d_MM_set_45 : decode b_MM_set 45 = .ok (.bipush 90, 2) := by decide +kernel
theorem d_MM_set_47 : decode b_MM_set 47 = .ok (.invokevirtual 331, 3) := by decide +kernel
theorem d_MM_set_50 : decode b_MM_set 50 = .ok (.aload_n 0, 1) := by decide +kernel
theorem d_MM_set_51 : decode b_MM_set 51 = .ok (.bipush 95, 2) := by decide +kernel
theorem d_MM_set_53 : decode b_MM_set 53 = .ok (.bipush 95, 2) := by decide +kernel
theorem d_MM_set_55 : decode b_MM_set 55 = .ok (.invokevirtual 331, 3) := by decide +kernel
theorem d_MM_set_58 : decode b_MM_set 58 = .ok (.aload_n 0, 1) := by decide +kernel
theorem d_MM_set_59 : decode b_MM_set 59 = .ok (.bipush 97, 2) := by decide +kernel
theorem d_MM_set_61 : decode b_MM_set 61 = .ok (.bipush 122, 2) := by decide +kernel
theorem d_MM_set_63 : decode b_MM_set 63 = .ok (.invokevirtual 331, 3) := by decide +kernel
theorem d_MM_set_66 : decode b_MM_set 66 = .ok (.goto 99, 3) := by decide +kernel
theorem d_MM_set_69 : decode b_MM_set 69 = .ok (.aload_n 0, 1) := by decide +kernel
theorem d_MM_set_70 : decode b_MM_set 70 = .ok (.bipush 9, 2) := by decide +kernel
theorem d_MM_set_72 : decode b_MM_set 72 = .ok (.bipush 13, 2) := by decide +kernel
theorem d_MM_set_74 : decode b_MM_set 74 = .ok (.invokevirtual 331, 3) := by decide +kernel
theorem d_MM_set_77 : decode b_MM_set 77 = .ok (.aload_n 0, 1) := by decide +kernel
theorem d_MM_set_78 : decode b_MM_set 78 = .ok (.bipush 32, 2) := by decide +kernel
theorem d_MM_set_80 : decode b_MM_set 80 = .ok (.bipush 32, 2) := by decide +kernel
theorem d_MM_set_82 : decode b_MM_set 82 = .ok (.invokevirtual 331, 3) := by decide +kernel
theorem d_MM_set_85 : decode b_MM_set 85 = .ok (.aload_n 0, 1) := by decide +kernel
theorem d_MM_set_86 : decode b_MM_set 86 = .ok (.sipush 160, 3) := by decide +kernel
theorem d_MM_set_89 : decode b_MM_set 89 = .ok (.sipush 160, 3) := by decide +kernel
theorem d_MM_set_92 : decode b_MM_set 92 = .ok (.invokevirtual 331, 3) := by decide +kernel
theorem d_MM_set_95 : decode b_MM_set 95 = .ok (.aload_n 0, 1) := by decide +kernel
theorem d_MM_set_96 : decode b_MM_set 96 = .ok (.sipush 5760, 3) := by decide +kernel
theorem d_MM_set_99 : decode b_MM_set 99 = .ok (.sipush 5760, 3) := by decide +kernel
theorem d_MM_set_102 : decode b_MM_set 102 = .ok (.invokevirtual 331, 3) := by decide +kernel
theorem d_MM_set_105 : decode b_MM_set 105 = .ok (.aload_n 0, 1) := by decide +kernel
theorem d_MM_set_106 : decode b_MM_set 106 = .ok (.sipush 8192, 3) := by decide +kernel
theorem d_MM_set_109 : decode b_MM_set 109 = .ok (.sipush 8202, 3) := by decide +kernel
theorem d_MM_set_112 : decode b_MM_set 112 = .ok (.invokevirtual 331, 3) := by decide +kernel
theorem d_MM_set_115 : decode b_MM_set 115 = .ok (.aload_n 0, 1) := by decide +kernel
theorem d_MM_set_116 : decode b_MM_set 116 = .ok (.sipush 8232, 3) := by decide +kernel
theorem d_MM_set_119 : decode b_MM_set 119 = .ok (.sipush 8233, 3) := by decide +kernel
theorem d_MM_set_122 : decode b_MM_set 122 = .ok (.invokevirtual 331, 3) := by decide +kernel
theorem d_MM_set_125 : decode b_MM_set 125 = .ok (.aload_n 0, 1) := by decide +kernel
theorem d_MM_set_126 : decode b_MM_set 126 = .ok (.sipush 8239, 3) := by decide +kernel
theorem d_MM_set_129 : decode b_MM_set 129 = .ok (.sipush 8239, 3) := by decide +kernel
theorem d_MM_set_132 : decode b_MM_set 132 = .ok (.invokevirtual 331, 3) := by decide +kernel
theorem d_MM_set_135 : decode b_MM_set 135 = .ok (.aload_n 0, 1) := by decide +kernel
theorem d_MM_set_136 : decode b_MM_set 136 = .ok (.sipush 8287, 3) := by decide +kernel
theorem d_MM_set_139 : decode b_MM_set 139 = .ok (.sipush 8287, 3) := by decide +kernel
theorem d_MM_set_142 : decode b_MM_set 142 = .ok (.invokevirtual 331, 3) := by decide +kernel
theorem d_MM_set_145 : decode b_MM_set 145 = .ok (.aload_n 0, 1) := by decide +kernel
theorem d_MM_set_146 : decode b_MM_set 146 = .ok (.sipush 12288, 3) := by decide +kernel
theorem d_MM_set_149 : decode b_MM_set 149 = .ok (.sipush 12288, 3) := by decide +kernel
theorem d_MM_set_152 : decode b_MM_set 152 = .ok (.invokevirtual 331, 3) := by decide +kernel
theorem d_MM_set_155 : decode b_MM_set 155 = .ok (.aload_n 0, 1) := by decide +kernel
theorem d_MM_set_156 : decode b_MM_set 156 = .ok (.ldc_w 359, 3) := by decide +kernel
theorem d_MM_set_159 : decode b_MM_set 159 = .ok (.ldc_w 359, 3) := by decide +kernel
theorem d_MM_set_162 : decode b_MM_set 162 = .ok (.invokevirtual 331, 3) := by decide +kernel
theorem d_MM_set_165 : decode b_MM_set 165 = .ok (.iload_n 1, 1) := by decide +kernel
theorem d_MM_set_166 : decode b_MM_set 166 = .ok (.bipush 97, 2) := by decide +kernel
theorem d_MM_set_168 : decode b_MM_set 168 = .ok (.if_icmp .lt 4, 3) := by decide +kernel
theorem d_MM_set_171 : decode b_MM_set 171 = .ok (.return_, 1) := by decide +kernel
theorem d_MM_set_172 : decode b_MM_set 172 = .ok (.aload_n 0, 1) := by decide +kernel
theorem d_MM_set_173 : decode b_MM_set 173 = .ok (.getfield 278, 3) := by decide +kernel
theorem d_MM_set_176 : decode b_MM_set 176 = .ok (.iload_n 2, 1) := by decide +kernel
theorem d_MM_set_177 : decode b_MM_set 177 = .ok (.isub, 1) := by decide +kernel
theorem d_MM_set_178 : decode b_MM_set 178 = .ok (.istore_n 3, 1) := by decide +kernel
theorem d_MM_set_179 : decode b_MM_set 179 = .ok (.iconst 0, 1) := by decide +kernel
theorem d_MM_set_180 : decode b_MM_set 180 = .ok (.istore 4, 2) := by decide +kernel
theorem d_MM_set_182 : decode b_MM_set 182 = .ok (.iconst 0, 1) := by decide +kernel
theorem d_MM_set_183 : decode b_MM_set 183 = .ok (.istore 5, 2) := by decide +kernel
theorem d_MM_set_185 : decode b_MM_set 185 = .ok (.iload 5, 2) := by decide +kernel
theorem d_MM_set_187 : decode b_MM_set 187 = .ok (.iload_n 3, 1) := by decide +kernel
theorem d_MM_set_188 : decode b_MM_set 188 = .ok (.if_icmp .ge 61, 3) := by decide +kernel
theorem d_MM_set_191 : decode b_MM_set 191 = .ok (.aload_n 0, 1) := by decide +kernel
theorem d_MM_set_192 : decode b_MM_set 192 = .ok (.getfield 43, 3) := by decide +kernel
theorem d_MM_set_195 : decode b_MM_set 195 = .ok (.iload_n 2, 1) := by decide +kernel
theorem d_MM_set_196 : decode b_MM_set 196 = .ok (.iload 5, 2) := by decide +kernel
theorem d_MM_set_198 : decode b_MM_set 198 = .ok (.iadd, 1) := by decide +kernel
theorem d_MM_set_199 : decode b_MM_set 199 = .ok (.iaload, 1) := by decide +kernel
theorem d_MM_set_200 : decode b_MM_set 200 = .ok (.istore 6, 2) := by decide +kernel
theorem d_MM_set_202 : decode b_MM_set 202 = .ok (.aload_n 0, 1) := by decide +kernel
theorem d_MM_set_203 : decode b_MM_set 203 = .ok (.getfield 46, 3) := by decide +kernel
theorem d_MM_set_206 : decode b_MM_set 206 = .ok (.iload_n 2, 1) := by decide +kernel
theorem d_MM_set_207 : decode b_MM_set 207 = .ok (.iload 5, 2) := by decide +kernel
theorem d_MM_set_209 : decode b_MM_set 209 = .ok (.iadd, 1) := by decide +kernel
theorem d_MM_set_210 : decode b_MM_set 210 = .ok (.iaload, 1) := by decide +kernel
theorem d_MM_set_211 : decode b_MM_set 211 = .ok (.istore 7, 2) := by decide +kernel
theorem d_MM_set_213 : decode b_MM_set 213 = .ok (.aload_n 0, 1) := by decide +kernel
theorem d_MM_set_214 : decode b_MM_set 214 = .ok (.getfield 43, 3) := by decide +kernel
theorem d_MM_set_217 : decode b_MM_set 217 = .ok (.iload_n 2, 1) := by decide +kernel
theorem d_MM_set_218 : decode b_MM_set 218 = .ok (.iload 5, 2) := by decide +kernel
theorem d_MM_set_220 : decode b_MM_set 220 = .ok (.iadd, 1) := by decide +kernel
theorem d_MM_set_221 : decode b_MM_set 221 = .ok (.iload 4, 2) := by decide +kernel
theorem d_MM_set_223 : decode b_MM_set 223 = .ok (.iastore, 1) := by decide +kernel
theorem d_MM_set_224 : decode b_MM_set 224 = .ok (.aload_n 0, 1) := by decide +kernel
theorem d_MM_set_225 : decode b_MM_set 225 = .ok (.getfield 46, 3) := by decide +kernel
theorem d_MM_set_228 : decode b_MM_set 228 = .ok (.iload_n 2, 1) := by decide +kernel
theorem d_MM_set_229 : decode b_MM_set 229 = .ok (.iload 5, 2) := by decide +kernel
theorem d_MM_set_231 : decode b_MM_set 231 = .ok (.iadd, 1) := by decide +kernel
theorem d_MM_set_232 : decode b_MM_set 232 = .ok (.iload 6, 2) := by decide +kernel
theorem d_MM_set_234 : decode b_MM_set 234 = .ok (.iconst 1, 1) := by decide +kernel
theorem d_MM_set_235 : decode b_MM_set 235 = .ok (.isub, 1) := by decide +kernel
theorem d_MM_set_236 : decode b_MM_set 236 = .ok (.iastore, 1) := by decide +kernel
theorem d_MM_set_237 : decode b_MM_set 237 = .ok (.iload 7, 2) := by decide +kernel
theorem d_MM_set_239 : decode b_MM_set 239 = .ok (.iconst 1, 1) := by decide +kernel
theorem d_MM_set_240 : decode b_MM_set 240 = .ok (.iadd, 1) := by decide +kernel
theorem d_MM_set_241 : decode b_MM_set 241 = .ok (.istore 4, 2) := by decide +kernel
theorem d_MM_set_243 : decode b_MM_set 243 = .ok (.iinc 5 1, 3) := by decide +kernel
theorem d_MM_set_246 : decode b_MM_set 246 = .ok (.goto (-61), 3) := by decide +kernel
theorem d_MM_set_249 : decode b_MM_set 249 = .ok (.aload_n 0, 1) := by decide +kernel
theorem d_MM_set_250 : decode b_MM_set 250 = .ok (.iload 4, 2) := by decide +kernel
theorem d_MM_set_252 : decode b_MM_set 252 = .ok (.ldc_w 358, 3) := by decide +kernel
theorem d_MM_set_255 : decode b_MM_set 255 = .ok (.invokevirtual 331, 3) := by decide +kernel
theorem d_MM_set_258 : decode b_MM_set 258 = .ok (.return_, 1) := by decide +kernel
theorem d_MM_hex_0 : decode b_MM_hex 0 = .ok (.iconst 0, 1) := by decide +kernel
theorem d_MM_hex_1 : decode b_MM_hex 1 = .ok (.istore_n 2, 1) := by decide +kernel
theorem d_MM_hex_2 : decode b_MM_hex 2 = .ok (.iconst 0, 1) := by decide +kernel
theorem d_MM_hex_3 : decode b_MM_hex 3 = .ok (.istore_n 3, 1) := by decide +kernel
theorem d_MM_hex_4 : decode b_MM_hex 4 = .ok (.iload_n 3, 1) := by decide +kernel
theorem d_MM_hex_5 : decode b_MM_hex 5 = .ok (.iload_n 1, 1) := by decide +kernel
theorem d_MM_hex_6 : decode b_MM_hex 6 = .ok (.if_icmp .ge 61, 3) := by decide +kernel
theorem d_MM_hex_9 : decode b_MM_hex 9 = .ok (.aload_n 0, 1) := by decide +kernel
theorem d_MM_hex_10 : decode b_MM_hex 10 = .ok (.iconst 0, 1) := by decide +kernel
theorem d_MM_hex_11 : decode b_MM_hex 11 = .ok (.invokevirtual 311, 3) := by decide +kernel
theorem d_MM_hex_14 : decode b_MM_hex 14 = .ok (.ifCond .ge 7, 3) := by decide +kernel
theorem d_MM_hex_17 : decode b_MM_hex 17 = .ok (.iconst (-1), 1) := by decide +kernel
theorem d_MM_hex_18 : decode b_MM_hex 18 = .ok (.goto 11, 3) := by decide +kernel
theorem d_MM_hex_21 : decode b_MM_hex 21 = .ok (.aload_n 0, 1) := by decide +kernel
theorem d_MM_hex_22 : decode b_MM_hex 22 = .ok (.iconst 0, 1) := by decide +kernel
theorem d_MM_hex_23 : decode b_MM_hex 23 = .ok (.invokevirtual 311, 3) := by decide +kernel
theorem d_MM_hex_26 : decode b_MM_hex 26 = .ok (.invokestatic 357, 3) := by decide +kernel
theorem d_MM_hex_29 : decode b_MM_hex 29 = .ok (.istore 4, 2) := by decide +kernel
theorem d_MM_hex_31 : decode b_MM_hex 31 = .ok (.iload 4, 2) := by decide +kernel
theorem d_MM_hex_33 : decode b_MM_hex 33 = .ok (.ifCond .ge 10, 3) := by decide +kernel
theorem d_MM_hex_36 : decode b_MM_hex 36 = .ok (.aload_n 0, 1) := by decide +kernel
theorem d_MM_hex_37 : decode b_MM_hex 37 = .ok (.iconst 1, 1) := by decide +kernel
theorem d_MM_hex_38 : decode b_MM_hex 38 = .ok (.putfield 281, 3) := by decide +kernel
theorem d_MM_hex_41 : decode b_MM_hex 41 = .ok (.iconst 0, 1) := by decide +kernel
theorem d_MM_hex_42 : decode b_MM_hex 42 = .ok (.ireturn, 1) := by decide +kernel
theorem d_MM_hex_43 : decode b_MM_hex 43 = .ok (.bipush 16, 2) := by decide +kernel
theorem d_MM_hex_45 : decode b_MM_hex 45 = .ok (.iload_n 2, 1) := by decide +kernel
theorem d_MM_hex_46 : decode b_MM_hex 46 = .ok (.imul, 1) := by decide +kernel
theorem d_MM_hex_47 : decode b_MM_hex 47 = .ok (.iload 4, 2) := by decide +kernel
theorem d_MM_hex_49 : decode b_MM_hex 49 = .ok (.iadd, 1) := by decide +kernel
theorem d_MM_hex_50 : decode b_MM_hex 50 = .ok (.istore_n 2, 1) := by decide +kernel
theorem d_MM_hex_51 : decode b_MM_hex 51 = .ok (.aload_n 0, 1) := by decide +kernel
theorem d_MM_hex_52 : decode b_MM_hex 52 = .ok (.dup, 1) := by decide +kernel
theorem d_MM_hex_53 : decode b_MM_hex 53 = .ok (.getfield 254, 3) := by decide +kernel
theorem d_MM_hex_56 : decode b_MM_hex 56 = .ok (.iconst 1, 1) := by decide +kernel
theorem d_MM_hex_57 : decode b_MM_hex 57 = .ok (.iadd, 1) := by decide +kernel
theorem d_MM_hex_58 : decode b_MM_hex 58 = .ok (.putfield 254, 3) := by decide +kernel
theorem d_MM_hex_61 : decode b_MM_hex 61 = .ok (.iinc 3 1, 3) := by decide +kernel
theorem d_MM_hex_64 : decode b_MM_hex 64 = .ok (.goto (-60), 3) := by decide +kernel
theorem d_MM_hex_67 : decode b_MM_hex 67 = .ok (.iload_n 2, 1) := by decide +kernel
theorem d_MM_hex_68 : decode b_MM_hex 68 = .ok (.ireturn, 1) := by decide +kernel
theorem d_MM_unicode_0 : decode b_MM_unicode 0 = .ok (.aload_n 0, 1) := by decide +kernel
theorem d_MM_unicode_1 : decode b_MM_unicode 1 = .ok (.iconst 0, 1) := by decide +kernel
theorem d_MM_unicode_2 : decode b_MM_unicode 2 = .ok (.invokevirtual 311, 3) := by decide +kernel
theorem d_MM_unicode_5 : decode b_MM_unicode 5 = .ok (.bipush 123, 2) := by decide +kernel
theorem d_MM_unicode_7 : decode b_MM_unicode 7 = .ok (.if_icmp .eq 9, 3) := by decide +kernel
theorem d_MM_unicode_10 : decode b_MM_unicode 10 = .ok (.aload_n 0, 1) := by decide +kernel
theorem d_MM_unicode_11 : decode b_MM_unicode 11 = .ok (.iconst 4, 1) := by decide +kernel
theorem d_MM_unicode_12 : decode b_MM_unicode 12 = .ok (.invokevirtual 351, 3) := by decide +kernel
theorem d_MM_unicode_15 : decode b_MM_unicode 15 = .ok (.ireturn, 1) := by decide +kernel
theorem d_MM_unicode_16 : decode b_MM_unicode 16 = .ok (.aload_n 0, 1) := by decide +kernel
theorem d_MM_unicode_17 : decode b_MM_unicode 17 = .ok (.dup, 1) := by decide +kernel
theorem d_MM_unicode_18 : decode b_MM_unicode 18 = .ok (.getfield 254, 3) := by decide +kernel
theorem d_MM_unicode_21 : decode b_MM_unicode 21 = .ok (.iconst 1, 1) := by decide +kernel
theorem d_MM_unicode_22 : decode b_MM_unicode 22 = .ok (.iadd, 1) := by decide +kernel
theorem d_MM_unicode_23 : decode b_MM_unicode 23 = .ok (.putfield 254, 3) := by decide +kernel
theorem d_MM_unicode_26 : decode b_MM_unicode 26 = .ok (.iconst 0, 1) := by decide +kernel
theorem d_MM_unicode_27 : decode b_MM_unicode 27 = .ok (.istore_n 1, 1) := by decide +kernel
theorem d_MM_unicode_28 : decode b_MM_unicode 28 = .ok (.iconst 0, 1) := by decide +kernel
theorem d_MM_unicode_29 : decode b_MM_unicode 29 = .ok (.istore_n 2, 1) := by decide +kernel
theorem d_MM_unicode_30 : decode b_MM_unicode 30 = .ok (.aload_n 0, 1) := by decide +kernel
theorem d_MM_unicode_31 : decode b_MM_unicode 31 = .ok (.iconst 0, 1) := by decide +kernel
theorem d_MM_unicode_32 : decode b_MM_unicode 32 = .ok (.invokevirtual 311, 3) := by decide +kernel
theorem d_MM_unicode_35 : decode b_MM_unicode 35 = .ok (.ifCond .lt 58, 3) := by decide +kernel
theorem d_MM_unicode_38 : decode b_MM_unicode 38 = .ok (.aload_n 0, 1) := by decide +kernel
theorem d_MM_unicode_39 : decode b_MM_unicode 39 = .ok (.iconst 0, 1) := by decide +kernel
theorem d_MM_unicode_40 : decode b_MM_unicode 40 = .ok (.invokevirtual 311, 3) := by decide +kernel
theorem d_MM_unicode_43 : decode b_MM_unicode 43 = .ok (.invokestatic 357, 3) := by decide +kernel
theorem d_MM_unicode_46 : decode b_MM_unicode 46 = .ok (.ifCond .lt 47, 3) := by decide +kernel
theorem d_MM_unicode_49 : decode b_MM_unicode 49 = .ok (.bipush 16, 2) := by decide +kernel
theorem d_MM_unicode_51 : decode b_MM_unicode 51 = .ok (.iload_n 1, 1) := by decide +kernel
theorem d_MM_unicode_52 : decode b_MM_unicode 52 = .ok (.imul, 1) := by decide +kernel
theorem d_MM_unicode_53 : decode b_MM_unicode 53 = .ok (.aload_n 0, 1) := by decide +kernel
theorem d_MM_unicode_54 : decode b_MM_unicode 54 = .ok (.iconst 0, 1) := by decide +kernel
theorem d_MM_unicode_55 : decode b_MM_unicode 55 = .ok (.invokevirtual 311, 3) := by decide +kernel
theorem d_MM_unicode_58 : decode b_MM_unicode 58 = .ok (.invokestatic 357, 3) := by decide +kernel
theorem d_MM_unicode_61 : decode b_MM_unicode 61 = .ok (.iadd, 1) := by decide +kernel
theorem d_MM_unicode_62 : decode b_MM_unicode 62 = .ok (.istore_n 1, 1) := by decide +kernel
theorem d_MM_unicode_63 : decode b_MM_unicode 63 = .ok (.iload_n 1, 1) := by decide +kernel
theorem d_MM_unicode_64 : decode b_MM_unicode 64 = .ok (.ldc_w 358, 3) := by decide +kernel
theorem d_MM_unicode_67 : decode b_MM_unicode 67 = .ok (.if_icmp .le 10, 3) := by decide +kernel
theorem d_MM_unicode_70 : decode b_MM_unicode 70 = .ok (.aload_n 0, 1) := by decide +kernel
theorem d_MM_unicode_71 : decode b_MM_unicode 71 = .ok (.iconst 1, 1) := by decide +kernel
theorem d_MM_unicode_72 : decode b_MM_unicode 72 = .ok (.putfield 281, 3) := by decide +kernel
theorem d_MM_unicode_75 : decode b_MM_unicode 75 = .ok (.iconst 0, 1) := by decide +kernel
theorem d_MM_unicode_76 : decode b_MM_unicode 76 = .ok (.ireturn, 1) := by decide +kernel
theorem d_MM_unicode_77 : decode b_MM_unicode 77 = .ok (.aload_n 0, 1) := by decide +kernel
theorem d_MM_unicode_78 : decode b_MM_unicode 78 = .ok (.dup, 1) := by decide +kernel
theorem d_MM_unicode_79 : decode b_MM_unicode 79 = .ok (.getfield 254, 3) := by decide +kernel
theorem d_MM_unicode_82 : decode b_MM_unicode 82 = .ok (.iconst 1, 1) := by decide +kernel
theorem d_MM_unicode_83 : decode b_MM_unicode 83 = .ok (.iadd, 1) := by decide +kernel
theorem d_MM_unicode_84 : decode b_MM_unicode 84 = .ok (.putfield 254, 3) := by decide +kernel
theorem d_MM_unicode_87 : decode b_MM_unicode 87 = .ok (.iinc 2 1, 3) := by decide +kernel
theorem d_MM_unicode_90 : decode b_MM_unicode 90 = .ok (.goto (-60), 3) := by decide +kernel
theorem d_MM_unicode_93 : decode b_MM_unicode 93 = .ok (.iload_n 2, 1) := by decide +kernel
theorem d_MM_unicode_94 : decode b_MM_unicode 94 = .ok (.ifCond .eq 13, 3) := by decide +kernel
theorem d_MM_unicode_97 : decode b_MM_unicode 97 = .ok (.aload_n 0, 1) := by decide +kernel
theorem d_MM_unicode_98 : decode b_MM_unicode 98 = .ok (.iconst 0, 1) := by decide +kernel
theorem d_MM_unicode_99 : decode b_MM_unicode 99 = .ok (.invokevirtual 311, 3) := by decide +kernel
theorem d_MM_unicode_102 : decode b_MM_unicode 102 = .ok (.bipush 125, 2) := by decide +kernel
theorem d_MM_unicode_104 : decode b_MM_unicode 104 = .ok (.if_icmp .eq 10, 3) := by decide +kernel
theorem d_MM_unicode_107 : decode b_MM_unicode 107 = .ok (.aload_n 0, 1) := by decide +kernel
theorem d_MM_unicode_108 : decode b_MM_unicode 108 = .ok (.iconst 1, 1) := by decide +kernel
theorem d_MM_unicode_109 : decode b_MM_unicode 109 = .ok (.putfield 281, 3) := by decide +kernel
theorem d_MM_unicode_112 : decode b_MM_unicode 112 = .ok (.iconst 0, 1) := by decide +kernel
theorem d_MM_unicode_113 : decode b_MM_unicode 113 = .ok (.ireturn, 1) := by decide +kernel
theorem d_MM_unicode_114 : decode b_MM_unicode 114 = .ok (.aload_n 0, 1) := by decide +kernel
theorem d_MM_unicode_115 : decode b_MM_unicode 115 = .ok (.dup, 1) := by decide +kernel
theorem d_MM_unicode_116 : decode b_MM_unicode 116 = .ok (.getfield 254, 3) := by decide +kernel
theorem d_MM_unicode_119 : decode b_MM_unicode 119 = .ok (.iconst 1, 1) := by decide +kernel
theorem d_MM_unicode_120 : decode b_MM_unicode 120 = .ok (.iadd, 1) := by decide +kernel
theorem d_MM_unicode_121 : decode b_MM_unicode 121 = .ok (.putfield 254, 3) := by decide +kernel
theorem d_MM_unicode_124 : decode b_MM_unicode 124 = .ok (.iload_n 1, 1) := by decide +kernel
theorem d_MM_unicode_125 : decode b_MM_unicode 125 = .ok (.ireturn, 1) := by decide +kernel
theorem d_MM_escape_0 : decode b_MM_escape 0 = .ok (.aload_n 0, 1) := by decide +kernel
theorem d_MM_escape_1 : decode b_MM_escape 1 = .ok (.iconst 0, 1) := by decide +kernel
theorem d_MM_escape_2 : decode b_MM_escape 2 = .ok (.invokevirtual 311, 3) := by decide +kernel
theorem d_MM_escape_5 : decode b_MM_escape 5 = .ok (.istore_n 2, 1) := by decide +kernel
theorem d_MM_escape_6 : decode b_MM_escape 6 = .ok (.aload_n 0, 1) := by decide +kernel
theorem d_MM_escape_7 : decode b_MM_escape 7 = .ok (.dup, 1) := by decide +kernel
theorem d_MM_escape_8 : decode b_MM_escape 8 = .ok (.getfield 254, 3) := by decide +kernel
theorem d_MM_escape_11 : decode b_MM_escape 11 = .ok (.iconst 1, 1) := by decide +kernel
theorem d_MM_escape_12 : decode b_MM_escape 12 = .ok (.iadd, 1) := by decide +kernel
theorem d_MM_escape_13 : decode b_MM_escape 13 = .ok (.putfield 254, 3) := by decide +kernel
theorem d_MM_escape_16 : decode b_MM_escape 16 = .ok (.iload_n 2, 1) := by decide +kernel
theorem d_MM_escape_17 : decode b_MM_escape 17 = .ok (.tableswitch 458 36 125 #[456, 458, 458, 458, 456, 456, 456, 456, 458, 444, 456, 456, 397, 458, 458, 458, 458, 458, 458, 458, 458, 458, 458, 458, 458, 458, 458, 456, 458, 458, 458, 458, 375, 458, 458, 458, 458, 458, 458, 458, 458, 458, 458, 458, 458, 458, 458, 375, 458, 458, 458, 375, 458, 458, 458, 456, 456, 456, 456, 458, 458, 458, 430, 458, 375, 458, 391, 458, 458, 458, 458, 458, 458, 458, 385, 458, 458, 458, 394, 375, 382, 425, 388, 375, 419, 458, 458, 456, 456, 456], 375) := by decide +kernel
theorem d_MM_escape_392 : decode b_MM_escape 392 = .ok (.aload_n 0, 1) := by decide +kernel
theorem d_MM_escape_393 : decode b_MM_escape 393 = .ok (.iload_n 2, 1) := by decide +kernel
theorem d_MM_escape_394 : decode b_MM_escape 394 = .ok (.invokevirtual 348, 3) := by decide +kernel
theorem d_MM_escape_397 : decode b_MM_escape 397 = .ok (.iconst (-1), 1) := by decide +kernel
theorem d_MM_escape_398 : decode b_MM_escape 398 = .ok (.ireturn, 1) := by decide +kernel
theorem d_MM_escape_399 : decode b_MM_escape 399 = .ok (.bipush 9, 2) := by decide +kernel
theorem d_MM_escape_401 : decode b_MM_escape 401 = .ok (.ireturn, 1) := by decide +kernel
theorem d_MM_escape_402 : decode b_MM_escape 402 = .ok (.bipush 10, 2) := by decide +kernel
theorem d_MM_escape_404 : decode b_MM_escape 404 = .ok (.ireturn, 1) := by decide +kernel
theorem d_MM_escape_405 : decode b_MM_escape 405 = .ok (.bipush 11, 2) := by decide +kernel
theorem d_MM_escape_407 : decode b_MM_escape 407 = .ok (.ireturn, 1) := by decide +kernel
theorem d_MM_escape_408 : decode b_MM_escape 408 = .ok (.bipush 12, 2) := by decide +kernel
theorem d_MM_escape_410 : decode b_MM_escape 410 = .ok (.ireturn, 1) := by decide +kernel
theorem d_MM_escape_411 : decode b_MM_escape 411 = .ok (.bipush 13, 2) := by decide +kernel
theorem d_MM_escape_413 : decode b_MM_escape 413 = .ok (.ireturn, 1) := by decide +kernel
theorem d_MM_escape_414 : decode b_MM_escape 414 = .ok (.aload_n 0, 1) := by decide +kernel
theorem d_MM_escape_415 : decode b_MM_escape 415 = .ok (.iconst 0, 1) := by decide +kernel
theorem d_MM_escape_416 : decode b_MM_escape 416 = .ok (.invokevirtual 311, 3) := by decide +kernel
theorem d_MM_escape_419 : decode b_MM_escape 419 = .ok (.bipush 48, 2) := by decide +kernel
theorem d_MM_escape_421 : decode b_MM_escape 421 = .ok (.bipush 57, 2) := by decide +kernel
theorem d_MM_escape_423 : decode b_MM_escape 423 = .ok (.invokestatic 344, 3) := by decide +kernel
theorem d_MM_escape_426 : decode b_MM_escape 426 = .ok (.ifCond .eq 8, 3) := by decide +kernel
theorem d_MM_escape_429 : decode b_MM_escape 429 = .ok (.aload_n 0, 1) := by decide +kernel
theorem d_MM_escape_430 : decode b_MM_escape 430 = .ok (.iconst 1, 1) := by decide +kernel
theorem d_MM_escape_431 : decode b_MM_escape 431 = .ok (.putfield 281, 3) := by decide +kernel
theorem d_MM_escape_434 : decode b_MM_escape 434 = .ok (.iconst 0, 1) := by decide +kernel
theorem d_MM_escape_435 : decode b_MM_escape 435 = .ok (.ireturn, 1) := by decide +kernel
theorem d_MM_escape_436 : decode b_MM_escape 436 = .ok (.aload_n 0, 1) := by decide +kernel
theorem d_MM_escape_437 : decode b_MM_escape 437 = .ok (.iconst 2, 1) := by decide +kernel
theorem d_MM_escape_438 : decode b_MM_escape 438 = .ok (.invokevirtual 351, 3) := by decide +kernel
theorem d_MM_escape_441 : decode b_MM_escape 441 = .ok (.ireturn, 1) := by decide +kernel
theorem d_MM_escape_442 : decode b_MM_escape 442 = .ok (.aload_n 0, 1) := by decide +kernel
theorem d_MM_escape_443 : decode b_MM_escape 443 = .ok (.invokevirtual 354, 3) := by decide +kernel
theorem d_MM_escape_446 : decode b_MM_escape 446 = .ok (.ireturn, 1) := by decide +kernel
theorem d_MM_escape_447 : decode b_MM_escape 447 = .ok (.iload_n 1, 1) := by decide +kernel
theorem d_MM_escape_448 : decode b_MM_escape 448 = .ok (.ifCond .eq 6, 3) := by decide +kernel
theorem d_MM_escape_451 : decode b_MM_escape 451 = .ok (.bipush 8, 2) := by decide +kernel
theorem d_MM_escape_453 : decode b_MM_escape 453 = .ok (.ireturn, 1) := by decide +kernel
theorem d_MM_escape_454 : decode b_MM_escape 454 = .ok (.aload_n 0, 1) := by decide +kernel
theorem d_MM_escape_455 : decode b_MM_escape 455 = .ok (.iconst 1, 1) := by decide +kernel
theorem d_MM_escape_456 : decode b_MM_escape 456 = .ok (.putfield 281, 3) := by decide +kernel
theorem d_MM_escape_459 : decode b_MM_escape 459 = .ok (.iconst 0, 1) := by decide +kernel
theorem d_MM_escape_460 : decode b_MM_escape 460 = .ok (.ireturn, 1) := by decide +kernel
theorem d_MM_escape_461 : decode b_MM_escape 461 = .ok (.iload_n 1, 1) := by decide +kernel
theorem d_MM_escape_462 : decode b_MM_escape 462 = .ok (.ifCond .ne 8, 3) := by decide +kernel
theorem d_MM_escape_465 : decode b_MM_escape 465 = .ok (.aload_n 0, 1) := by decide +kernel
theorem d_MM_escape_466 : decode b_MM_escape 466 = .ok (.iconst 1, 1) := by decide +kernel
theorem d_MM_escape_467 : decode b_MM_escape 467 = .ok (.putfield 281, 3) := by decide +kernel
theorem d_MM_escape_470 : decode b_MM_escape 470 = .ok (.bipush 45, 2) := by decide +kernel
theorem d_MM_escape_472 : decode b_MM_escape 472 = .ok (.ireturn, 1) := by decide +kernel
theorem d_MM_escape_473 : decode b_MM_escape 473 = .ok (.iload_n 2, 1) := by decide +kernel
theorem d_MM_escape_474 : decode b_MM_escape 474 = .ok (.ireturn, 1) := by decide +kernel
theorem d_MM_escape_475 : decode b_MM_escape 475 = .ok (.aload_n 0, 1) := by decide +kernel
theorem d_MM_escape_476 : decode b_MM_escape 476 = .ok (.iconst 1, 1) := by decide +kernel
theorem d_MM_escape_477 : decode b_MM_escape 477 = .ok (.putfield 281, 3) := by decide +kernel
theorem d_MM_escape_480 : decode b_MM_escape 480 = .ok (.iconst 0, 1) := by decide +kernel
theorem d_MM_escape_481 : decode b_MM_escape 481 = .ok (.ireturn, 1) := by decide +kernel
theorem d_MM_item_0 : decode b_MM_item 0 = .ok (.aload_n 0, 1) := by decide +kernel
theorem d_MM_item_1 : decode b_MM_item 1 = .ok (.iconst 0, 1) := by decide +kernel
theorem d_MM_item_2 : decode b_MM_item 2 = .ok (.invokevirtual 311, 3) := by decide +kernel
theorem d_MM_item_5 : decode b_MM_item 5 = .ok (.istore_n 1, 1) := by decide +kernel
theorem d_MM_item_6 : decode b_MM_item 6 = .ok (.iload_n 1, 1) := by decide +kernel
theorem d_MM_item_7 : decode b_MM_item 7 = .ok (.bipush 92, 2) := by decide +kernel
theorem d_MM_item_9 : decode b_MM_item 9 = .ok (.if_icmp .eq 15, 3) := by decide +kernel
theorem d_MM_item_12 : decode b_MM_item 12 = .ok (.aload_n 0, 1) := by decide +kernel
theorem d_MM_item_13 : decode b_MM_item 13 = .ok (.dup, 1) := by decide +kernel
theorem d_MM_item_14 : decode b_MM_item 14 = .ok (.getfield 254, 3) := by decide +kernel
theorem d_MM_item_17 : decode b_MM_item 17 = .ok (.iconst 1, 1) := by decide +kernel
theorem d_MM_item_18 : decode b_MM_item 18 = .ok (.iadd, 1) := by decide +kernel
theorem d_MM_item_19 : decode b_MM_item 19 = .ok (.putfield 254, 3) := by decide +kernel
theorem d_MM_item_22 : decode b_MM_item 22 = .ok (.iload_n 1, 1) := by decide +kernel
theorem d_MM_item_23 : decode b_MM_item 23 = .ok (.ireturn, 1) := by decide +kernel
theorem d_MM_item_24 : decode b_MM_item 24 = .ok (.aload_n 0, 1) := by decide +kernel
theorem d_MM_item_25 : decode b_MM_item 25 = .ok (.dup, 1) := by decide +kernel
theorem d_MM_item_26 : decode b_MM_item 26 = .ok (.getfield 254, 3) := by decide +kernel
theorem d_MM_item_29 : decode b_MM_item 29 = .ok (.iconst 1, 1) := by decide +kernel
theorem d_MM_item_30 : decode b_MM_item 30 = .ok (.iadd, 1) := by decide +kernel
theorem d_MM_item_31 : decode b_MM_item 31 = .ok (.putfield 254, 3) := by decide +kernel
theorem d_MM_item_34 : decode b_MM_item 34 = .ok (.aload_n 0, 1) := by decide +kernel
theorem d_MM_item_35 : decode b_MM_item 35 = .ok (.iconst 1, 1) := by decide +kernel
theorem d_MM_item_36 : decode b_MM_item 36 = .ok (.invokevirtual 327, 3) := by decide +kernel
theorem d_MM_item_39 : decode b_MM_item 39 = .ok (.ireturn, 1) := by decide +kernel
theorem d_MM_close_0 : decode b_MM_close 0 = .ok (.aload_n 0, 1) := by decide +kernel
theorem d_MM_close_1 : decode b_MM_close 1 = .ok (.getfield 49, 3) := by decide +kernel
theorem d_MM_close_4 : decode b_MM_close 4 = .ok (.aload_n 0, 1) := by decide +kernel
theorem d_MM_close_5 : decode b_MM_close 5 = .ok (.getfield 275, 3) := by decide +kernel
theorem d_MM_close_8 : decode b_MM_close 8 = .ok (.iload_n 1, 1) := by decide +kernel
theorem d_MM_close_9 : decode b_MM_close 9 = .ok (.iastore, 1) := by decide +kernel
theorem d_MM_close_10 : decode b_MM_close 10 = .ok (.aload_n 0, 1) := by decide +kernel
theorem d_MM_close_11 : decode b_MM_close 11 = .ok (.getfield 52, 3) := by decide +kernel
theorem d_MM_close_14 : decode b_MM_close 14 = .ok (.aload_n 0, 1) := by decide +kernel
theorem d_MM_close_15 : decode b_MM_close 15 = .ok (.getfield 275, 3) := by decide +kernel
theorem d_MM_close_18 : decode b_MM_close 18 = .ok (.aload_n 0, 1) := by decide +kernel
theorem d_MM_close_19 : decode b_MM_close 19 = .ok (.getfield 278, 3) := by decide +kernel
theorem d_MM_close_22 : decode b_MM_close 22 = .ok (.iastore, 1) := by decide +kernel
theorem d_MM_close_23 : decode b_MM_close 23 = .ok (.aload_n 0, 1) := by decide +kernel
theorem d_MM_close_24 : decode b_MM_close 24 = .ok (.getfield 55, 3) := by decide +kernel
theorem d_MM_close_27 : decode b_MM_close 27 = .ok (.aload_n 0, 1) := by decide +kernel
theorem d_MM_close_28 : decode b_MM_close 28 = .ok (.getfield 275, 3) := by decide +kernel
theorem d_MM_close_31 : decode b_MM_close 31 = .ok (.iload_n 2, 1) := by decide +kernel
theorem d_MM_close_32 : decode b_MM_close 32 = .ok (.bastore, 1) := by decide +kernel
theorem d_MM_close_33 : decode b_MM_close 33 = .ok (.aload_n 0, 1) := by decide +kernel
theorem d_MM_close_34 : decode b_MM_close 34 = .ok (.iconst 1, 1) := by decide +kernel
theorem d_MM_close_35 : decode b_MM_close 35 = .ok (.aload_n 0, 1) := by decide +kernel
theorem d_MM_close_36 : decode b_MM_close 36 = .ok (.dup, 1) := by decide +kernel
theorem d_MM_close_37 : decode b_MM_close 37 = .ok (.getfield 275, 3) := by decide +kernel
theorem d_MM_close_40 : decode b_MM_close 40 = .ok (.dup_x1, 1) := by decide +kernel
theorem d_MM_close_41 : decode b_MM_close 41 = .ok (.iconst 1, 1) := by decide +kernel
theorem d_MM_close_42 : decode b_MM_close 42 = .ok (.iadd, 1) := by decide +kernel
theorem d_MM_close_43 : decode b_MM_close 43 = .ok (.putfield 275, 3) := by decide +kernel
theorem d_MM_close_46 : decode b_MM_close 46 = .ok (.invokevirtual 304, 3) := by decide +kernel
theorem d_MM_close_49 : decode b_MM_close 49 = .ok (.ireturn, 1) := by decide +kernel
theorem d_MM_choice_0 : decode b_MM_choice 0 = .ok (.aload_n 0, 1) := by decide +kernel
theorem d_MM_choice_1 : decode b_MM_choice 1 = .ok (.dup, 1) := by decide +kernel
theorem d_MM_choice_2 : decode b_MM_choice 2 = .ok (.getfield 254, 3) := by decide +kernel
theorem d_MM_choice_5 : decode b_MM_choice 5 = .ok (.iconst 1, 1) := by decide +kernel
theorem d_MM_choice_6 : decode b_MM_choice 6 = .ok (.iadd, 1) := by decide +kernel
theorem d_MM_choice_7 : decode b_MM_choice 7 = .ok (.putfield 254, 3) := by decide +kernel
theorem d_MM_choice_10 : decode b_MM_choice 10 = .ok (.aload_n 0, 1) := by decide +kernel
theorem d_MM_choice_11 : decode b_MM_choice 11 = .ok (.iconst 0, 1) := by decide +kernel
theorem d_MM_choice_12 : decode b_MM_choice 12 = .ok (.invokevirtual 311, 3) := by decide +kernel
theorem d_MM_choice_15 : decode b_MM_choice 15 = .ok (.bipush 94, 2) := by decide +kernel
theorem d_MM_choice_17 : decode b_MM_choice 17 = .ok (.if_icmp .ne 7, 3) := by decide +kernel
theorem d_MM_choice_20 : decode b_MM_choice 20 = .ok (.iconst 1, 1) := by decide +kernel
theorem d_MM_choice_21 : decode b_MM_choice 21 = .ok (.goto 4, 3) := by decide +kernel
theorem d_MM_choice_24 : decode b_MM_choice 24 = .ok (.iconst 0, 1) := by decide +kernel
theorem d_MM_choice_25 : decode b_MM_choice 25 = .ok (.istore_n 1, 1) := by decide +kernel
theorem d_MM_choice_26 : decode b_MM_choice 26 = .ok (.iload_n 1, 1) := by decide +kernel
theorem d_MM_choice_27 : decode b_MM_choice 27 = .ok (.ifCond .eq 13, 3) := by decide +kernel
theorem d_MM_choice_30 : decode b_MM_choice 30 = .ok (.aload_n 0, 1) := by decide +kernel
theorem d_MM_choice_31 : decode b_MM_choice 31 = .ok (.dup, 1) := by decide +kernel
theorem d_MM_choice_32 : decode b_MM_choice 32 = .ok (.getfield 254, 3) := by decide +kernel
theorem d_MM_choice_35 : decode b_MM_choice 35 = .ok (.iconst 1, 1) := by decide +kernel
theorem d_MM_choice_36 : decode b_MM_choice 36 = .ok (.iadd, 1) := by decide +kernel
theorem d_MM_choice_37 : decode b_MM_choice 37 = .ok (.putfield 254, 3) := by decide +kernel
theorem d_MM_choice_40 : decode b_MM_choice 40 = .ok (.aload_n 0, 1) := by decide +kernel
theorem d_MM_choice_41 : decode b_MM_choice 41 = .ok (.invokevirtual 324, 3) := by decide +kernel
theorem d_MM_choice_44 : decode b_MM_choice 44 = .ok (.istore_n 2, 1) := by decide +kernel
theorem d_MM_choice_45 : decode b_MM_choice 45 = .ok (.aload_n 0, 1) := by decide +kernel
theorem d_MM_choice_46 : decode b_MM_choice 46 = .ok (.getfield 281, 3) := by decide +kernel
theorem d_MM_choice_49 : decode b_MM_choice 49 = .ok (.ifCond .ne 140, 3) := by decide +kernel
theorem d_MM_choice_52 : decode b_MM_choice 52 = .ok (.aload_n 0, 1) := by decide +kernel
theorem d_MM_choice_53 : decode b_MM_choice 53 = .ok (.iconst 0, 1) := by decide +kernel
theorem d_MM_choice_54 : decode b_MM_choice 54 = .ok (.invokevirtual 311, 3) := by decide +kernel
theorem d_MM_choice_57 : decode b_MM_choice 57 = .ok (.bipush 93, 2) := by decide +kernel
theorem d_MM_choice_59 : decode b_MM_choice 59 = .ok (.if_icmp .eq 130, 3) := by decide +kernel
theorem d_MM_choice_62 : decode b_MM_choice 62 = .ok (.aload_n 0, 1) := by decide +kernel
theorem d_MM_choice_63 : decode b_MM_choice 63 = .ok (.getfield 254, 3) := by decide +kernel
theorem d_MM_choice_66 : decode b_MM_choice 66 = .ok (.aload_n 0, 1) := by decide +kernel
theorem d_MM_choice_67 : decode b_MM_choice 67 = .ok (.getfield 257, 3) := by decide +kernel
theorem d_MM_choice_70 : decode b_MM_choice 70 = .ok (.if_icmp .lt 8, 3) := by decide +kernel
theorem d_MM_choice_73 : decode b_MM_choice 73 = .ok (.aload_n 0, 1) := by decide +kernel
theorem d_MM_choice_74 : decode b_MM_choice 74 = .ok (.invokevirtual 317, 3) := by decide +kernel
theorem d_MM_choice_77 : decode b_MM_choice 77 = .ok (.ireturn, 1) := by decide +kernel
theorem d_MM_choice_78 : decode b_MM_choice 78 = .ok (.aload_n 0, 1) := by decide +kernel
theorem d_MM_choice_79 : decode b_MM_choice 79 = .ok (.invokevirtual 360, 3) := by decide +kernel
theorem d_MM_choice_82 : decode b_MM_choice 82 = .ok (.istore_n 3, 1) := by decide +kernel
theorem d_MM_choice_83 : decode b_MM_choice 83 = .ok (.aload_n 0, 1) := by decide +kernel
theorem d_MM_choice_84 : decode b_MM_choice 84 = .ok (.getfield 281, 3) := by decide +kernel
theorem d_MM_choice_87 : decode b_MM_choice 87 = .ok (.ifCond .eq 8, 3) := by decide +kernel
theorem d_MM_choice_90 : decode b_MM_choice 90 = .ok (.aload_n 0, 1) := by decide +kernel
theorem d_MM_choice_91 : decode b_MM_choice 91 = .ok (.invokevirtual 317, 3) := by decide +kernel
theorem d_MM_choice_94 : decode b_MM_choice 94 = .ok (.ireturn, 1) := by decide +kernel
theorem d_MM_choice_95 : decode b_MM_choice 95 = .ok (.aload_n 0, 1) := by decide +kernel
theorem d_MM_choice_96 : decode b_MM_choice 96 = .ok (.iconst 0, 1) := by decide +kernel
theorem d_MM_choice_97 : decode b_MM_choice 97 = .ok (.invokevirtual 311, 3) := by decide +kernel
theorem d_MM_choice_100 : decode b_MM_choice 100 = .ok (.bipush 45, 2) := by decide +kernel
theorem d_MM_choice_102 : decode b_MM_choice 102 = .ok (.if_icmp .ne 21, 3) := by decide +kernel
theorem d_MM_choice_105 : decode b_MM_choice 105 = .ok (.aload_n 0, 1) := by decide +kernel
theorem d_MM_choice_106 : decode b_MM_choice 106 = .ok (.iconst 1, 1) := by decide +kernel
theorem d_MM_choice_107 : decode b_MM_choice 107 = .ok (.invokevirtual 311, 3) := by decide +kernel
theorem d_MM_choice_110 : decode b_MM_choice 110 = .ok (.bipush 93, 2) := by decide +kernel
theorem d_MM_choice_112 : decode b_MM_choice 112 = .ok (.if_icmp .eq 11, 3) := by decide +kernel
theorem d_MM_choice_115 : decode b_MM_choice 115 = .ok (.aload_n 0, 1) := by decide +kernel
theorem d_MM_choice_116 : decode b_MM_choice 116 = .ok (.iconst 1, 1) := by decide +kernel
theorem d_MM_choice_117 : decode b_MM_choice 117 = .ok (.invokevirtual 311, 3) := by decide +kernel
theorem d_MM_choice_120 : decode b_MM_choice 120 = .ok (.ifCond .ge 16, 3) := by decide +kernel
theorem d_MM_choice_123 : decode b_MM_choice 123 = .ok (.iload_n 3, 1) := by decide +kernel
theorem d_MM_choice_124 : decode b_MM_choice 124 = .ok (.ifCond .lt (-79), 3) := by decide +kernel
theorem d_MM_choice_127 : decode b_MM_choice 127 = .ok (.aload_n 0, 1) := by decide +kernel
theorem d_MM_choice_128 : decode b_MM_choice 128 = .ok (.iload_n 3, 1) := by decide +kernel
theorem d_MM_choice_129 : decode b_MM_choice 129 = .ok (.iload_n 3, 1) := by decide +kernel
theorem d_MM_choice_130 : decode b_MM_choice 130 = .ok (.invokevirtual 331, 3) := by decide +kernel
theorem d_MM_choice_133 : decode b_MM_choice 133 = .ok (.goto (-88), 3) := by decide +kernel
theorem d_MM_choice_136 : decode b_MM_choice 136 = .ok (.aload_n 0, 1) := by decide +kernel
theorem d_MM_choice_137 : decode b_MM_choice 137 = .ok (.dup, 1) := by decide +kernel
theorem d_MM_choice_138 : decode b_MM_choice 138 = .ok (.getfield 254, 3) := by decide +kernel
theorem d_MM_choice_141 : decode b_MM_choice 141 = .ok (.iconst 1, 1) := by decide +kernel
theorem d_MM_choice_142 : decode b_MM_choice 142 = .ok (.iadd, 1) := by decide +kernel
theorem d_MM_choice_143 : decode b_MM_choice 143 = .ok (.putfield 254, 3) := by decide +kernel
theorem d_MM_choice_146 : decode b_MM_choice 146 = .ok (.aload_n 0, 1) := by decide +kernel
theorem d_MM_choice_147 : decode b_MM_choice 147 = .ok (.invokevirtual 360, 3) := by decide +kernel
theorem d_MM_choice_150 : decode b_MM_choice 150 = .ok (.istore 4, 2) := by decide +kernel
theorem d_MM_choice_152 : decode b_MM_choice 152 = .ok (.aload_n 0, 1) := by decide +kernel
theorem d_MM_choice_153 : decode b_MM_choice 153 = .ok (.getfield 281, 3) := by decide +kernel
theorem d_MM_choice_156 : decode b_MM_choice 156 = .ok (.ifCond .ne 18, 3) := by decide +kernel
theorem d_MM_choice_159 : decode b_MM_choice 159 = .ok (.iload_n 3, 1) := by decide +kernel
theorem d_MM_choice_160 : decode b_MM_choice 160 = .ok (.ifCond .lt 14, 3) := by decide +kernel
theorem d_MM_choice_163 : decode b_MM_choice 163 = .ok (.iload 4, 2) := by decide +kernel
theorem d_MM_choice_165 : decode b_MM_choice 165 = .ok (.ifCond .lt 9, 3) := by decide +kernel
theorem d_MM_choice_168 : decode b_MM_choice 168 = .ok (.iload_n 3, 1) := by decide +kernel
theorem d_MM_choice_169 : decode b_MM_choice 169 = .ok (.iload 4, 2) := by decide +kernel
theorem d_MM_choice_171 : decode b_MM_choice 171 = .ok (.if_icmp .le 8, 3) := by decide +kernel
theorem d_MM_choice_174 : decode b_MM_choice 174 = .ok (.aload_n 0, 1) := by decide +kernel
theorem d_MM_choice_175 : decode b_MM_choice 175 = .ok (.invokevirtual 317, 3) := by decide +kernel
theorem d_MM_choice_178 : decode b_MM_choice 178 = .ok (.ireturn, 1) := by decide +kernel
theorem d_MM_choice_179 : decode b_MM_choice 179 = .ok (.aload_n 0, 1) := by decide +kernel
theorem d_MM_choice_180 : decode b_MM_choice 180 = .ok (.iload_n 3, 1) := by decide +kernel
theorem d_MM_choice_181 : decode b_MM_choice 181 = .ok (.iload 4, 2) := by decide +kernel
theorem d_MM_choice_183 : decode b_MM_choice 183 = .ok (.invokevirtual 331, 3) := by decide +kernel
theorem d_MM_choice_186 : decode b_MM_choice 186 = .ok (.goto (-141), 3) := by decide +kernel
theorem d_MM_choice_189 : decode b_MM_choice 189 = .ok (.aload_n 0, 1) := by decide +kernel
