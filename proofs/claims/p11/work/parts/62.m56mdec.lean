theorem d_MM_check_135 : decode b_MM_check 135 = .ok (.iload_n 1, 1) := by decide +kernel
theorem d_MM_check_136 : decode b_MM_check 136 = .ok (.invokevirtual 409, 3) := by decide +kernel
theorem d_MM_check_139 : decode b_MM_check 139 = .ok (.iastore, 1) := by decide +kernel
theorem d_MM_check_140 : decode b_MM_check 140 = .ok (.aload_n 0, 1) := by decide +kernel
theorem d_MM_check_141 : decode b_MM_check 141 = .ok (.getfield 197, 3) := by decide +kernel
theorem d_MM_check_144 : decode b_MM_check 144 = .ok (.iload_n 1, 1) := by decide +kernel
theorem d_MM_check_145 : decode b_MM_check 145 = .ok (.iaload, 1) := by decide +kernel
theorem d_MM_check_146 : decode b_MM_check 146 = .ok (.ifCond .ge 9, 3) := by decide +kernel
theorem d_MM_check_149 : decode b_MM_check 149 = .ok (.aload_n 0, 1) := by decide +kernel
theorem d_MM_check_150 : decode b_MM_check 150 = .ok (.iconst 5, 1) := by decide +kernel
theorem d_MM_check_151 : decode b_MM_check 151 = .ok (.iload_n 1, 1) := by decide +kernel
theorem d_MM_check_152 : decode b_MM_check 152 = .ok (.invokevirtual 412, 3) := by decide +kernel
theorem d_MM_check_155 : decode b_MM_check 155 = .ok (.iinc 1 1, 3) := by decide +kernel
theorem d_MM_check_158 : decode b_MM_check 158 = .ok (.goto (-68), 3) := by decide +kernel
theorem d_MM_check_161 : decode b_MM_check 161 = .ok (.aload_n 0, 1) := by decide +kernel
theorem d_MM_check_162 : decode b_MM_check 162 = .ok (.getfield 394, 3) := by decide +kernel
theorem d_MM_check_165 : decode b_MM_check 165 = .ok (.ifCond .ne 53, 3) := by decide +kernel
theorem d_MM_check_168 : decode b_MM_check 168 = .ok (.iconst 0, 1) := by decide +kernel
theorem d_MM_check_169 : decode b_MM_check 169 = .ok (.istore_n 1, 1) := by decide +kernel
theorem d_MM_check_170 : decode b_MM_check 170 = .ok (.iload_n 1, 1) := by decide +kernel
theorem d_MM_check_171 : decode b_MM_check 171 = .ok (.aload_n 0, 1) := by decide +kernel
theorem d_MM_check_172 : decode b_MM_check 172 = .ok (.getfield 20, 3) := by decide +kernel
theorem d_MM_check_175 : decode b_MM_check 175 = .ok (.getfield 251, 3) := by decide +kernel
theorem d_MM_check_178 : decode b_MM_check 178 = .ok (.if_icmp .ge 40, 3) := by decide +kernel
theorem d_MM_check_181 : decode b_MM_check 181 = .ok (.aload_n 0, 1) := by decide +kernel
theorem d_MM_check_182 : decode b_MM_check 182 = .ok (.getfield 394, 3) := by decide +kernel
theorem d_MM_check_185 : decode b_MM_check 185 = .ok (.ifCond .ne 33, 3) := by decide +kernel
theorem d_MM_check_188 : decode b_MM_check 188 = .ok (.aload_n 0, 1) := by decide +kernel
theorem d_MM_check_189 : decode b_MM_check 189 = .ok (.getfield 212, 3) := by decide +kernel
theorem d_MM_check_192 : decode b_MM_check 192 = .ok (.iload_n 1, 1) := by decide +kernel
theorem d_MM_check_193 : decode b_MM_check 193 = .ok (.baload, 1) := by decide +kernel
theorem d_MM_check_194 : decode b_MM_check 194 = .ok (.ifCond .eq 18, 3) := by decide +kernel
theorem d_MM_check_197 : decode b_MM_check 197 = .ok (.aload_n 0, 1) := by decide +kernel
theorem d_MM_check_198 : decode b_MM_check 198 = .ok (.iload_n 1, 1) := by decide +kernel
theorem d_MM_check_199 : decode b_MM_check 199 = .ok (.invokevirtual 415, 3) := by decide +kernel
theorem d_MM_check_202 : decode b_MM_check 202 = .ok (.ifCond .eq 10, 3) := by decide +kernel
theorem d_MM_check_205 : decode b_MM_check 205 = .ok (.aload_n 0, 1) := by decide +kernel
theorem d_MM_check_206 : decode b_MM_check 206 = .ok (.bipush 6, 2) := by decide +kernel
theorem d_MM_check_208 : decode b_MM_check 208 = .ok (.iload_n 1, 1) := by decide +kernel
theorem d_MM_check_209 : decode b_MM_check 209 = .ok (.invokevirtual 412, 3) := by decide +kernel
theorem d_MM_check_212 : decode b_MM_check 212 = .ok (.iinc 1 1, 3) := by decide +kernel
theorem d_MM_check_215 : decode b_MM_check 215 = .ok (.goto (-45), 3) := by decide +kernel
theorem d_MM_check_218 : decode b_MM_check 218 = .ok (.aload_n 0, 1) := by decide +kernel
theorem d_MM_check_219 : decode b_MM_check 219 = .ok (.aload_n 0, 1) := by decide +kernel
theorem d_MM_check_220 : decode b_MM_check 220 = .ok (.getfield 394, 3) := by decide +kernel
theorem d_MM_check_223 : decode b_MM_check 223 = .ok (.ifCond .ne 7, 3) := by decide +kernel
theorem d_MM_check_226 : decode b_MM_check 226 = .ok (.iconst 1, 1) := by decide +kernel
theorem d_MM_check_227 : decode b_MM_check 227 = .ok (.goto 4, 3) := by decide +kernel
theorem d_MM_check_230 : decode b_MM_check 230 = .ok (.iconst 0, 1) := by decide +kernel
theorem d_MM_check_231 : decode b_MM_check 231 = .ok (.putfield 243, 3) := by decide +kernel
theorem d_MM_check_234 : decode b_MM_check 234 = .ok (.aload_n 0, 1) := by decide +kernel
theorem d_MM_check_235 : decode b_MM_check 235 = .ok (.aload_n 0, 1) := by decide +kernel
theorem d_MM_check_236 : decode b_MM_check 236 = .ok (.getfield 394, 3) := by decide +kernel
theorem d_MM_check_239 : decode b_MM_check 239 = .ok (.ifCond .eq 10, 3) := by decide +kernel
theorem d_MM_check_242 : decode b_MM_check 242 = .ok (.aload_n 0, 1) := by decide +kernel
theorem d_MM_check_243 : decode b_MM_check 243 = .ok (.getfield 397, 3) := by decide +kernel
theorem d_MM_check_246 : decode b_MM_check 246 = .ok (.goto 4, 3) := by decide +kernel
theorem d_MM_check_249 : decode b_MM_check 249 = .ok (.iconst (-1), 1) := by decide +kernel
theorem d_MM_check_250 : decode b_MM_check 250 = .ok (.putfield 191, 3) := by decide +kernel
theorem d_MM_check_253 : decode b_MM_check 253 = .ok (.aload_n 0, 1) := by decide +kernel
theorem d_MM_check_254 : decode b_MM_check 254 = .ok (.getfield 394, 3) := by decide +kernel
theorem d_MM_check_257 : decode b_MM_check 257 = .ok (.ireturn, 1) := by decide +kernel
theorem d_MM_fault_1_0 : decode b_MM_fault_1 0 = .ok (.aload_n 0, 1) := by decide +kernel
theorem d_MM_fault_1_1 : decode b_MM_fault_1 1 = .ok (.iconst 0, 1) := by decide +kernel
theorem d_MM_fault_1_2 : decode b_MM_fault_1 2 = .ok (.putfield 230, 3) := by decide +kernel
theorem d_MM_fault_1_5 : decode b_MM_fault_1 5 = .ok (.aload_n 0, 1) := by decide +kernel
theorem d_MM_fault_1_6 : decode b_MM_fault_1 6 = .ok (.getfield 191, 3) := by decide +kernel
theorem d_MM_fault_1_9 : decode b_MM_fault_1 9 = .ok (.ireturn, 1) := by decide +kernel
theorem d_MM_pair_0 : decode b_MM_pair 0 = .ok (.aload_n 0, 1) := by decide +kernel
theorem d_MM_pair_1 : decode b_MM_pair 1 = .ok (.getfield 494, 3) := by decide +kernel
theorem d_MM_pair_4 : decode b_MM_pair 4 = .ok (.sipush 300, 3) := by decide +kernel
theorem d_MM_pair_7 : decode b_MM_pair 7 = .ok (.if_icmp .ne 4, 3) := by decide +kernel
theorem d_MM_pair_10 : decode b_MM_pair 10 = .ok (.return_, 1) := by decide +kernel
theorem d_MM_pair_11 : decode b_MM_pair 11 = .ok (.aload_n 0, 1) := by decide +kernel
theorem d_MM_pair_12 : decode b_MM_pair 12 = .ok (.getfield 224, 3) := by decide +kernel
theorem d_MM_pair_15 : decode b_MM_pair 15 = .ok (.aload_n 0, 1) := by decide +kernel
theorem d_MM_pair_16 : decode b_MM_pair 16 = .ok (.getfield 494, 3) := by decide +kernel
theorem d_MM_pair_19 : decode b_MM_pair 19 = .ok (.iload_n 1, 1) := by decide +kernel
theorem d_MM_pair_20 : decode b_MM_pair 20 = .ok (.iastore, 1) := by decide +kernel
theorem d_MM_pair_21 : decode b_MM_pair 21 = .ok (.aload_n 0, 1) := by decide +kernel
theorem d_MM_pair_22 : decode b_MM_pair 22 = .ok (.getfield 227, 3) := by decide +kernel
theorem d_MM_pair_25 : decode b_MM_pair 25 = .ok (.aload_n 0, 1) := by decide +kernel
theorem d_MM_pair_26 : decode b_MM_pair 26 = .ok (.dup, 1) := by decide +kernel
theorem d_MM_pair_27 : decode b_MM_pair 27 = .ok (.getfield 494, 3) := by decide +kernel
theorem d_MM_pair_30 : decode b_MM_pair 30 = .ok (.dup_x1, 1) := by decide +kernel
theorem d_MM_pair_31 : decode b_MM_pair 31 = .ok (.iconst 1, 1) := by decide +kernel
theorem d_MM_pair_32 : decode b_MM_pair 32 = .ok (.iadd, 1) := by decide +kernel
theorem d_MM_pair_33 : decode b_MM_pair 33 = .ok (.putfield 494, 3) := by decide +kernel
theorem d_MM_pair_36 : decode b_MM_pair 36 = .ok (.iload_n 2, 1) := by decide +kernel
theorem d_MM_pair_37 : decode b_MM_pair 37 = .ok (.iastore, 1) := by decide +kernel
theorem d_MM_pair_38 : decode b_MM_pair 38 = .ok (.return_, 1) := by decide +kernel
theorem d_MT_member_0 : decode b_MT_member 0 = .ok (.aload_n 0, 1) := by decide +kernel
theorem d_MT_member_1 : decode b_MT_member 1 = .ok (.getfield 30, 3) := by decide +kernel
theorem d_MT_member_4 : decode b_MT_member 4 = .ok (.iload_n 1, 1) := by decide +kernel
theorem d_MT_member_5 : decode b_MT_member 5 = .ok (.iaload, 1) := by decide +kernel
theorem d_MT_member_6 : decode b_MT_member 6 = .ok (.istore_n 3, 1) := by decide +kernel
theorem d_MT_member_7 : decode b_MT_member 7 = .ok (.iload_n 3, 1) := by decide +kernel
theorem d_MT_member_8 : decode b_MT_member 8 = .ok (.ifCond .lt 29, 3) := by decide +kernel
theorem d_MT_member_11 : decode b_MT_member 11 = .ok (.aload_n 0, 1) := by decide +kernel
theorem d_MT_member_12 : decode b_MT_member 12 = .ok (.aload_n 0, 1) := by decide +kernel
theorem d_MT_member_13 : decode b_MT_member 13 = .ok (.getfield 36, 3) := by decide +kernel
theorem d_MT_member_16 : decode b_MT_member 16 = .ok (.iload_n 3, 1) := by decide +kernel
theorem d_MT_member_17 : decode b_MT_member 17 = .ok (.iaload, 1) := by decide +kernel
theorem d_MT_member_18 : decode b_MT_member 18 = .ok (.aload_n 2, 1) := by decide +kernel
theorem d_MT_member_19 : decode b_MT_member 19 = .ok (.invokevirtual 158, 3) := by decide +kernel
theorem d_MT_member_22 : decode b_MT_member 22 = .ok (.ifCond .eq 5, 3) := by decide +kernel
theorem d_MT_member_25 : decode b_MT_member 25 = .ok (.iload_n 3, 1) := by decide +kernel
theorem d_MT_member_26 : decode b_MT_member 26 = .ok (.ireturn, 1) := by decide +kernel
theorem d_MT_member_27 : decode b_MT_member 27 = .ok (.aload_n 0, 1) := by decide +kernel
theorem d_MT_member_28 : decode b_MT_member 28 = .ok (.getfield 33, 3) := by decide +kernel
theorem d_MT_member_31 : decode b_MT_member 31 = .ok (.iload_n 3, 1) := by decide +kernel
theorem d_MT_member_32 : decode b_MT_member 32 = .ok (.iaload, 1) := by decide +kernel
theorem d_MT_member_33 : decode b_MT_member 33 = .ok (.istore_n 3, 1) := by decide +kernel
theorem d_MT_member_34 : decode b_MT_member 34 = .ok (.goto (-27), 3) := by decide +kernel
theorem d_MT_member_37 : decode b_MT_member 37 = .ok (.iconst (-1), 1) := by decide +kernel
theorem d_MT_member_38 : decode b_MT_member 38 = .ok (.ireturn, 1) := by decide +kernel
theorem d_MT_member_1_0 : decode b_MT_member_1 0 = .ok (.aload_n 0, 1) := by decide +kernel
theorem d_MT_member_1_1 : decode b_MT_member_1 1 = .ok (.getfield 30, 3) := by decide +kernel
theorem d_MT_member_1_4 : decode b_MT_member_1 4 = .ok (.iload_n 1, 1) := by decide +kernel
theorem d_MT_member_1_5 : decode b_MT_member_1 5 = .ok (.iaload, 1) := by decide +kernel
theorem d_MT_member_1_6 : decode b_MT_member_1 6 = .ok (.istore 4, 2) := by decide +kernel
theorem d_MT_member_1_8 : decode b_MT_member_1 8 = .ok (.iload 4, 2) := by decide +kernel
theorem d_MT_member_1_10 : decode b_MT_member_1 10 = .ok (.ifCond .lt 34, 3) := by decide +kernel
theorem d_MT_member_1_13 : decode b_MT_member_1 13 = .ok (.aload_n 2, 1) := by decide +kernel
theorem d_MT_member_1_14 : decode b_MT_member_1 14 = .ok (.iload_n 3, 1) := by decide +kernel
theorem d_MT_member_1_15 : decode b_MT_member_1 15 = .ok (.aload_n 0, 1) := by decide +kernel
theorem d_MT_member_1_16 : decode b_MT_member_1 16 = .ok (.aload_n 0, 1) := by decide +kernel
theorem d_MT_member_1_17 : decode b_MT_member_1 17 = .ok (.getfield 36, 3) := by decide +kernel
theorem d_MT_member_1_20 : decode b_MT_member_1 20 = .ok (.iload 4, 2) := by decide +kernel
theorem d_MT_member_1_22 : decode b_MT_member_1 22 = .ok (.iaload, 1) := by decide +kernel
theorem d_MT_member_1_23 : decode b_MT_member_1 23 = .ok (.invokevirtual 132, 3) := by decide +kernel
theorem d_MT_member_1_26 : decode b_MT_member_1 26 = .ok (.ifCond .eq 6, 3) := by decide +kernel
theorem d_MT_member_1_29 : decode b_MT_member_1 29 = .ok (.iload 4, 2) := by decide +kernel
theorem d_MT_member_1_31 : decode b_MT_member_1 31 = .ok (.ireturn, 1) := by decide +kernel
theorem d_MT_member_1_32 : decode b_MT_member_1 32 = .ok (.aload_n 0, 1) := by decide +kernel
theorem d_MT_member_1_33 : decode b_MT_member_1 33 = .ok (.getfield 33, 3) := by decide +kernel
theorem d_MT_member_1_36 : decode b_MT_member_1 36 = .ok (.iload 4, 2) := by decide +kernel
theorem d_MT_member_1_38 : decode b_MT_member_1 38 = .ok (.iaload, 1) := by decide +kernel
theorem d_MT_member_1_39 : decode b_MT_member_1 39 = .ok (.istore 4, 2) := by decide +kernel
theorem d_MT_member_1_41 : decode b_MT_member_1 41 = .ok (.goto (-33), 3) := by decide +kernel
theorem d_MT_member_1_44 : decode b_MT_member_1 44 = .ok (.iconst (-1), 1) := by decide +kernel
theorem d_MT_member_1_45 : decode b_MT_member_1 45 = .ok (.ireturn, 1) := by decide +kernel
theorem d_MT_reaches_0 : decode b_MT_reaches 0 = .ok (.aload_n 0, 1) := by decide +kernel
theorem d_MT_reaches_1 : decode b_MT_reaches 1 = .ok (.getfield 52, 3) := by decide +kernel
theorem d_MT_reaches_4 : decode b_MT_reaches 4 = .ok (.iconst 0, 1) := by decide +kernel
theorem d_MT_reaches_5 : decode b_MT_reaches 5 = .ok (.iaload, 1) := by decide +kernel
theorem d_MT_reaches_6 : decode b_MT_reaches 6 = .ok (.ifCond .le 5, 3) := by decide +kernel
theorem d_MT_reaches_9 : decode b_MT_reaches 9 = .ok (.iconst 1, 1) := by decide +kernel
theorem d_MT_reaches_10 : decode b_MT_reaches 10 = .ok (.ireturn, 1) := by decide +kernel
theorem d_MT_reaches_11 : decode b_MT_reaches 11 = .ok (.iconst 0, 1) := by decide +kernel
theorem d_MT_reaches_12 : decode b_MT_reaches 12 = .ok (.istore 4, 2) := by decide +kernel
theorem d_MT_reaches_14 : decode b_MT_reaches 14 = .ok (.iload 4, 2) := by decide +kernel
theorem d_MT_reaches_16 : decode b_MT_reaches 16 = .ok (.iload_n 3, 1) := by decide +kernel
theorem d_MT_reaches_17 : decode b_MT_reaches 17 = .ok (.if_icmp .ge 59, 3) := by decide +kernel
theorem d_MT_reaches_20 : decode b_MT_reaches 20 = .ok (.aload_n 1, 1) := by decide +kernel
theorem d_MT_reaches_21 : decode b_MT_reaches 21 = .ok (.getfield 45, 3) := by decide +kernel
theorem d_MT_reaches_24 : decode b_MT_reaches 24 = .ok (.aload_n 1, 1) := by decide +kernel
theorem d_MT_reaches_25 : decode b_MT_reaches 25 = .ok (.getfield 39, 3) := by decide +kernel
theorem d_MT_reaches_28 : decode b_MT_reaches 28 = .ok (.iload_n 2, 1) := by decide +kernel
theorem d_MT_reaches_29 : decode b_MT_reaches 29 = .ok (.iaload, 1) := by decide +kernel
theorem d_MT_reaches_30 : decode b_MT_reaches 30 = .ok (.iload 4, 2) := by decide +kernel
theorem d_MT_reaches_32 : decode b_MT_reaches 32 = .ok (.iadd, 1) := by decide +kernel
theorem d_MT_reaches_33 : decode b_MT_reaches 33 = .ok (.iaload, 1) := by decide +kernel
theorem d_MT_reaches_34 : decode b_MT_reaches 34 = .ok (.istore 5, 2) := by decide +kernel
theorem d_MT_reaches_36 : decode b_MT_reaches 36 = .ok (.aload_n 0, 1) := by decide +kernel
theorem d_MT_reaches_37 : decode b_MT_reaches 37 = .ok (.getfield 52, 3) := by decide +kernel
theorem d_MT_reaches_40 : decode b_MT_reaches 40 = .ok (.iload 4, 2) := by decide +kernel
theorem d_MT_reaches_42 : decode b_MT_reaches 42 = .ok (.iconst 1, 1) := by decide +kernel
theorem d_MT_reaches_43 : decode b_MT_reaches 43 = .ok (.iadd, 1) := by decide +kernel
theorem d_MT_reaches_44 : decode b_MT_reaches 44 = .ok (.iaload, 1) := by decide +kernel
theorem d_MT_reaches_45 : decode b_MT_reaches 45 = .ok (.iload 5, 2) := by decide +kernel
theorem d_MT_reaches_47 : decode b_MT_reaches 47 = .ok (.if_icmp .eq 23, 3) := by decide +kernel
theorem d_MT_reaches_50 : decode b_MT_reaches 50 = .ok (.aload_n 0, 1) := by decide +kernel
theorem d_MT_reaches_51 : decode b_MT_reaches 51 = .ok (.getfield 52, 3) := by decide +kernel
theorem d_MT_reaches_54 : decode b_MT_reaches 54 = .ok (.iload 4, 2) := by decide +kernel
theorem d_MT_reaches_56 : decode b_MT_reaches 56 = .ok (.iconst 1, 1) := by decide +kernel
theorem d_MT_reaches_57 : decode b_MT_reaches 57 = .ok (.iadd, 1) := by decide +kernel
theorem d_MT_reaches_58 : decode b_MT_reaches 58 = .ok (.iaload, 1) := by decide +kernel
theorem d_MT_reaches_59 : decode b_MT_reaches 59 = .ok (.iload 5, 2) := by decide +kernel
theorem d_MT_reaches_61 : decode b_MT_reaches 61 = .ok (.if_icmp .le 7, 3) := by decide +kernel
theorem d_MT_reaches_64 : decode b_MT_reaches 64 = .ok (.iconst 1, 1) := by decide +kernel
theorem d_MT_reaches_65 : decode b_MT_reaches 65 = .ok (.goto 4, 3) := by decide +kernel
theorem d_MT_reaches_68 : decode b_MT_reaches 68 = .ok (.iconst 0, 1) := by decide +kernel
theorem d_MT_reaches_69 : decode b_MT_reaches 69 = .ok (.ireturn, 1) := by decide +kernel
theorem d_MT_reaches_70 : decode b_MT_reaches 70 = .ok (.iinc 4 1, 3) := by decide +kernel
theorem d_MT_reaches_73 : decode b_MT_reaches 73 = .ok (.goto (-59), 3) := by decide +kernel
theorem d_MT_reaches_76 : decode b_MT_reaches 76 = .ok (.iconst 1, 1) := by decide +kernel
theorem d_MT_reaches_77 : decode b_MT_reaches 77 = .ok (.ireturn, 1) := by decide +kernel
theorem d_MT_isMultiple_0 : decode b_MT_isMultiple 0 = .ok (.aload_n 0, 1) := by decide +kernel
theorem d_MT_isMultiple_1 : decode b_MT_isMultiple 1 = .ok (.getfield 21, 3) := by decide +kernel
theorem d_MT_isMultiple_4 : decode b_MT_isMultiple 4 = .ok (.iload_n 1, 1) := by decide +kernel
theorem d_MT_isMultiple_5 : decode b_MT_isMultiple 5 = .ok (.iaload, 1) := by decide +kernel
theorem d_MT_isMultiple_6 : decode b_MT_isMultiple 6 = .ok (.ifCond .ne 5, 3) := by decide +kernel
theorem d_MT_isMultiple_9 : decode b_MT_isMultiple 9 = .ok (.iconst 1, 1) := by decide +kernel
theorem d_MT_isMultiple_10 : decode b_MT_isMultiple 10 = .ok (.ireturn, 1) := by decide +kernel
theorem d_MT_isMultiple_11 : decode b_MT_isMultiple 11 = .ok (.aload_n 0, 1) := by decide +kernel
theorem d_MT_isMultiple_12 : decode b_MT_isMultiple 12 = .ok (.getfield 27, 3) := by decide +kernel
theorem d_MT_isMultiple_15 : decode b_MT_isMultiple 15 = .ok (.iload_n 1, 1) := by decide +kernel
theorem d_MT_isMultiple_16 : decode b_MT_isMultiple 16 = .ok (.iaload, 1) := by decide +kernel
theorem d_MT_isMultiple_17 : decode b_MT_isMultiple 17 = .ok (.aload_n 2, 1) := by decide +kernel
theorem d_MT_isMultiple_18 : decode b_MT_isMultiple 18 = .ok (.getfield 27, 3) := by decide +kernel
theorem d_MT_isMultiple_21 : decode b_MT_isMultiple 21 = .ok (.iload_n 3, 1) := by decide +kernel
theorem d_MT_isMultiple_22 : decode b_MT_isMultiple 22 = .ok (.iaload, 1) := by decide +kernel
theorem d_MT_isMultiple_23 : decode b_MT_isMultiple 23 = .ok (.isub, 1) := by decide +kernel
theorem d_MT_isMultiple_24 : decode b_MT_isMultiple 24 = .ok (.istore 4, 2) := by decide +kernel
theorem d_MT_isMultiple_26 : decode b_MT_isMultiple 26 = .ok (.aload_n 2, 1) := by decide +kernel
theorem d_MT_isMultiple_27 : decode b_MT_isMultiple 27 = .ok (.getfield 21, 3) := by decide +kernel
theorem d_MT_isMultiple_30 : decode b_MT_isMultiple 30 = .ok (.iload_n 3, 1) := by decide +kernel
theorem d_MT_isMultiple_31 : decode b_MT_isMultiple 31 = .ok (.iaload, 1) := by decide +kernel
theorem d_MT_isMultiple_32 : decode b_MT_isMultiple 32 = .ok (.istore 5, 2) := by decide +kernel
theorem d_MT_isMultiple_34 : decode b_MT_isMultiple 34 = .ok (.iload 4, 2) := by decide +kernel
theorem d_MT_isMultiple_36 : decode b_MT_isMultiple 36 = .ok (.ifCond .ge 5, 3) := by decide +kernel
theorem d_MT_isMultiple_39 : decode b_MT_isMultiple 39 = .ok (.iconst 0, 1) := by decide +kernel
theorem d_MT_isMultiple_40 : decode b_MT_isMultiple 40 = .ok (.ireturn, 1) := by decide +kernel
theorem d_MT_isMultiple_41 : decode b_MT_isMultiple 41 = .ok (.iconst 0, 1) := by decide +kernel
theorem d_MT_isMultiple_42 : decode b_MT_isMultiple 42 = .ok (.istore 6, 2) := by decide +kernel
theorem d_MT_isMultiple_44 : decode b_MT_isMultiple 44 = .ok (.iload 6, 2) := by decide +kernel
theorem d_MT_isMultiple_46 : decode b_MT_isMultiple 46 = .ok (.iload 5, 2) := by decide +kernel
theorem d_MT_isMultiple_48 : decode b_MT_isMultiple 48 = .ok (.if_icmp .gt 17, 3) := by decide +kernel
theorem d_MT_isMultiple_51 : decode b_MT_isMultiple 51 = .ok (.aload_n 0, 1) := by decide +kernel
theorem d_MT_isMultiple_52 : decode b_MT_isMultiple 52 = .ok (.getfield 52, 3) := by decide +kernel
theorem d_MT_isMultiple_55 : decode b_MT_isMultiple 55 = .ok (.iload 6, 2) := by decide +kernel
theorem d_MT_isMultiple_57 : decode b_MT_isMultiple 57 = .ok (.iconst 0, 1) := by decide +kernel
theorem d_MT_isMultiple_58 : decode b_MT_isMultiple 58 = .ok (.iastore, 1) := by decide +kernel
theorem d_MT_isMultiple_59 : decode b_MT_isMultiple 59 = .ok (.iinc 6 1, 3) := by decide +kernel
theorem d_MT_isMultiple_62 : decode b_MT_isMultiple 62 = .ok (.goto (-18), 3) := by decide +kernel
theorem d_MT_isMultiple_65 : decode b_MT_isMultiple 65 = .ok (.iconst 0, 1) := by decide +kernel
theorem d_MT_isMultiple_66 : decode b_MT_isMultiple 66 = .ok (.istore 6, 2) := by decide +kernel
theorem d_MT_isMultiple_68 : decode b_MT_isMultiple 68 = .ok (.iload 6, 2) := by decide +kernel
theorem d_MT_isMultiple_70 : decode b_MT_isMultiple 70 = .ok (.aload_n 0, 1) := by decide +kernel
theorem d_MT_isMultiple_71 : decode b_MT_isMultiple 71 = .ok (.getfield 21, 3) := by decide +kernel
theorem d_MT_isMultiple_74 : decode b_MT_isMultiple 74 = .ok (.iload_n 1, 1) := by decide +kernel
theorem d_MT_isMultiple_75 : decode b_MT_isMultiple 75 = .ok (.iaload, 1) := by decide +kernel
theorem d_MT_isMultiple_76 : decode b_MT_isMultiple 76 = .ok (.iload 4, 2) := by decide +kernel
theorem d_MT_isMultiple_78 : decode b_MT_isMultiple 78 = .ok (.iadd, 1) := by decide +kernel
theorem d_MT_isMultiple_79 : decode b_MT_isMultiple 79 = .ok (.if_icmp .ge 174, 3) := by decide +kernel
theorem d_MT_isMultiple_82 : decode b_MT_isMultiple 82 = .ok (.iconst 0, 1) := by decide +kernel
theorem d_MT_isMultiple_83 : decode b_MT_isMultiple 83 = .ok (.istore 7, 2) := by decide +kernel
theorem d_MT_isMultiple_85 : decode b_MT_isMultiple 85 = .ok (.iload 7, 2) := by decide +kernel
theorem d_MT_isMultiple_87 : decode b_MT_isMultiple 87 = .ok (.iload 5, 2) := by decide +kernel
theorem d_MT_isMultiple_89 : decode b_MT_isMultiple 89 = .ok (.if_icmp .ge 25, 3) := by decide +kernel
theorem d_MT_isMultiple_92 : decode b_MT_isMultiple 92 = .ok (.aload_n 0, 1) := by decide +kernel
theorem d_MT_isMultiple_93 : decode b_MT_isMultiple 93 = .ok (.getfield 52, 3) := by decide +kernel
theorem d_MT_isMultiple_96 : decode b_MT_isMultiple 96 = .ok (.iload 7, 2) := by decide +kernel
theorem d_MT_isMultiple_98 : decode b_MT_isMultiple 98 = .ok (.aload_n 0, 1) := by decide +kernel
theorem d_MT_isMultiple_99 : decode b_MT_isMultiple 99 = .ok (.getfield 52, 3) := by decide +kernel
theorem d_MT_isMultiple_102 : decode b_MT_isMultiple 102 = .ok (.iload 7, 2) := by decide +kernel
theorem d_MT_isMultiple_104 : decode b_MT_isMultiple 104 = .ok (.iconst 1, 1) := by decide +kernel
theorem d_MT_isMultiple_105 : decode b_MT_isMultiple 105 = .ok (.iadd, 1) := by decide +kernel
theorem d_MT_isMultiple_106 : decode b_MT_isMultiple 106 = .ok (.iaload, 1) := by decide +kernel
theorem d_MT_isMultiple_107 : decode b_MT_isMultiple 107 = .ok (.iastore, 1) := by decide +kernel
theorem d_MT_isMultiple_108 : decode b_MT_isMultiple 108 = .ok (.iinc 7 1, 3) := by decide +kernel
theorem d_MT_isMultiple_111 : decode b_MT_isMultiple 111 = .ok (.goto (-26), 3) := by decide +kernel
theorem d_MT_isMultiple_114 : decode b_MT_isMultiple 114 = .ok (.aload_n 0, 1) := by decide +kernel
theorem d_MT_isMultiple_115 : decode b_MT_isMultiple 115 = .ok (.getfield 52, 3) := by decide +kernel
theorem d_MT_isMultiple_118 : decode b_MT_isMultiple 118 = .ok (.iload 5, 2) := by decide +kernel
theorem d_MT_isMultiple_120 : decode b_MT_isMultiple 120 = .ok (.iload 6, 2) := by decide +kernel
theorem d_MT_isMultiple_122 : decode b_MT_isMultiple 122 = .ok (.aload_n 0, 1) := by decide +kernel
theorem d_MT_isMultiple_123 : decode b_MT_isMultiple 123 = .ok (.getfield 21, 3) := by decide +kernel
theorem d_MT_isMultiple_126 : decode b_MT_isMultiple 126 = .ok (.iload_n 1, 1) := by decide +kernel
theorem d_MT_isMultiple_127 : decode b_MT_isMultiple 127 = .ok (.iaload, 1) := by decide +kernel
theorem d_MT_isMultiple_128 : decode b_MT_isMultiple 128 = .ok (.if_icmp .ge 20, 3) := by decide +kernel
theorem d_MT_isMultiple_131 : decode b_MT_isMultiple 131 = .ok (.aload_n 0, 1) := by decide +kernel
theorem d_MT_isMultiple_132 : decode b_MT_isMultiple 132 = .ok (.getfield 45, 3) := by decide +kernel
theorem d_MT_isMultiple_135 : decode b_MT_isMultiple 135 = .ok (.aload_n 0, 1) := by decide +kernel
theorem d_MT_isMultiple_136 : decode b_MT_isMultiple 136 = .ok (.getfield 39, 3) := by decide +kernel
theorem d_MT_isMultiple_139 : decode b_MT_isMultiple 139 = .ok (.iload_n 1, 1) := by decide +kernel
theorem d_MT_isMultiple_140 : decode b_MT_isMultiple 140 = .ok (.iaload, 1) := by decide +kernel
theorem d_MT_isMultiple_141 : decode b_MT_isMultiple 141 = .ok (.iload 6, 2) := by decide +kernel
theorem d_MT_isMultiple_143 : decode b_MT_isMultiple 143 = .ok (.iadd, 1) := by decide +kernel
theorem d_MT_isMultiple_144 : decode b_MT_isMultiple 144 = .ok (.iaload, 1) := by decide +kernel
theorem d_MT_isMultiple_145 : decode b_MT_isMultiple 145 = .ok (.goto 4, 3) := by decide +kernel
theorem d_MT_isMultiple_148 : decode b_MT_isMultiple 148 = .ok (.iconst 0, 1) := by decide +kernel
theorem d_MT_isMultiple_149 : decode b_MT_isMultiple 149 = .ok (.iastore, 1) := by decide +kernel
theorem d_MT_isMultiple_150 : decode b_MT_isMultiple 150 = .ok (.aload_n 0, 1) := by decide +kernel
theorem d_MT_isMultiple_151 : decode b_MT_isMultiple 151 = .ok (.aload_n 2, 1) := by decide +kernel
theorem d_MT_isMultiple_152 : decode b_MT_isMultiple 152 = .ok (.iload_n 3, 1) := by decide +kernel
theorem d_MT_isMultiple_153 : decode b_MT_isMultiple 153 = .ok (.iload 5, 2) := by decide +kernel
theorem d_MT_isMultiple_155 : decode b_MT_isMultiple 155 = .ok (.invokevirtual 172, 3) := by decide +kernel
theorem d_MT_isMultiple_158 : decode b_MT_isMultiple 158 = .ok (.ifCond .eq 89, 3) := by decide +kernel
theorem d_MT_isMultiple_161 : decode b_MT_isMultiple 161 = .ok (.iconst 0, 1) := by decide +kernel
theorem d_MT_isMultiple_162 : decode b_MT_isMultiple 162 = .ok (.istore 7, 2) := by decide +kernel
theorem d_MT_isMultiple_164 : decode b_MT_isMultiple 164 = .ok (.iload 5, 2) := by decide +kernel
theorem d_MT_isMultiple_166 : decode b_MT_isMultiple 166 = .ok (.istore 8, 2) := by decide +kernel
theorem d_MT_isMultiple_168 : decode b_MT_isMultiple 168 = .ok (.iload 8, 2) := by decide +kernel
theorem d_MT_isMultiple_170 : decode b_MT_isMultiple 170 = .ok (.ifCond .lt 74, 3) := by decide +kernel
theorem d_MT_isMultiple_173 : decode b_MT_isMultiple 173 = .ok (.aload_n 0, 1) := by decide +kernel
theorem d_MT_isMultiple_174 : decode b_MT_isMultiple 174 = .ok (.getfield 52, 3) := by decide +kernel
theorem d_MT_isMultiple_177 : decode b_MT_isMultiple 177 = .ok (.iload 8, 2) := by decide +kernel
theorem d_MT_isMultiple_179 : decode b_MT_isMultiple 179 = .ok (.iaload, 1) := by decide +kernel
theorem d_MT_isMultiple_180 : decode b_MT_isMultiple 180 = .ok (.iload 8, 2) := by decide +kernel
theorem d_MT_isMultiple_182 : decode b_MT_isMultiple 182 = .ok (.ifCond .le 22, 3) := by decide +kernel
theorem d_MT_isMultiple_185 : decode b_MT_isMultiple 185 = .ok (.aload_n 2, 1) := by decide +kernel
theorem d_MT_isMultiple_186 : decode b_MT_isMultiple 186 = .ok (.getfield 45, 3) := by decide +kernel
theorem d_MT_isMultiple_189 : decode b_MT_isMultiple 189 = .ok (.aload_n 2, 1) := by decide +kernel
theorem d_MT_isMultiple_190 : decode b_MT_isMultiple 190 = .ok (.getfield 39, 3) := by decide +kernel
theorem d_MT_isMultiple_193 : decode b_MT_isMultiple 193 = .ok (.iload_n 3, 1) := by decide +kernel
theorem d_MT_isMultiple_194 : decode b_MT_isMultiple 194 = .ok (.iaload, 1) := by decide +kernel
theorem d_MT_isMultiple_195 : decode b_MT_isMultiple 195 = .ok (.iload 8, 2) := by decide +kernel
theorem d_MT_isMultiple_197 : decode b_MT_isMultiple 197 = .ok (.iadd, 1) := by decide +kernel
theorem d_MT_isMultiple_198 : decode b_MT_isMultiple 198 = .ok (.iconst 1, 1) := by decide +kernel
theorem d_MT_isMultiple_199 : decode b_MT_isMultiple 199 = .ok (.isub, 1) := by decide +kernel
theorem d_MT_isMultiple_200 : decode b_MT_isMultiple 200 = .ok (.iaload, 1) := by decide +kernel
theorem d_MT_isMultiple_201 : decode b_MT_isMultiple 201 = .ok (.goto 4, 3) := by decide +kernel
theorem d_MT_isMultiple_204 : decode b_MT_isMultiple 204 = .ok (.iconst 0, 1) := by decide +kernel
theorem d_MT_isMultiple_205 : decode b_MT_isMultiple 205 = .ok (.isub, 1) := by decide +kernel
theorem d_MT_isMultiple_206 : decode b_MT_isMultiple 206 = .ok (.iload 7, 2) := by decide +kernel
theorem d_MT_isMultiple_208 : decode b_MT_isMultiple 208 = .ok (.isub, 1) := by decide +kernel
theorem d_MT_isMultiple_209 : decode b_MT_isMultiple 209 = .ok (.istore 9, 2) := by decide +kernel
theorem d_MT_isMultiple_211 : decode b_MT_isMultiple 211 = .ok (.iload 9, 2) := by decide +kernel
theorem d_MT_isMultiple_213 : decode b_MT_isMultiple 213 = .ok (.ifCond .ge 7, 3) := by decide +kernel
theorem d_MT_isMultiple_216 : decode b_MT_isMultiple 216 = .ok (.iconst 1, 1) := by decide +kernel
theorem d_MT_isMultiple_217 : decode b_MT_isMultiple 217 = .ok (.goto 4, 3) := by decide +kernel
theorem d_MT_isMultiple_220 : decode b_MT_isMultiple 220 = .ok (.iconst 0, 1) := by decide +kernel
theorem d_MT_isMultiple_221 : decode b_MT_isMultiple 221 = .ok (.istore 7, 2) := by decide +kernel
theorem d_MT_isMultiple_223 : decode b_MT_isMultiple 223 = .ok (.aload_n 0, 1) := by decide +kernel
theorem d_MT_isMultiple_224 : decode b_MT_isMultiple 224 = .ok (.getfield 52, 3) := by decide +kernel
theorem d_MT_isMultiple_227 : decode b_MT_isMultiple 227 = .ok (.iload 8, 2) := by decide +kernel
theorem d_MT_isMultiple_229 : decode b_MT_isMultiple 229 = .ok (.iload 9, 2) := by decide +kernel
theorem d_MT_isMultiple_231 : decode b_MT_isMultiple 231 = .ok (.bipush 10, 2) := by decide +kernel
theorem d_MT_isMultiple_233 : decode b_MT_isMultiple 233 = .ok (.iload 7, 2) := by decide +kernel
theorem d_MT_isMultiple_235 : decode b_MT_isMultiple 235 = .ok (.imul, 1) := by decide +kernel
theorem d_MT_isMultiple_236 : decode b_MT_isMultiple 236 = .ok (.iadd, 1) := by decide +kernel
theorem d_MT_isMultiple_237 : decode b_MT_isMultiple 237 = .ok (.iastore, 1) := by decide +kernel
theorem d_MT_isMultiple_238 : decode b_MT_isMultiple 238 = .ok (.iinc 8 (-1), 3) := by decide +kernel
theorem d_MT_isMultiple_241 : decode b_MT_isMultiple 241 = .ok (.goto (-73), 3) := by decide +kernel
theorem d_MT_isMultiple_244 : decode b_MT_isMultiple 244 = .ok (.goto (-94), 3) := by decide +kernel
theorem d_MT_isMultiple_247 : decode b_MT_isMultiple 247 = .ok (.iinc 6 1, 3) := by decide +kernel
theorem d_MT_isMultiple_250 : decode b_MT_isMultiple 250 = .ok (.goto (-182), 3) := by decide +kernel
theorem d_MT_isMultiple_253 : decode b_MT_isMultiple 253 = .ok (.iconst 0, 1) := by decide +kernel
theorem d_MT_isMultiple_254 : decode b_MT_isMultiple 254 = .ok (.istore 6, 2) := by decide +kernel
theorem d_MT_isMultiple_256 : decode b_MT_isMultiple 256 = .ok (.iload 6, 2) := by decide +kernel
theorem d_MT_isMultiple_258 : decode b_MT_isMultiple 258 = .ok (.iload 5, 2) := by decide +kernel
theorem d_MT_isMultiple_260 : decode b_MT_isMultiple 260 = .ok (.if_icmp .gt 21, 3) := by decide +kernel
theorem d_MT_isMultiple_263 : decode b_MT_isMultiple 263 = .ok (.aload_n 0, 1) := by decide +kernel
theorem d_MT_isMultiple_264 : decode b_MT_isMultiple 264 = .ok (.getfield 52, 3) := by decide +kernel
theorem d_MT_isMultiple_267 : decode b_MT_isMultiple 267 = .ok (.iload 6, 2) := by decide +kernel
theorem d_MT_isMultiple_269 : decode b_MT_isMultiple 269 = .ok (.iaload, 1) := by decide +kernel
theorem d_MT_isMultiple_270 : decode b_MT_isMultiple 270 = .ok (.ifCond .eq 5, 3) := by decide +kernel
theorem d_MT_isMultiple_273 : decode b_MT_isMultiple 273 = .ok (.iconst 0, 1) := by decide +kernel
theorem d_MT_isMultiple_274 : decode b_MT_isMultiple 274 = .ok (.ireturn, 1) := by decide +kernel
theorem d_MT_isMultiple_275 : decode b_MT_isMultiple 275 = .ok (.iinc 6 1, 3) := by decide +kernel
theorem d_MT_isMultiple_278 : decode b_MT_isMultiple 278 = .ok (.goto (-22), 3) := by decide +kernel
theorem d_MT_isMultiple_281 : decode b_MT_isMultiple 281 = .ok (.iconst 1, 1) := by decide +kernel
theorem d_MT_isMultiple_282 : decode b_MT_isMultiple 282 = .ok (.ireturn, 1) := by decide +kernel
theorem d_MT_compare_0 : decode b_MT_compare 0 = .ok (.aload_n 0, 1) := by decide +kernel
theorem d_MT_compare_1 : decode b_MT_compare 1 = .ok (.getfield 21, 3) := by decide +kernel
theorem d_MT_compare_4 : decode b_MT_compare 4 = .ok (.iload_n 1, 1) := by decide +kernel
theorem d_MT_compare_5 : decode b_MT_compare 5 = .ok (.iaload, 1) := by decide +kernel
theorem d_MT_compare_6 : decode b_MT_compare 6 = .ok (.ifCond .ne 7, 3) := by decide +kernel
theorem d_MT_compare_9 : decode b_MT_compare 9 = .ok (.iconst 0, 1) := by decide +kernel
theorem d_MT_compare_10 : decode b_MT_compare 10 = .ok (.goto 17, 3) := by decide +kernel
theorem d_MT_compare_13 : decode b_MT_compare 13 = .ok (.aload_n 0, 1) := by decide +kernel
theorem d_MT_compare_14 : decode b_MT_compare 14 = .ok (.getfield 48, 3) := by decide +kernel
theorem d_MT_compare_17 : decode b_MT_compare 17 = .ok (.iload_n 1, 1) := by decide +kernel
theorem d_MT_compare_18 : decode b_MT_compare 18 = .ok (.baload, 1) := by decide +kernel
theorem d_MT_compare_19 : decode b_MT_compare 19 = .ok (.ifCond .eq 7, 3) := by decide +kernel
theorem d_MT_compare_22 : decode b_MT_compare 22 = .ok (.iconst (-1), 1) := by decide +kernel
theorem d_MT_compare_23 : decode b_MT_compare 23 = .ok (.goto 4, 3) := by decide +kernel
theorem d_MT_compare_26 : decode b_MT_compare 26 = .ok (.iconst 1, 1) := by decide +kernel
theorem d_MT_compare_27 : decode b_MT_compare 27 = .ok (.istore 4, 2) := by decide +kernel
theorem d_MT_compare_29 : decode b_MT_compare 29 = .ok (.aload_n 2, 1) := by decide +kernel
theorem d_MT_compare_30 : decode b_MT_compare 30 = .ok (.getfield 21, 3) := by decide +kernel
theorem d_MT_compare_33 : decode b_MT_compare 33 = .ok (.iload_n 3, 1) := by decide +kernel
theorem d_MT_compare_34 : decode b_MT_compare 34 = .ok (.iaload, 1) := by decide +kernel
theorem d_MT_compare_35 : decode b_MT_compare 35 = .ok (.ifCond .ne 7, 3) := by decide +kernel
theorem d_MT_compare_38 : decode b_MT_compare 38 = .ok (.iconst 0, 1) := by decide +kernel
theorem d_MT_compare_39 : decode b_MT_compare 39 = .ok (.goto 17, 3) := by decide +kernel
theorem d_MT_compare_42 : decode b_MT_compare 42 = .ok (.aload_n 2, 1) := by decide +kernel
theorem d_MT_compare_43 : decode b_MT_compare 43 = .ok (.getfield 48, 3) := by decide +kernel
theorem d_MT_compare_46 : decode b_MT_compare 46 = .ok (.iload_n 3, 1) := by decide +kernel
theorem d_MT_compare_47 : decode b_MT_compare 47 = .ok (.baload, 1) := by decide +kernel
theorem d_MT_compare_48 : decode b_MT_compare 48 = .ok (.ifCond .eq 7, 3) := by decide +kernel
theorem d_MT_compare_51 : decode b_MT_compare 51 = .ok (.iconst (-1), 1) := by decide +kernel
theorem d_MT_compare_52 : decode b_MT_compare 52 = .ok (.goto 4, 3) := by decide +kernel
theorem d_MT_compare_55 : decode b_MT_compare 55 = .ok (.iconst 1, 1) := by decide +kernel
theorem d_MT_compare_56 : decode b_MT_compare 56 = .ok (.istore 5, 2) := by decide +kernel
theorem d_MT_compare_58 : decode b_MT_compare 58 = .ok (.iload 4, 2) := by decide +kernel
theorem d_MT_compare_60 : decode b_MT_compare 60 = .ok (.iload 5, 2) := by decide +kernel
theorem d_MT_compare_62 : decode b_MT_compare 62 = .ok (.if_icmp .ne 8, 3) := by decide +kernel
theorem d_MT_compare_65 : decode b_MT_compare 65 = .ok (.iload 4, 2) := by decide +kernel
theorem d_MT_compare_67 : decode b_MT_compare 67 = .ok (.ifCond .ne 27, 3) := by decide +kernel
theorem d_MT_compare_70 : decode b_MT_compare 70 = .ok (.iload 4, 2) := by decide +kernel
theorem d_MT_compare_72 : decode b_MT_compare 72 = .ok (.iload 5, 2) := by decide +kernel
theorem d_MT_compare_74 : decode b_MT_compare 74 = .ok (.if_icmp .ge 7, 3) := by decide +kernel
theorem d_MT_compare_77 : decode b_MT_compare 77 = .ok (.iconst (-1), 1) := by decide +kernel
theorem d_MT_compare_78 : decode b_MT_compare 78 = .ok (.goto 15, 3) := by decide +kernel
theorem d_MT_compare_81 : decode b_MT_compare 81 = .ok (.iload 4, 2) := by decide +kernel
theorem d_MT_compare_83 : decode b_MT_compare 83 = .ok (.iload 5, 2) := by decide +kernel
theorem d_MT_compare_85 : decode b_MT_compare 85 = .ok (.if_icmp .le 7, 3) := by decide +kernel
theorem d_MT_compare_88 : decode b_MT_compare 88 = .ok (.iconst 1, 1) := by decide +kernel
theorem d_MT_compare_89 : decode b_MT_compare 89 = .ok (.goto 4, 3) := by decide +kernel
theorem d_MT_compare_92 : decode b_MT_compare 92 = .ok (.iconst 0, 1) := by decide +kernel
theorem d_MT_compare_93 : decode b_MT_compare 93 = .ok (.ireturn, 1) := by decide +kernel
theorem d_MT_compare_94 : decode b_MT_compare 94 = .ok (.aload_n 0, 1) := by decide +kernel
theorem d_MT_compare_95 : decode b_MT_compare 95 = .ok (.getfield 21, 3) := by decide +kernel
theorem d_MT_compare_98 : decode b_MT_compare 98 = .ok (.iload_n 1, 1) := by decide +kernel
theorem d_MT_compare_99 : decode b_MT_compare 99 = .ok (.iaload, 1) := by decide +kernel
theorem d_MT_compare_100 : decode b_MT_compare 100 = .ok (.aload_n 0, 1) := by decide +kernel
theorem d_MT_compare_101 : decode b_MT_compare 101 = .ok (.getfield 27, 3) := by decide +kernel
theorem d_MT_compare_104 : decode b_MT_compare 104 = .ok (.iload_n 1, 1) := by decide +kernel
theorem d_MT_compare_105 : decode b_MT_compare 105 = .ok (.iaload, 1) := by decide +kernel
theorem d_MT_compare_106 : decode b_MT_compare 106 = .ok (.iadd, 1) := by decide +kernel
theorem d_MT_compare_107 : decode b_MT_compare 107 = .ok (.istore 6, 2) := by decide +kernel
theorem d_MT_compare_109 : decode b_MT_compare 109 = .ok (.aload_n 2, 1) := by decide +kernel
theorem d_MT_compare_110 : decode b_MT_compare 110 = .ok (.getfield 21, 3) := by decide +kernel
theorem d_MT_compare_113 : decode b_MT_compare 113 = .ok (.iload_n 3, 1) := by decide +kernel
theorem d_MT_compare_114 : decode b_MT_compare 114 = .ok (.iaload, 1) := by decide +kernel
theorem d_MT_compare_115 : decode b_MT_compare 115 = .ok (.aload_n 2, 1) := by decide +kernel
theorem d_MT_compare_116 : decode b_MT_compare 116 = .ok (.getfield 27, 3) := by decide +kernel
theorem d_MT_compare_119 : decode b_MT_compare 119 = .ok (.iload_n 3, 1) := by decide +kernel
theorem d_MT_compare_120 : decode b_MT_compare 120 = .ok (.iaload, 1) := by decide +kernel
theorem d_MT_compare_121 : decode b_MT_compare 121 = .ok (.iadd, 1) := by decide +kernel
theorem d_MT_compare_122 : decode b_MT_compare 122 = .ok (.istore 7, 2) := by decide +kernel
theorem d_MT_compare_124 : decode b_MT_compare 124 = .ok (.iload 6, 2) := by decide +kernel
theorem d_MT_compare_126 : decode b_MT_compare 126 = .ok (.iload 7, 2) := by decide +kernel
theorem d_MT_compare_128 : decode b_MT_compare 128 = .ok (.if_icmp .eq 19, 3) := by decide +kernel
theorem d_MT_compare_131 : decode b_MT_compare 131 = .ok (.iload 6, 2) := by decide +kernel
theorem d_MT_compare_133 : decode b_MT_compare 133 = .ok (.iload 7, 2) := by decide +kernel
theorem d_MT_compare_135 : decode b_MT_compare 135 = .ok (.if_icmp .ge 9, 3) := by decide +kernel
theorem d_MT_compare_138 : decode b_MT_compare 138 = .ok (.iload 4, 2) := by decide +kernel
theorem d_MT_compare_140 : decode b_MT_compare 140 = .ok (.ineg, 1) := by decide +kernel
theorem d_MT_compare_141 : decode b_MT_compare 141 = .ok (.goto 5, 3) := by decide +kernel
theorem d_MT_compare_144 : decode b_MT_compare 144 = .ok (.iload 4, 2) := by decide +kernel
theorem d_MT_compare_146 : decode b_MT_compare 146 = .ok (.ireturn, 1) := by decide +kernel
theorem d_MT_compare_147 : decode b_MT_compare 147 = .ok (.iconst 0, 1) := by decide +kernel
theorem d_MT_compare_148 : decode b_MT_compare 148 = .ok (.istore 8, 2) := by decide +kernel
theorem d_MT_compare_150 : decode b_MT_compare 150 = .ok (.iload 8, 2) := by decide +kernel
theorem d_MT_compare_152 : decode b_MT_compare 152 = .ok (.aload_n 0, 1) := by decide +kernel
theorem d_MT_compare_153 : decode b_MT_compare 153 = .ok (.getfield 21, 3) := by decide +kernel
theorem d_MT_compare_156 : decode b_MT_compare 156 = .ok (.iload_n 1, 1) := by decide +kernel
theorem d_MT_compare_157 : decode b_MT_compare 157 = .ok (.iaload, 1) := by decide +kernel
theorem d_MT_compare_158 : decode b_MT_compare 158 = .ok (.if_icmp .lt 14, 3) := by decide +kernel
theorem d_MT_compare_161 : decode b_MT_compare 161 = .ok (.iload 8, 2) := by decide +kernel
theorem d_MT_compare_163 : decode b_MT_compare 163 = .ok (.aload_n 2, 1) := by decide +kernel
theorem d_MT_compare_164 : decode b_MT_compare 164 = .ok (.getfield 21, 3) := by decide +kernel
theorem d_MT_compare_167 : decode b_MT_compare 167 = .ok (.iload_n 3, 1) := by decide +kernel
theorem d_MT_compare_168 : decode b_MT_compare 168 = .ok (.iaload, 1) := by decide +kernel
theorem d_MT_compare_169 : decode b_MT_compare 169 = .ok (.if_icmp .ge 94, 3) := by decide +kernel
theorem d_MT_compare_172 : decode b_MT_compare 172 = .ok (.iload 8, 2) := by decide +kernel
theorem d_MT_compare_174 : decode b_MT_compare 174 = .ok (.aload_n 0, 1) := by decide +kernel
theorem d_MT_compare_175 : decode b_MT_compare 175 = .ok (.getfield 21, 3) := by decide +kernel
theorem d_MT_compare_178 : decode b_MT_compare 178 = .ok (.iload_n 1, 1) := by decide +kernel
theorem d_MT_compare_179 : decode b_MT_compare 179 = .ok (.iaload, 1) := by decide +kernel
theorem d_MT_compare_180 : decode b_MT_compare 180 = .ok (.if_icmp .ge 20, 3) := by decide +kernel
theorem d_MT_compare_183 : decode b_MT_compare 183 = .ok (.aload_n 0, 1) := by decide +kernel
theorem d_MT_compare_184 : decode b_MT_compare 184 = .ok (.getfield 45, 3) := by decide +kernel
theorem d_MT_compare_187 : decode b_MT_compare 187 = .ok (.aload_n 0, 1) := by decide +kernel
theorem d_MT_compare_188 : decode b_MT_compare 188 = .ok (.getfield 39, 3) := by decide +kernel
theorem d_MT_compare_191 : decode b_MT_compare 191 = .ok (.iload_n 1, 1) := by decide +kernel
theorem d_MT_compare_192 : decode b_MT_compare 192 = .ok (.iaload, 1) := by decide +kernel
theorem d_MT_compare_193 : decode b_MT_compare 193 = .ok (.iload 8, 2) := by decide +kernel
theorem d_MT_compare_195 : decode b_MT_compare 195 = .ok (.iadd, 1) := by decide +kernel
theorem d_MT_compare_196 : decode b_MT_compare 196 = .ok (.iaload, 1) := by decide +kernel
theorem d_MT_compare_197 : decode b_MT_compare 197 = .ok (.goto 4, 3) := by decide +kernel
theorem d_MT_compare_200 : decode b_MT_compare 200 = .ok (.iconst 0, 1) := by decide +kernel
theorem d_MT_compare_201 : decode b_MT_compare 201 = .ok (.istore 9, 2) := by decide +kernel
theorem d_MT_compare_203 : decode b_MT_compare 203 = .ok (.iload 8, 2) := by decide +kernel
theorem d_MT_compare_205 : decode b_MT_compare 205 = .ok (.aload_n 2, 1) := by decide +kernel
theorem d_MT_compare_206 : decode b_MT_compare 206 = .ok (.getfield 21, 3) := by decide +kernel
theorem d_MT_compare_209 : decode b_MT_compare 209 = .ok (.iload_n 3, 1) := by decide +kernel
theorem d_MT_compare_210 : decode b_MT_compare 210 = .ok (.iaload, 1) := by decide +kernel
theorem d_MT_compare_211 : decode b_MT_compare 211 = .ok (.if_icmp .ge 20, 3) := by decide +kernel
theorem d_MT_compare_214 : decode b_MT_compare 214 = .ok (.aload_n 2, 1) := by decide +kernel
theorem d_MT_compare_215 : decode b_MT_compare 215 = .ok (.getfield 45, 3) := by decide +kernel
theorem d_MT_compare_218 : decode b_MT_compare 218 = .ok (.aload_n 2, 1) := by decide +kernel
theorem d_MT_compare_219 : decode b_MT_compare 219 = .ok (.getfield 39, 3) := by decide +kernel
theorem d_MT_compare_222 : decode b_MT_compare 222 = .ok (.iload_n 3, 1) := by decide +kernel
theorem d_MT_compare_223 : decode b_MT_compare 223 = .ok (.iaload, 1) := by decide +kernel
theorem d_MT_compare_224 : decode b_MT_compare 224 = .ok (.iload 8, 2) := by decide +kernel
theorem d_MT_compare_226 : decode b_MT_compare 226 = .ok (.iadd, 1) := by decide +kernel
theorem d_MT_compare_227 : decode b_MT_compare 227 = .ok (.iaload, 1) := by decide +kernel
theorem d_MT_compare_228 : decode b_MT_compare 228 = .ok (.goto 4, 3) := by decide +kernel
theorem d_MT_compare_231 : decode b_MT_compare 231 = .ok (.iconst 0, 1) := by decide +kernel
theorem d_MT_compare_232 : decode b_MT_compare 232 = .ok (.istore 10, 2) := by decide +kernel
theorem d_MT_compare_234 : decode b_MT_compare 234 = .ok (.iload 9, 2) := by decide +kernel
theorem d_MT_compare_236 : decode b_MT_compare 236 = .ok (.iload 10, 2) := by decide +kernel
theorem d_MT_compare_238 : decode b_MT_compare 238 = .ok (.if_icmp .eq 19, 3) := by decide +kernel
theorem d_MT_compare_241 : decode b_MT_compare 241 = .ok (.iload 9, 2) := by decide +kernel
theorem d_MT_compare_243 : decode b_MT_compare 243 = .ok (.iload 10, 2) := by decide +kernel
theorem d_MT_compare_245 : decode b_MT_compare 245 = .ok (.if_icmp .ge 9, 3) := by decide +kernel
theorem d_MT_compare_248 : decode b_MT_compare 248 = .ok (.iload 4, 2) := by decide +kernel
theorem d_MT_compare_250 : decode b_MT_compare 250 = .ok (.ineg, 1) := by decide +kernel
theorem d_MT_compare_251 : decode b_MT_compare 251 = .ok (.goto 5, 3) := by decide +kernel
theorem d_MT_compare_254 : decode b_MT_compare 254 = .ok (.iload 4, 2) := by decide +kernel
theorem d_MT_compare_256 : decode b_MT_compare 256 = .ok (.ireturn, 1) := by decide +kernel
theorem d_MT_compare_257 : decode b_MT_compare 257 = .ok (.iinc 8 1, 3) := by decide +kernel
theorem d_MT_compare_260 : decode b_MT_compare 260 = .ok (.goto (-110), 3) := by decide +kernel
theorem d_MT_compare_263 : decode b_MT_compare 263 = .ok (.iconst 0, 1) := by decide +kernel
theorem d_MT_compare_264 : decode b_MT_compare 264 = .ok (.ireturn, 1) := by decide +kernel
theorem d_MM_number_1_0 : decode b_MM_number_1 0 = .ok (.iload_n 1, 1) := by decide +kernel
theorem d_MM_number_1_1 : decode b_MM_number_1 1 = .ok (.bipush 22, 2) := by decide +kernel
theorem d_MM_number_1_3 : decode b_MM_number_1 3 = .ok (.if_icmp .ne 17, 3) := by decide +kernel
theorem d_MM_number_1_6 : decode b_MM_number_1 6 = .ok (.aload_n 0, 1) := by decide +kernel
theorem d_MM_number_1_7 : decode b_MM_number_1 7 = .ok (.getfield 24, 3) := by decide +kernel
theorem d_MM_number_1_10 : decode b_MM_number_1 10 = .ok (.iload_n 3, 1) := by decide +kernel
theorem d_MM_number_1_11 : decode b_MM_number_1 11 = .ok (.aload_n 0, 1) := by decide +kernel
theorem d_MM_number_1_12 : decode b_MM_number_1 12 = .ok (.getfield 20, 3) := by decide +kernel
theorem d_MM_number_1_15 : decode b_MM_number_1 15 = .ok (.iload_n 2, 1) := by decide +kernel
theorem d_MM_number_1_16 : decode b_MM_number_1 16 = .ok (.invokevirtual 557, 3) := by decide +kernel
theorem d_MM_number_1_19 : decode b_MM_number_1 19 = .ok (.ireturn, 1) := by decide +kernel
theorem d_MM_number_1_20 : decode b_MM_number_1 20 = .ok (.aload_n 0, 1) := by decide +kernel
theorem d_MM_number_1_21 : decode b_MM_number_1 21 = .ok (.getfield 24, 3) := by decide +kernel
theorem d_MM_number_1_24 : decode b_MM_number_1 24 = .ok (.iload_n 3, 1) := by decide +kernel
theorem d_MM_number_1_25 : decode b_MM_number_1 25 = .ok (.aload_n 0, 1) := by decide +kernel
theorem d_MM_number_1_26 : decode b_MM_number_1 26 = .ok (.getfield 20, 3) := by decide +kernel
theorem d_MM_number_1_29 : decode b_MM_number_1 29 = .ok (.iload_n 2, 1) := by decide +kernel
theorem d_MM_number_1_30 : decode b_MM_number_1 30 = .ok (.invokevirtual 560, 3) := by decide +kernel
theorem d_MM_number_1_33 : decode b_MM_number_1 33 = .ok (.istore 4, 2) := by decide +kernel
theorem d_MM_number_1_35 : decode b_MM_number_1 35 = .ok (.iload_n 1, 1) := by decide +kernel
theorem d_MM_number_1_36 : decode b_MM_number_1 36 = .ok (.bipush 18, 2) := by decide +kernel
theorem d_MM_number_1_38 : decode b_MM_number_1 38 = .ok (.if_icmp .ne 16, 3) := by decide +kernel
theorem d_MM_number_1_41 : decode b_MM_number_1 41 = .ok (.iload 4, 2) := by decide +kernel
theorem d_MM_number_1_43 : decode b_MM_number_1 43 = .ok (.ifCond .gt 7, 3) := by decide +kernel
theorem d_MM_number_1_46 : decode b_MM_number_1 46 = .ok (.iconst 1, 1) := by decide +kernel
theorem d_MM_number_1_47 : decode b_MM_number_1 47 = .ok (.goto 55, 3) := by decide +kernel
theorem d_MM_number_1_50 : decode b_MM_number_1 50 = .ok (.iconst 0, 1) := by decide +kernel
theorem d_MM_number_1_51 : decode b_MM_number_1 51 = .ok (.goto 51, 3) := by decide +kernel
theorem d_MM_number_1_54 : decode b_MM_number_1 54 = .ok (.iload_n 1, 1) := by decide +kernel
theorem d_MM_number_1_55 : decode b_MM_number_1 55 = .ok (.bipush 19, 2) := by decide +kernel
theorem d_MM_number_1_57 : decode b_MM_number_1 57 = .ok (.if_icmp .ne 16, 3) := by decide +kernel
theorem d_MM_number_1_60 : decode b_MM_number_1 60 = .ok (.iload 4, 2) := by decide +kernel
theorem d_MM_number_1_62 : decode b_MM_number_1 62 = .ok (.ifCond .ge 7, 3) := by decide +kernel
theorem d_MM_number_1_65 : decode b_MM_number_1 65 = .ok (.iconst 1, 1) := by decide +kernel
theorem d_MM_number_1_66 : decode b_MM_number_1 66 = .ok (.goto 36, 3) := by decide +kernel
theorem d_MM_number_1_69 : decode b_MM_number_1 69 = .ok (.iconst 0, 1) := by decide +kernel
theorem d_MM_number_1_70 : decode b_MM_number_1 70 = .ok (.goto 32, 3) := by decide +kernel
theorem d_MM_number_1_73 : decode b_MM_number_1 73 = .ok (.iload_n 1, 1) := by decide +kernel
theorem d_MM_number_1_74 : decode b_MM_number_1 74 = .ok (.bipush 20, 2) := by decide +kernel
theorem d_MM_number_1_76 : decode b_MM_number_1 76 = .ok (.if_icmp .ne 16, 3) := by decide +kernel
theorem d_MM_number_1_79 : decode b_MM_number_1 79 = .ok (.iload 4, 2) := by decide +kernel
theorem d_MM_number_1_81 : decode b_MM_number_1 81 = .ok (.ifCond .lt 7, 3) := by decide +kernel
theorem d_MM_number_1_84 : decode b_MM_number_1 84 = .ok (.iconst 1, 1) := by decide +kernel
theorem d_MM_number_1_85 : decode b_MM_number_1 85 = .ok (.goto 17, 3) := by decide +kernel
theorem d_MM_number_1_88 : decode b_MM_number_1 88 = .ok (.iconst 0, 1) := by decide +kernel
theorem d_MM_number_1_89 : decode b_MM_number_1 89 = .ok (.goto 13, 3) := by decide +kernel
theorem d_MM_number_1_92 : decode b_MM_number_1 92 = .ok (.iload 4, 2) := by decide +kernel
theorem d_MM_number_1_94 : decode b_MM_number_1 94 = .ok (.ifCond .le 7, 3) := by decide +kernel
theorem d_MM_number_1_97 : decode b_MM_number_1 97 = .ok (.iconst 1, 1) := by decide +kernel
theorem d_MM_number_1_98 : decode b_MM_number_1 98 = .ok (.goto 4, 3) := by decide +kernel
theorem d_MM_number_1_101 : decode b_MM_number_1 101 = .ok (.iconst 0, 1) := by decide +kernel
theorem d_MM_number_1_102 : decode b_MM_number_1 102 = .ok (.ireturn, 1) := by decide +kernel
theorem d_MM_has_0 : decode b_MM_has 0 = .ok (.aload_n 0, 1) := by decide +kernel
theorem d_MM_has_1 : decode b_MM_has 1 = .ok (.getfield 24, 3) := by decide +kernel
theorem d_MM_has_4 : decode b_MM_has 4 = .ok (.getfield 419, 3) := by decide +kernel
theorem d_MM_has_7 : decode b_MM_has 7 = .ok (.iload_n 2, 1) := by decide +kernel
theorem d_MM_has_8 : decode b_MM_has 8 = .ok (.iaload, 1) := by decide +kernel
theorem d_MM_has_9 : decode b_MM_has 9 = .ok (.istore 4, 2) := by decide +kernel
theorem d_MM_has_11 : decode b_MM_has 11 = .ok (.aload_n 0, 1) := by decide +kernel
theorem d_MM_has_12 : decode b_MM_has 12 = .ok (.iload_n 1, 1) := by decide +kernel
theorem d_MM_has_13 : decode b_MM_has 13 = .ok (.invokevirtual 472, 3) := by decide +kernel
theorem d_MM_has_16 : decode b_MM_has 16 = .ok (.tableswitch 118 0 5 #[40, 51, 69, 82, 94, 106], 40) := by decide +kernel
theorem d_MM_has_56 : decode b_MM_has 56 = .ok (.iload 4, 2) := by decide +kernel
theorem d_MM_has_58 : decode b_MM_has 58 = .ok (.ifCond .ne 7, 3) := by decide +kernel
theorem d_MM_has_61 : decode b_MM_has 61 = .ok (.iconst 1, 1) := by decide +kernel
theorem d_MM_has_62 : decode b_MM_has 62 = .ok (.goto 4, 3) := by decide +kernel
theorem d_MM_has_65 : decode b_MM_has 65 = .ok (.iconst 0, 1) := by decide +kernel
theorem d_MM_has_66 : decode b_MM_has 66 = .ok (.ireturn, 1) := by decide +kernel
theorem d_MM_has_67 : decode b_MM_has 67 = .ok (.iload 4, 2) := by decide +kernel
theorem d_MM_has_69 : decode b_MM_has 69 = .ok (.iconst 1, 1) := by decide +kernel
theorem d_MM_has_70 : decode b_MM_has 70 = .ok (.if_icmp .eq 9, 3) := by decide +kernel
theorem d_MM_has_73 : decode b_MM_has 73 = .ok (.iload 4, 2) := by decide +kernel
theorem d_MM_has_75 : decode b_MM_has 75 = .ok (.iconst 2, 1) := by decide +kernel
theorem d_MM_has_76 : decode b_MM_has 76 = .ok (.if_icmp .ne 7, 3) := by decide +kernel
theorem d_MM_has_79 : decode b_MM_has 79 = .ok (.iconst 1, 1) := by decide +kernel
theorem d_MM_has_80 : decode b_MM_has 80 = .ok (.goto 4, 3) := by decide +kernel
theorem d_MM_has_83 : decode b_MM_has 83 = .ok (.iconst 0, 1) := by decide +kernel
theorem d_MM_has_84 : decode b_MM_has 84 = .ok (.ireturn, 1) := by decide +kernel
theorem d_MM_has_85 : decode b_MM_has 85 = .ok (.iload 4, 2) := by decide +kernel
theorem d_MM_has_87 : decode b_MM_has 87 = .ok (.bipush 6, 2) := by decide +kernel
theorem d_MM_has_89 : decode b_MM_has 89 = .ok (.if_icmp .ne 7, 3) := by decide +kernel
theorem d_MM_has_92 : decode b_MM_has 92 = .ok (.iconst 1, 1) := by decide +kernel
theorem d_MM_has_93 : decode b_MM_has 93 = .ok (.goto 4, 3) := by decide +kernel
theorem d_MM_has_96 : decode b_MM_has 96 = .ok (.iconst 0, 1) := by decide +kernel
theorem d_MM_has_97 : decode b_MM_has 97 = .ok (.ireturn, 1) := by decide +kernel
theorem d_MM_has_98 : decode b_MM_has 98 = .ok (.iload 4, 2) := by decide +kernel
theorem d_MM_has_100 : decode b_MM_has 100 = .ok (.iconst 5, 1) := by decide +kernel
theorem d_MM_has_101 : decode b_MM_has 101 = .ok (.if_icmp .ne 7, 3) := by decide +kernel
theorem d_MM_has_104 : decode b_MM_has 104 = .ok (.iconst 1, 1) := by decide +kernel
theorem d_MM_has_105 : decode b_MM_has 105 = .ok (.goto 4, 3) := by decide +kernel
theorem d_MM_has_108 : decode b_MM_has 108 = .ok (.iconst 0, 1) := by decide +kernel
theorem d_MM_has_109 : decode b_MM_has 109 = .ok (.ireturn, 1) := by decide +kernel
theorem d_MM_has_110 : decode b_MM_has 110 = .ok (.iload 4, 2) := by decide +kernel
theorem d_MM_has_112 : decode b_MM_has 112 = .ok (.iconst 3, 1) := by decide +kernel
theorem d_MM_has_113 : decode b_MM_has 113 = .ok (.if_icmp .ne 7, 3) := by decide +kernel
theorem d_MM_has_116 : decode b_MM_has 116 = .ok (.iconst 1, 1) := by decide +kernel
theorem d_MM_has_117 : decode b_MM_has 117 = .ok (.goto 4, 3) := by decide +kernel
theorem d_MM_has_120 : decode b_MM_has 120 = .ok (.iconst 0, 1) := by decide +kernel
theorem d_MM_has_121 : decode b_MM_has 121 = .ok (.ireturn, 1) := by decide +kernel
theorem d_MM_has_122 : decode b_MM_has 122 = .ok (.iload 4, 2) := by decide +kernel
theorem d_MM_has_124 : decode b_MM_has 124 = .ok (.iconst 4, 1) := by decide +kernel
theorem d_MM_has_125 : decode b_MM_has 125 = .ok (.if_icmp .ne 7, 3) := by decide +kernel
theorem d_MM_has_128 : decode b_MM_has 128 = .ok (.iconst 1, 1) := by decide +kernel
theorem d_MM_has_129 : decode b_MM_has 129 = .ok (.goto 4, 3) := by decide +kernel
theorem d_MM_has_132 : decode b_MM_has 132 = .ok (.iconst 0, 1) := by decide +kernel
theorem d_MM_has_133 : decode b_MM_has 133 = .ok (.ireturn, 1) := by decide +kernel
theorem d_MM_has_134 : decode b_MM_has 134 = .ok (.aload_n 0, 1) := by decide +kernel
theorem d_MM_has_135 : decode b_MM_has 135 = .ok (.getfield 24, 3) := by decide +kernel
theorem d_MM_has_138 : decode b_MM_has 138 = .ok (.iload_n 2, 1) := by decide +kernel
theorem d_MM_has_139 : decode b_MM_has 139 = .ok (.invokevirtual 446, 3) := by decide +kernel
theorem d_MM_has_142 : decode b_MM_has 142 = .ok (.ifCond .eq 11, 3) := by decide +kernel
theorem d_MM_has_145 : decode b_MM_has 145 = .ok (.iload_n 3, 1) := by decide +kernel
theorem d_MM_has_146 : decode b_MM_has 146 = .ok (.ifCond .eq 7, 3) := by decide +kernel
theorem d_MM_has_149 : decode b_MM_has 149 = .ok (.iconst 1, 1) := by decide +kernel
theorem d_MM_has_150 : decode b_MM_has 150 = .ok (.goto 4, 3) := by decide +kernel
theorem d_MM_has_153 : decode b_MM_has 153 = .ok (.iconst 0, 1) := by decide +kernel
theorem d_MM_has_154 : decode b_MM_has 154 = .ok (.ireturn, 1) := by decide +kernel
theorem d_MM_isType_0 : decode b_MM_isType 0 = .ok (.aload_n 0, 1) := by decide +kernel
theorem d_MM_isType_1 : decode b_MM_isType 1 = .ok (.getfield 20, 3) := by decide +kernel
theorem d_MM_isType_4 : decode b_MM_isType 4 = .ok (.getfield 419, 3) := by decide +kernel
theorem d_MM_isType_7 : decode b_MM_isType 7 = .ok (.iload_n 1, 1) := by decide +kernel
theorem d_MM_isType_8 : decode b_MM_isType 8 = .ok (.iaload, 1) := by decide +kernel
theorem d_MM_isType_9 : decode b_MM_isType 9 = .ok (.iconst 5, 1) := by decide +kernel
theorem d_MM_isType_10 : decode b_MM_isType 10 = .ok (.if_icmp .eq 11, 3) := by decide +kernel
theorem d_MM_isType_13 : decode b_MM_isType 13 = .ok (.aload_n 0, 1) := by decide +kernel
theorem d_MM_isType_14 : decode b_MM_isType 14 = .ok (.iload_n 1, 1) := by decide +kernel
theorem d_MM_isType_15 : decode b_MM_isType 15 = .ok (.iload_n 2, 1) := by decide +kernel
theorem d_MM_isType_16 : decode b_MM_isType 16 = .ok (.iconst 1, 1) := by decide +kernel
theorem d_MM_isType_17 : decode b_MM_isType 17 = .ok (.invokevirtual 563, 3) := by decide +kernel
theorem d_MM_isType_20 : decode b_MM_isType 20 = .ok (.ireturn, 1) := by decide +kernel
theorem d_MM_isType_21 : decode b_MM_isType 21 = .ok (.aload_n 0, 1) := by decide +kernel
theorem d_MM_isType_22 : decode b_MM_isType 22 = .ok (.getfield 20, 3) := by decide +kernel
theorem d_MM_isType_25 : decode b_MM_isType 25 = .ok (.getfield 422, 3) := by decide +kernel
theorem d_MM_isType_28 : decode b_MM_isType 28 = .ok (.iload_n 1, 1) := by decide +kernel
theorem d_MM_isType_29 : decode b_MM_isType 29 = .ok (.iaload, 1) := by decide +kernel
theorem d_MM_isType_30 : decode b_MM_isType 30 = .ok (.istore_n 3, 1) := by decide +kernel
theorem d_MM_isType_31 : decode b_MM_isType 31 = .ok (.iload_n 3, 1) := by decide +kernel
theorem d_MM_isType_32 : decode b_MM_isType 32 = .ok (.ifCond .lt 28, 3) := by decide +kernel
theorem d_MM_isType_35 : decode b_MM_isType 35 = .ok (.aload_n 0, 1) := by decide +kernel
theorem d_MM_isType_36 : decode b_MM_isType 36 = .ok (.iload_n 3, 1) := by decide +kernel
theorem d_MM_isType_37 : decode b_MM_isType 37 = .ok (.iload_n 2, 1) := by decide +kernel
theorem d_MM_isType_38 : decode b_MM_isType 38 = .ok (.iconst 1, 1) := by decide +kernel
theorem d_MM_isType_39 : decode b_MM_isType 39 = .ok (.invokevirtual 563, 3) := by decide +kernel
theorem d_MM_isType_42 : decode b_MM_isType 42 = .ok (.ifCond .eq 5, 3) := by decide +kernel
theorem d_MM_isType_45 : decode b_MM_isType 45 = .ok (.iconst 1, 1) := by decide +kernel
theorem d_MM_isType_46 : decode b_MM_isType 46 = .ok (.ireturn, 1) := by decide +kernel
theorem d_MM_isType_47 : decode b_MM_isType 47 = .ok (.aload_n 0, 1) := by decide +kernel
theorem d_MM_isType_48 : decode b_MM_isType 48 = .ok (.getfield 20, 3) := by decide +kernel
theorem d_MM_isType_51 : decode b_MM_isType 51 = .ok (.getfield 436, 3) := by decide +kernel
theorem d_MM_isType_54 : decode b_MM_isType 54 = .ok (.iload_n 3, 1) := by decide +kernel
theorem d_MM_isType_55 : decode b_MM_isType 55 = .ok (.iaload, 1) := by decide +kernel
theorem d_MM_isType_56 : decode b_MM_isType 56 = .ok (.istore_n 3, 1) := by decide +kernel
theorem d_MM_isType_57 : decode b_MM_isType 57 = .ok (.goto (-26), 3) := by decide +kernel
theorem d_MM_isType_60 : decode b_MM_isType 60 = .ok (.iconst 0, 1) := by decide +kernel
theorem d_MM_isType_61 : decode b_MM_isType 61 = .ok (.ireturn, 1) := by decide +kernel
theorem d_MT_alike_0 : decode b_MT_alike 0 = .ok (.aload_n 0, 1) := by decide +kernel
theorem d_MT_alike_1 : decode b_MT_alike 1 = .ok (.getfield 15, 3) := by decide +kernel
theorem d_MT_alike_4 : decode b_MT_alike 4 = .ok (.iload_n 1, 1) := by decide +kernel
theorem d_MT_alike_5 : decode b_MT_alike 5 = .ok (.iaload, 1) := by decide +kernel
theorem d_MT_alike_6 : decode b_MT_alike 6 = .ok (.aload_n 2, 1) := by decide +kernel
theorem d_MT_alike_7 : decode b_MT_alike 7 = .ok (.getfield 15, 3) := by decide +kernel
theorem d_MT_alike_10 : decode b_MT_alike 10 = .ok (.iload_n 3, 1) := by decide +kernel
theorem d_MT_alike_11 : decode b_MT_alike 11 = .ok (.iaload, 1) := by decide +kernel
theorem d_MT_alike_12 : decode b_MT_alike 12 = .ok (.if_icmp .eq 5, 3) := by decide +kernel
theorem d_MT_alike_15 : decode b_MT_alike 15 = .ok (.iconst 0, 1) := by decide +kernel
theorem d_MT_alike_16 : decode b_MT_alike 16 = .ok (.ireturn, 1) := by decide +kernel
theorem d_MT_alike_17 : decode b_MT_alike 17 = .ok (.aload_n 0, 1) := by decide +kernel
theorem d_MT_alike_18 : decode b_MT_alike 18 = .ok (.getfield 15, 3) := by decide +kernel
theorem d_MT_alike_21 : decode b_MT_alike 21 = .ok (.iload_n 1, 1) := by decide +kernel
theorem d_MT_alike_22 : decode b_MT_alike 22 = .ok (.iaload, 1) := by decide +kernel
theorem d_MT_alike_23 : decode b_MT_alike 23 = .ok (.iconst 3, 1) := by decide +kernel
theorem d_MT_alike_24 : decode b_MT_alike 24 = .ok (.if_icmp .ne 19, 3) := by decide +kernel
theorem d_MT_alike_27 : decode b_MT_alike 27 = .ok (.aload_n 0, 1) := by decide +kernel
theorem d_MT_alike_28 : decode b_MT_alike 28 = .ok (.iload_n 1, 1) := by decide +kernel
theorem d_MT_alike_29 : decode b_MT_alike 29 = .ok (.aload_n 2, 1) := by decide +kernel
theorem d_MT_alike_30 : decode b_MT_alike 30 = .ok (.iload_n 3, 1) := by decide +kernel
theorem d_MT_alike_31 : decode b_MT_alike 31 = .ok (.invokevirtual 162, 3) := by decide +kernel
theorem d_MT_alike_34 : decode b_MT_alike 34 = .ok (.ifCond .ne 7, 3) := by decide +kernel
theorem d_MT_alike_37 : decode b_MT_alike 37 = .ok (.iconst 1, 1) := by decide +kernel
theorem d_MT_alike_38 : decode b_MT_alike 38 = .ok (.goto 4, 3) := by decide +kernel
theorem d_MT_alike_41 : decode b_MT_alike 41 = .ok (.iconst 0, 1) := by decide +kernel
theorem d_MT_alike_42 : decode b_MT_alike 42 = .ok (.ireturn, 1) := by decide +kernel
theorem d_MT_alike_43 : decode b_MT_alike 43 = .ok (.aload_n 0, 1) := by decide +kernel
theorem d_MT_alike_44 : decode b_MT_alike 44 = .ok (.getfield 15, 3) := by decide +kernel
theorem d_MT_alike_47 : decode b_MT_alike 47 = .ok (.iload_n 1, 1) := by decide +kernel
theorem d_MT_alike_48 : decode b_MT_alike 48 = .ok (.iaload, 1) := by decide +kernel
theorem d_MT_alike_49 : decode b_MT_alike 49 = .ok (.iconst 4, 1) := by decide +kernel
theorem d_MT_alike_50 : decode b_MT_alike 50 = .ok (.if_icmp .ne 11, 3) := by decide +kernel
theorem d_MT_alike_53 : decode b_MT_alike 53 = .ok (.aload_n 0, 1) := by decide +kernel
theorem d_MT_alike_54 : decode b_MT_alike 54 = .ok (.iload_n 1, 1) := by decide +kernel
theorem d_MT_alike_55 : decode b_MT_alike 55 = .ok (.aload_n 2, 1) := by decide +kernel
theorem d_MT_alike_56 : decode b_MT_alike 56 = .ok (.iload_n 3, 1) := by decide +kernel
theorem d_MT_alike_57 : decode b_MT_alike 57 = .ok (.invokevirtual 132, 3) := by decide +kernel
theorem d_MT_alike_60 : decode b_MT_alike 60 = .ok (.ireturn, 1) := by decide +kernel
theorem d_MT_alike_61 : decode b_MT_alike 61 = .ok (.aload_n 0, 1) := by decide +kernel
theorem d_MT_alike_62 : decode b_MT_alike 62 = .ok (.getfield 15, 3) := by decide +kernel
theorem d_MT_alike_65 : decode b_MT_alike 65 = .ok (.iload_n 1, 1) := by decide +kernel
theorem d_MT_alike_66 : decode b_MT_alike 66 = .ok (.iaload, 1) := by decide +kernel
theorem d_MT_alike_67 : decode b_MT_alike 67 = .ok (.iconst 3, 1) := by decide +kernel
theorem d_MT_alike_68 : decode b_MT_alike 68 = .ok (.if_icmp .ge 5, 3) := by decide +kernel
theorem d_MT_alike_71 : decode b_MT_alike 71 = .ok (.iconst 1, 1) := by decide +kernel
theorem d_MT_alike_72 : decode b_MT_alike 72 = .ok (.ireturn, 1) := by decide +kernel
theorem d_MT_alike_73 : decode b_MT_alike 73 = .ok (.aload_n 0, 1) := by decide +kernel
theorem d_MT_alike_74 : decode b_MT_alike 74 = .ok (.getfield 21, 3) := by decide +kernel
theorem d_MT_alike_77 : decode b_MT_alike 77 = .ok (.iload_n 1, 1) := by decide +kernel
theorem d_MT_alike_78 : decode b_MT_alike 78 = .ok (.iaload, 1) := by decide +kernel
theorem d_MT_alike_79 : decode b_MT_alike 79 = .ok (.aload_n 2, 1) := by decide +kernel
theorem d_MT_alike_80 : decode b_MT_alike 80 = .ok (.getfield 21, 3) := by decide +kernel
theorem d_MT_alike_83 : decode b_MT_alike 83 = .ok (.iload_n 3, 1) := by decide +kernel
theorem d_MT_alike_84 : decode b_MT_alike 84 = .ok (.iaload, 1) := by decide +kernel
theorem d_MT_alike_85 : decode b_MT_alike 85 = .ok (.if_icmp .eq 5, 3) := by decide +kernel
theorem d_MT_alike_88 : decode b_MT_alike 88 = .ok (.iconst 0, 1) := by decide +kernel
theorem d_MT_alike_89 : decode b_MT_alike 89 = .ok (.ireturn, 1) := by decide +kernel
theorem d_MT_alike_90 : decode b_MT_alike 90 = .ok (.aload_n 0, 1) := by decide +kernel
theorem d_MT_alike_91 : decode b_MT_alike 91 = .ok (.getfield 15, 3) := by decide +kernel
theorem d_MT_alike_94 : decode b_MT_alike 94 = .ok (.iload_n 1, 1) := by decide +kernel
theorem d_MT_alike_95 : decode b_MT_alike 95 = .ok (.iaload, 1) := by decide +kernel
theorem d_MT_alike_96 : decode b_MT_alike 96 = .ok (.iconst 5, 1) := by decide +kernel
theorem d_MT_alike_97 : decode b_MT_alike 97 = .ok (.if_icmp .ne 61, 3) := by decide +kernel
theorem d_MT_alike_100 : decode b_MT_alike 100 = .ok (.aload_n 2, 1) := by decide +kernel
theorem d_MT_alike_101 : decode b_MT_alike 101 = .ok (.getfield 30, 3) := by decide +kernel
theorem d_MT_alike_104 : decode b_MT_alike 104 = .ok (.iload_n 3, 1) := by decide +kernel
theorem d_MT_alike_105 : decode b_MT_alike 105 = .ok (.iaload, 1) := by decide +kernel
theorem d_MT_alike_106 : decode b_MT_alike 106 = .ok (.istore 4, 2) := by decide +kernel
theorem d_MT_alike_108 : decode b_MT_alike 108 = .ok (.aload_n 0, 1) := by decide +kernel
theorem d_MT_alike_109 : decode b_MT_alike 109 = .ok (.getfield 30, 3) := by decide +kernel
theorem d_MT_alike_112 : decode b_MT_alike 112 = .ok (.iload_n 1, 1) := by decide +kernel
theorem d_MT_alike_113 : decode b_MT_alike 113 = .ok (.iaload, 1) := by decide +kernel
theorem d_MT_alike_114 : decode b_MT_alike 114 = .ok (.istore 5, 2) := by decide +kernel
theorem d_MT_alike_116 : decode b_MT_alike 116 = .ok (.iload 5, 2) := by decide +kernel
theorem d_MT_alike_118 : decode b_MT_alike 118 = .ok (.ifCond .lt 38, 3) := by decide +kernel
theorem d_MT_alike_121 : decode b_MT_alike 121 = .ok (.aload_n 0, 1) := by decide +kernel
theorem d_MT_alike_122 : decode b_MT_alike 122 = .ok (.iload 5, 2) := by decide +kernel
theorem d_MT_alike_124 : decode b_MT_alike 124 = .ok (.aload_n 2, 1) := by decide +kernel
theorem d_MT_alike_125 : decode b_MT_alike 125 = .ok (.iload 4, 2) := by decide +kernel
theorem d_MT_alike_127 : decode b_MT_alike 127 = .ok (.invokevirtual 166, 3) := by decide +kernel
theorem d_MT_alike_130 : decode b_MT_alike 130 = .ok (.ifCond .ne 5, 3) := by decide +kernel
theorem d_MT_alike_133 : decode b_MT_alike 133 = .ok (.iconst 0, 1) := by decide +kernel
theorem d_MT_alike_134 : decode b_MT_alike 134 = .ok (.ireturn, 1) := by decide +kernel
theorem d_MT_alike_135 : decode b_MT_alike 135 = .ok (.aload_n 0, 1) := by decide +kernel
theorem d_MT_alike_136 : decode b_MT_alike 136 = .ok (.getfield 33, 3) := by decide +kernel
theorem d_MT_alike_139 : decode b_MT_alike 139 = .ok (.iload 5, 2) := by decide +kernel
theorem d_MT_alike_141 : decode b_MT_alike 141 = .ok (.iaload, 1) := by decide +kernel
theorem d_MT_alike_142 : decode b_MT_alike 142 = .ok (.istore 5, 2) := by decide +kernel
theorem d_MT_alike_144 : decode b_MT_alike 144 = .ok (.aload_n 2, 1) := by decide +kernel
