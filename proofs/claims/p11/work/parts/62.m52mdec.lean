theorem d_MM_choice_190 : decode b_MM_choice 190 = .ok (.getfield 281, 3) := by decide +kernel
theorem d_MM_choice_193 : decode b_MM_choice 193 = .ok (.ifCond .eq 8, 3) := by decide +kernel
theorem d_MM_choice_196 : decode b_MM_choice 196 = .ok (.aload_n 0, 1) := by decide +kernel
theorem d_MM_choice_197 : decode b_MM_choice 197 = .ok (.invokevirtual 317, 3) := by decide +kernel
theorem d_MM_choice_200 : decode b_MM_choice 200 = .ok (.ireturn, 1) := by decide +kernel
theorem d_MM_choice_201 : decode b_MM_choice 201 = .ok (.aload_n 0, 1) := by decide +kernel
theorem d_MM_choice_202 : decode b_MM_choice 202 = .ok (.dup, 1) := by decide +kernel
theorem d_MM_choice_203 : decode b_MM_choice 203 = .ok (.getfield 254, 3) := by decide +kernel
theorem d_MM_choice_206 : decode b_MM_choice 206 = .ok (.iconst 1, 1) := by decide +kernel
theorem d_MM_choice_207 : decode b_MM_choice 207 = .ok (.iadd, 1) := by decide +kernel
theorem d_MM_choice_208 : decode b_MM_choice 208 = .ok (.putfield 254, 3) := by decide +kernel
theorem d_MM_choice_211 : decode b_MM_choice 211 = .ok (.aload_n 0, 1) := by decide +kernel
theorem d_MM_choice_212 : decode b_MM_choice 212 = .ok (.iload_n 2, 1) := by decide +kernel
theorem d_MM_choice_213 : decode b_MM_choice 213 = .ok (.iload_n 1, 1) := by decide +kernel
theorem d_MM_choice_214 : decode b_MM_choice 214 = .ok (.invokevirtual 335, 3) := by decide +kernel
theorem d_MM_choice_217 : decode b_MM_choice 217 = .ok (.ireturn, 1) := by decide +kernel
theorem d_MM_number_0 : decode b_MM_number 0 = .ok (.iconst 0, 1) := by decide +kernel
theorem d_MM_number_1 : decode b_MM_number 1 = .ok (.istore_n 1, 1) := by decide +kernel
theorem d_MM_number_2 : decode b_MM_number 2 = .ok (.iconst 0, 1) := by decide +kernel
theorem d_MM_number_3 : decode b_MM_number 3 = .ok (.istore_n 2, 1) := by decide +kernel
theorem d_MM_number_4 : decode b_MM_number 4 = .ok (.aload_n 0, 1) := by decide +kernel
theorem d_MM_number_5 : decode b_MM_number 5 = .ok (.iconst 0, 1) := by decide +kernel
theorem d_MM_number_6 : decode b_MM_number 6 = .ok (.invokevirtual 311, 3) := by decide +kernel
theorem d_MM_number_9 : decode b_MM_number 9 = .ok (.bipush 48, 2) := by decide +kernel
theorem d_MM_number_11 : decode b_MM_number 11 = .ok (.bipush 57, 2) := by decide +kernel
theorem d_MM_number_13 : decode b_MM_number 13 = .ok (.invokestatic 344, 3) := by decide +kernel
theorem d_MM_number_16 : decode b_MM_number 16 = .ok (.ifCond .eq 42, 3) := by decide +kernel
theorem d_MM_number_19 : decode b_MM_number 19 = .ok (.bipush 10, 2) := by decide +kernel
theorem d_MM_number_21 : decode b_MM_number 21 = .ok (.iload_n 1, 1) := by decide +kernel
theorem d_MM_number_22 : decode b_MM_number 22 = .ok (.imul, 1) := by decide +kernel
theorem d_MM_number_23 : decode b_MM_number 23 = .ok (.aload_n 0, 1) := by decide +kernel
theorem d_MM_number_24 : decode b_MM_number 24 = .ok (.iconst 0, 1) := by decide +kernel
theorem d_MM_number_25 : decode b_MM_number 25 = .ok (.invokevirtual 311, 3) := by decide +kernel
theorem d_MM_number_28 : decode b_MM_number 28 = .ok (.iadd, 1) := by decide +kernel
theorem d_MM_number_29 : decode b_MM_number 29 = .ok (.bipush 48, 2) := by decide +kernel
theorem d_MM_number_31 : decode b_MM_number 31 = .ok (.isub, 1) := by decide +kernel
theorem d_MM_number_32 : decode b_MM_number 32 = .ok (.istore_n 1, 1) := by decide +kernel
theorem d_MM_number_33 : decode b_MM_number 33 = .ok (.aload_n 0, 1) := by decide +kernel
theorem d_MM_number_34 : decode b_MM_number 34 = .ok (.dup, 1) := by decide +kernel
theorem d_MM_number_35 : decode b_MM_number 35 = .ok (.getfield 254, 3) := by decide +kernel
theorem d_MM_number_38 : decode b_MM_number 38 = .ok (.iconst 1, 1) := by decide +kernel
theorem d_MM_number_39 : decode b_MM_number 39 = .ok (.iadd, 1) := by decide +kernel
theorem d_MM_number_40 : decode b_MM_number 40 = .ok (.putfield 254, 3) := by decide +kernel
theorem d_MM_number_43 : decode b_MM_number 43 = .ok (.iinc 2 1, 3) := by decide +kernel
theorem d_MM_number_46 : decode b_MM_number 46 = .ok (.iload_n 2, 1) := by decide +kernel
theorem d_MM_number_47 : decode b_MM_number 47 = .ok (.iconst 3, 1) := by decide +kernel
theorem d_MM_number_48 : decode b_MM_number 48 = .ok (.if_icmp .le (-44), 3) := by decide +kernel
theorem d_MM_number_51 : decode b_MM_number 51 = .ok (.aload_n 0, 1) := by decide +kernel
theorem d_MM_number_52 : decode b_MM_number 52 = .ok (.iconst 1, 1) := by decide +kernel
theorem d_MM_number_53 : decode b_MM_number 53 = .ok (.putfield 281, 3) := by decide +kernel
theorem d_MM_number_56 : decode b_MM_number 56 = .ok (.iconst 0, 1) := by decide +kernel
theorem d_MM_number_57 : decode b_MM_number 57 = .ok (.ireturn, 1) := by decide +kernel
theorem d_MM_number_58 : decode b_MM_number 58 = .ok (.iload_n 2, 1) := by decide +kernel
theorem d_MM_number_59 : decode b_MM_number 59 = .ok (.ifCond .eq 9, 3) := by decide +kernel
theorem d_MM_number_62 : decode b_MM_number 62 = .ok (.iload_n 1, 1) := by decide +kernel
theorem d_MM_number_63 : decode b_MM_number 63 = .ok (.bipush 50, 2) := by decide +kernel
theorem d_MM_number_65 : decode b_MM_number 65 = .ok (.if_icmp .le 8, 3) := by decide +kernel
theorem d_MM_number_68 : decode b_MM_number 68 = .ok (.aload_n 0, 1) := by decide +kernel
theorem d_MM_number_69 : decode b_MM_number 69 = .ok (.iconst 1, 1) := by decide +kernel
theorem d_MM_number_70 : decode b_MM_number 70 = .ok (.putfield 281, 3) := by decide +kernel
theorem d_MM_number_73 : decode b_MM_number 73 = .ok (.iload_n 1, 1) := by decide +kernel
theorem d_MM_number_74 : decode b_MM_number 74 = .ok (.ireturn, 1) := by decide +kernel
theorem d_MM_often_0 : decode b_MM_often 0 = .ok (.aload_n 0, 1) := by decide +kernel
theorem d_MM_often_1 : decode b_MM_often 1 = .ok (.iconst 0, 1) := by decide +kernel
theorem d_MM_often_2 : decode b_MM_often 2 = .ok (.invokevirtual 311, 3) := by decide +kernel
theorem d_MM_often_5 : decode b_MM_often 5 = .ok (.istore_n 2, 1) := by decide +kernel
theorem d_MM_often_6 : decode b_MM_often 6 = .ok (.iconst 0, 1) := by decide +kernel
theorem d_MM_often_7 : decode b_MM_often 7 = .ok (.istore_n 3, 1) := by decide +kernel
theorem d_MM_often_8 : decode b_MM_often 8 = .ok (.iconst (-1), 1) := by decide +kernel
theorem d_MM_often_9 : decode b_MM_often 9 = .ok (.istore 4, 2) := by decide +kernel
theorem d_MM_often_11 : decode b_MM_often 11 = .ok (.iload_n 2, 1) := by decide +kernel
theorem d_MM_often_12 : decode b_MM_often 12 = .ok (.bipush 42, 2) := by decide +kernel
theorem d_MM_often_14 : decode b_MM_often 14 = .ok (.if_icmp .ne 16, 3) := by decide +kernel
theorem d_MM_often_17 : decode b_MM_often 17 = .ok (.aload_n 0, 1) := by decide +kernel
theorem d_MM_often_18 : decode b_MM_often 18 = .ok (.dup, 1) := by decide +kernel
theorem d_MM_often_19 : decode b_MM_often 19 = .ok (.getfield 254, 3) := by decide +kernel
theorem d_MM_often_22 : decode b_MM_often 22 = .ok (.iconst 1, 1) := by decide +kernel
theorem d_MM_often_23 : decode b_MM_often 23 = .ok (.iadd, 1) := by decide +kernel
theorem d_MM_often_24 : decode b_MM_often 24 = .ok (.putfield 254, 3) := by decide +kernel
theorem d_MM_often_27 : decode b_MM_often 27 = .ok (.goto 165, 3) := by decide +kernel
theorem d_MM_often_30 : decode b_MM_often 30 = .ok (.iload_n 2, 1) := by decide +kernel
theorem d_MM_often_31 : decode b_MM_often 31 = .ok (.bipush 43, 2) := by decide +kernel
theorem d_MM_often_33 : decode b_MM_often 33 = .ok (.if_icmp .ne 18, 3) := by decide +kernel
theorem d_MM_often_36 : decode b_MM_often 36 = .ok (.iconst 1, 1) := by decide +kernel
theorem d_MM_often_37 : decode b_MM_often 37 = .ok (.istore_n 3, 1) := by decide +kernel
theorem d_MM_often_38 : decode b_MM_often 38 = .ok (.aload_n 0, 1) := by decide +kernel
theorem d_MM_often_39 : decode b_MM_often 39 = .ok (.dup, 1) := by decide +kernel
theorem d_MM_often_40 : decode b_MM_often 40 = .ok (.getfield 254, 3) := by decide +kernel
theorem d_MM_often_43 : decode b_MM_often 43 = .ok (.iconst 1, 1) := by decide +kernel
theorem d_MM_often_44 : decode b_MM_often 44 = .ok (.iadd, 1) := by decide +kernel
theorem d_MM_often_45 : decode b_MM_often 45 = .ok (.putfield 254, 3) := by decide +kernel
theorem d_MM_often_48 : decode b_MM_often 48 = .ok (.goto 144, 3) := by decide +kernel
theorem d_MM_often_51 : decode b_MM_often 51 = .ok (.iload_n 2, 1) := by decide +kernel
theorem d_MM_often_52 : decode b_MM_often 52 = .ok (.bipush 63, 2) := by decide +kernel
theorem d_MM_often_54 : decode b_MM_often 54 = .ok (.if_icmp .ne 19, 3) := by decide +kernel
theorem d_MM_often_57 : decode b_MM_often 57 = .ok (.iconst 1, 1) := by decide +kernel
theorem d_MM_often_58 : decode b_MM_often 58 = .ok (.istore 4, 2) := by decide +kernel
theorem d_MM_often_60 : decode b_MM_often 60 = .ok (.aload_n 0, 1) := by decide +kernel
theorem d_MM_often_61 : decode b_MM_often 61 = .ok (.dup, 1) := by decide +kernel
theorem d_MM_often_62 : decode b_MM_often 62 = .ok (.getfield 254, 3) := by decide +kernel
theorem d_MM_often_65 : decode b_MM_often 65 = .ok (.iconst 1, 1) := by decide +kernel
theorem d_MM_often_66 : decode b_MM_often 66 = .ok (.iadd, 1) := by decide +kernel
theorem d_MM_often_67 : decode b_MM_often 67 = .ok (.putfield 254, 3) := by decide +kernel
theorem d_MM_often_70 : decode b_MM_often 70 = .ok (.goto 122, 3) := by decide +kernel
theorem d_MM_often_73 : decode b_MM_often 73 = .ok (.iload_n 2, 1) := by decide +kernel
theorem d_MM_often_74 : decode b_MM_often 74 = .ok (.bipush 123, 2) := by decide +kernel
theorem d_MM_often_76 : decode b_MM_often 76 = .ok (.if_icmp .ne 114, 3) := by decide +kernel
theorem d_MM_often_79 : decode b_MM_often 79 = .ok (.aload_n 0, 1) := by decide +kernel
theorem d_MM_often_80 : decode b_MM_often 80 = .ok (.dup, 1) := by decide +kernel
theorem d_MM_often_81 : decode b_MM_often 81 = .ok (.getfield 254, 3) := by decide +kernel
theorem d_MM_often_84 : decode b_MM_often 84 = .ok (.iconst 1, 1) := by decide +kernel
theorem d_MM_often_85 : decode b_MM_often 85 = .ok (.iadd, 1) := by decide +kernel
theorem d_MM_often_86 : decode b_MM_often 86 = .ok (.putfield 254, 3) := by decide +kernel
theorem d_MM_often_89 : decode b_MM_often 89 = .ok (.aload_n 0, 1) := by decide +kernel
theorem d_MM_often_90 : decode b_MM_often 90 = .ok (.invokevirtual 342, 3) := by decide +kernel
theorem d_MM_often_93 : decode b_MM_often 93 = .ok (.istore_n 3, 1) := by decide +kernel
theorem d_MM_often_94 : decode b_MM_often 94 = .ok (.iload_n 3, 1) := by decide +kernel
theorem d_MM_often_95 : decode b_MM_often 95 = .ok (.istore 4, 2) := by decide +kernel
theorem d_MM_often_97 : decode b_MM_often 97 = .ok (.aload_n 0, 1) := by decide +kernel
theorem d_MM_often_98 : decode b_MM_often 98 = .ok (.getfield 281, 3) := by decide +kernel
theorem d_MM_often_101 : decode b_MM_often 101 = .ok (.ifCond .ne 43, 3) := by decide +kernel
theorem d_MM_often_104 : decode b_MM_often 104 = .ok (.aload_n 0, 1) := by decide +kernel
theorem d_MM_often_105 : decode b_MM_often 105 = .ok (.iconst 0, 1) := by decide +kernel
theorem d_MM_often_106 : decode b_MM_often 106 = .ok (.invokevirtual 311, 3) := by decide +kernel
theorem d_MM_often_109 : decode b_MM_often 109 = .ok (.bipush 44, 2) := by decide +kernel
theorem d_MM_often_111 : decode b_MM_often 111 = .ok (.if_icmp .ne 33, 3) := by decide +kernel
theorem d_MM_often_114 : decode b_MM_often 114 = .ok (.aload_n 0, 1) := by decide +kernel
theorem d_MM_often_115 : decode b_MM_often 115 = .ok (.dup, 1) := by decide +kernel
theorem d_MM_often_116 : decode b_MM_often 116 = .ok (.getfield 254, 3) := by decide +kernel
theorem d_MM_often_119 : decode b_MM_often 119 = .ok (.iconst 1, 1) := by decide +kernel
theorem d_MM_often_120 : decode b_MM_often 120 = .ok (.iadd, 1) := by decide +kernel
theorem d_MM_often_121 : decode b_MM_often 121 = .ok (.putfield 254, 3) := by decide +kernel
theorem d_MM_often_124 : decode b_MM_often 124 = .ok (.aload_n 0, 1) := by decide +kernel
theorem d_MM_often_125 : decode b_MM_often 125 = .ok (.iconst 0, 1) := by decide +kernel
theorem d_MM_often_126 : decode b_MM_often 126 = .ok (.invokevirtual 311, 3) := by decide +kernel
theorem d_MM_often_129 : decode b_MM_often 129 = .ok (.bipush 125, 2) := by decide +kernel
theorem d_MM_often_131 : decode b_MM_often 131 = .ok (.if_icmp .ne 7, 3) := by decide +kernel
theorem d_MM_often_134 : decode b_MM_often 134 = .ok (.iconst (-1), 1) := by decide +kernel
theorem d_MM_often_135 : decode b_MM_often 135 = .ok (.goto 7, 3) := by decide +kernel
theorem d_MM_often_138 : decode b_MM_often 138 = .ok (.aload_n 0, 1) := by decide +kernel
theorem d_MM_often_139 : decode b_MM_often 139 = .ok (.invokevirtual 342, 3) := by decide +kernel
theorem d_MM_often_142 : decode b_MM_often 142 = .ok (.istore 4, 2) := by decide +kernel
theorem d_MM_often_144 : decode b_MM_often 144 = .ok (.aload_n 0, 1) := by decide +kernel
theorem d_MM_often_145 : decode b_MM_often 145 = .ok (.getfield 281, 3) := by decide +kernel
theorem d_MM_often_148 : decode b_MM_often 148 = .ok (.ifCond .ne 24, 3) := by decide +kernel
theorem d_MM_often_151 : decode b_MM_often 151 = .ok (.aload_n 0, 1) := by decide +kernel
theorem d_MM_often_152 : decode b_MM_often 152 = .ok (.iconst 0, 1) := by decide +kernel
theorem d_MM_often_153 : decode b_MM_often 153 = .ok (.invokevirtual 311, 3) := by decide +kernel
theorem d_MM_often_156 : decode b_MM_often 156 = .ok (.bipush 125, 2) := by decide +kernel
theorem d_MM_often_158 : decode b_MM_often 158 = .ok (.if_icmp .ne 14, 3) := by decide +kernel
theorem d_MM_often_161 : decode b_MM_often 161 = .ok (.iload 4, 2) := by decide +kernel
theorem d_MM_often_163 : decode b_MM_often 163 = .ok (.ifCond .lt 14, 3) := by decide +kernel
theorem d_MM_often_166 : decode b_MM_often 166 = .ok (.iload_n 3, 1) := by decide +kernel
theorem d_MM_often_167 : decode b_MM_often 167 = .ok (.iload 4, 2) := by decide +kernel
theorem d_MM_often_169 : decode b_MM_often 169 = .ok (.if_icmp .le 8, 3) := by decide +kernel
theorem d_MM_often_172 : decode b_MM_often 172 = .ok (.aload_n 0, 1) := by decide +kernel
theorem d_MM_often_173 : decode b_MM_often 173 = .ok (.invokevirtual 317, 3) := by decide +kernel
theorem d_MM_often_176 : decode b_MM_often 176 = .ok (.ireturn, 1) := by decide +kernel
theorem d_MM_often_177 : decode b_MM_often 177 = .ok (.aload_n 0, 1) := by decide +kernel
theorem d_MM_often_178 : decode b_MM_often 178 = .ok (.dup, 1) := by decide +kernel
theorem d_MM_often_179 : decode b_MM_often 179 = .ok (.getfield 254, 3) := by decide +kernel
theorem d_MM_often_182 : decode b_MM_often 182 = .ok (.iconst 1, 1) := by decide +kernel
theorem d_MM_often_183 : decode b_MM_often 183 = .ok (.iadd, 1) := by decide +kernel
theorem d_MM_often_184 : decode b_MM_often 184 = .ok (.putfield 254, 3) := by decide +kernel
theorem d_MM_often_187 : decode b_MM_often 187 = .ok (.goto 5, 3) := by decide +kernel
theorem d_MM_often_190 : decode b_MM_often 190 = .ok (.iload_n 1, 1) := by decide +kernel
theorem d_MM_often_191 : decode b_MM_often 191 = .ok (.ireturn, 1) := by decide +kernel
theorem d_MM_often_192 : decode b_MM_often 192 = .ok (.aload_n 0, 1) := by decide +kernel
theorem d_MM_often_193 : decode b_MM_often 193 = .ok (.iconst 0, 1) := by decide +kernel
theorem d_MM_often_194 : decode b_MM_often 194 = .ok (.invokevirtual 311, 3) := by decide +kernel
theorem d_MM_often_197 : decode b_MM_often 197 = .ok (.bipush 63, 2) := by decide +kernel
theorem d_MM_often_199 : decode b_MM_often 199 = .ok (.if_icmp .ne 13, 3) := by decide +kernel
theorem d_MM_often_202 : decode b_MM_often 202 = .ok (.aload_n 0, 1) := by decide +kernel
theorem d_MM_often_203 : decode b_MM_often 203 = .ok (.dup, 1) := by decide +kernel
theorem d_MM_often_204 : decode b_MM_often 204 = .ok (.getfield 254, 3) := by decide +kernel
theorem d_MM_often_207 : decode b_MM_often 207 = .ok (.iconst 1, 1) := by decide +kernel
theorem d_MM_often_208 : decode b_MM_often 208 = .ok (.iadd, 1) := by decide +kernel
theorem d_MM_often_209 : decode b_MM_often 209 = .ok (.putfield 254, 3) := by decide +kernel
theorem d_MM_often_212 : decode b_MM_often 212 = .ok (.aload_n 0, 1) := by decide +kernel
theorem d_MM_often_213 : decode b_MM_often 213 = .ok (.bipush 6, 2) := by decide +kernel
theorem d_MM_often_215 : decode b_MM_often 215 = .ok (.iload_n 1, 1) := by decide +kernel
theorem d_MM_often_216 : decode b_MM_often 216 = .ok (.invokevirtual 304, 3) := by decide +kernel
theorem d_MM_often_219 : decode b_MM_often 219 = .ok (.istore 5, 2) := by decide +kernel
theorem d_MM_often_221 : decode b_MM_often 221 = .ok (.aload_n 0, 1) := by decide +kernel
theorem d_MM_often_222 : decode b_MM_often 222 = .ok (.getfield 33, 3) := by decide +kernel
theorem d_MM_often_225 : decode b_MM_often 225 = .ok (.iload 5, 2) := by decide +kernel
theorem d_MM_often_227 : decode b_MM_often 227 = .ok (.iload_n 3, 1) := by decide +kernel
theorem d_MM_often_228 : decode b_MM_often 228 = .ok (.iastore, 1) := by decide +kernel
theorem d_MM_often_229 : decode b_MM_often 229 = .ok (.aload_n 0, 1) := by decide +kernel
theorem d_MM_often_230 : decode b_MM_often 230 = .ok (.getfield 36, 3) := by decide +kernel
theorem d_MM_often_233 : decode b_MM_often 233 = .ok (.iload 5, 2) := by decide +kernel
theorem d_MM_often_235 : decode b_MM_often 235 = .ok (.iload 4, 2) := by decide +kernel
theorem d_MM_often_237 : decode b_MM_often 237 = .ok (.iastore, 1) := by decide +kernel
theorem d_MM_often_238 : decode b_MM_often 238 = .ok (.iload 5, 2) := by decide +kernel
theorem d_MM_often_240 : decode b_MM_often 240 = .ok (.ireturn, 1) := by decide +kernel
theorem d_MM_one_0 : decode b_MM_one 0 = .ok (.aload_n 0, 1) := by decide +kernel
theorem d_MM_one_1 : decode b_MM_one 1 = .ok (.iconst 0, 1) := by decide +kernel
theorem d_MM_one_2 : decode b_MM_one 2 = .ok (.invokevirtual 311, 3) := by decide +kernel
theorem d_MM_one_5 : decode b_MM_one 5 = .ok (.istore_n 2, 1) := by decide +kernel
theorem d_MM_one_6 : decode b_MM_one 6 = .ok (.iload_n 2, 1) := by decide +kernel
theorem d_MM_one_7 : decode b_MM_one 7 = .ok (.bipush 94, 2) := by decide +kernel
theorem d_MM_one_9 : decode b_MM_one 9 = .ok (.if_icmp .eq 9, 3) := by decide +kernel
theorem d_MM_one_12 : decode b_MM_one 12 = .ok (.iload_n 2, 1) := by decide +kernel
theorem d_MM_one_13 : decode b_MM_one 13 = .ok (.bipush 36, 2) := by decide +kernel
theorem d_MM_one_15 : decode b_MM_one 15 = .ok (.if_icmp .ne 30, 3) := by decide +kernel
theorem d_MM_one_18 : decode b_MM_one 18 = .ok (.aload_n 0, 1) := by decide +kernel
theorem d_MM_one_19 : decode b_MM_one 19 = .ok (.dup, 1) := by decide +kernel
theorem d_MM_one_20 : decode b_MM_one 20 = .ok (.getfield 254, 3) := by decide +kernel
theorem d_MM_one_23 : decode b_MM_one 23 = .ok (.iconst 1, 1) := by decide +kernel
theorem d_MM_one_24 : decode b_MM_one 24 = .ok (.iadd, 1) := by decide +kernel
theorem d_MM_one_25 : decode b_MM_one 25 = .ok (.putfield 254, 3) := by decide +kernel
theorem d_MM_one_28 : decode b_MM_one 28 = .ok (.aload_n 0, 1) := by decide +kernel
theorem d_MM_one_29 : decode b_MM_one 29 = .ok (.iload_n 2, 1) := by decide +kernel
theorem d_MM_one_30 : decode b_MM_one 30 = .ok (.bipush 94, 2) := by decide +kernel
theorem d_MM_one_32 : decode b_MM_one 32 = .ok (.if_icmp .ne 7, 3) := by decide +kernel
theorem d_MM_one_35 : decode b_MM_one 35 = .ok (.iconst 2, 1) := by decide +kernel
theorem d_MM_one_36 : decode b_MM_one 36 = .ok (.goto 4, 3) := by decide +kernel
theorem d_MM_one_39 : decode b_MM_one 39 = .ok (.iconst 3, 1) := by decide +kernel
theorem d_MM_one_40 : decode b_MM_one 40 = .ok (.iconst 0, 1) := by decide +kernel
theorem d_MM_one_41 : decode b_MM_one 41 = .ok (.invokevirtual 304, 3) := by decide +kernel
theorem d_MM_one_44 : decode b_MM_one 44 = .ok (.ireturn, 1) := by decide +kernel
theorem d_MM_one_45 : decode b_MM_one 45 = .ok (.iload_n 2, 1) := by decide +kernel
theorem d_MM_one_46 : decode b_MM_one 46 = .ok (.bipush 40, 2) := by decide +kernel
theorem d_MM_one_48 : decode b_MM_one 48 = .ok (.if_icmp .ne 97, 3) := by decide +kernel
theorem d_MM_one_51 : decode b_MM_one 51 = .ok (.iload_n 1, 1) := by decide +kernel
theorem d_MM_one_52 : decode b_MM_one 52 = .ok (.bipush 30, 2) := by decide +kernel
theorem d_MM_one_54 : decode b_MM_one 54 = .ok (.if_icmp .ne 8, 3) := by decide +kernel
theorem d_MM_one_57 : decode b_MM_one 57 = .ok (.aload_n 0, 1) := by decide +kernel
theorem d_MM_one_58 : decode b_MM_one 58 = .ok (.invokevirtual 317, 3) := by decide +kernel
theorem d_MM_one_61 : decode b_MM_one 61 = .ok (.ireturn, 1) := by decide +kernel
theorem d_MM_one_62 : decode b_MM_one 62 = .ok (.aload_n 0, 1) := by decide +kernel
theorem d_MM_one_63 : decode b_MM_one 63 = .ok (.dup, 1) := by decide +kernel
theorem d_MM_one_64 : decode b_MM_one 64 = .ok (.getfield 254, 3) := by decide +kernel
theorem d_MM_one_67 : decode b_MM_one 67 = .ok (.iconst 1, 1) := by decide +kernel
theorem d_MM_one_68 : decode b_MM_one 68 = .ok (.iadd, 1) := by decide +kernel
theorem d_MM_one_69 : decode b_MM_one 69 = .ok (.putfield 254, 3) := by decide +kernel
theorem d_MM_one_72 : decode b_MM_one 72 = .ok (.aload_n 0, 1) := by decide +kernel
theorem d_MM_one_73 : decode b_MM_one 73 = .ok (.iconst 0, 1) := by decide +kernel
theorem d_MM_one_74 : decode b_MM_one 74 = .ok (.invokevirtual 311, 3) := by decide +kernel
theorem d_MM_one_77 : decode b_MM_one 77 = .ok (.bipush 63, 2) := by decide +kernel
theorem d_MM_one_79 : decode b_MM_one 79 = .ok (.if_icmp .ne 23, 3) := by decide +kernel
theorem d_MM_one_82 : decode b_MM_one 82 = .ok (.aload_n 0, 1) := by decide +kernel
theorem d_MM_one_83 : decode b_MM_one 83 = .ok (.iconst 1, 1) := by decide +kernel
theorem d_MM_one_84 : decode b_MM_one 84 = .ok (.invokevirtual 311, 3) := by decide +kernel
theorem d_MM_one_87 : decode b_MM_one 87 = .ok (.bipush 58, 2) := by decide +kernel
theorem d_MM_one_89 : decode b_MM_one 89 = .ok (.if_icmp .ne 13, 3) := by decide +kernel
theorem d_MM_one_92 : decode b_MM_one 92 = .ok (.aload_n 0, 1) := by decide +kernel
theorem d_MM_one_93 : decode b_MM_one 93 = .ok (.dup, 1) := by decide +kernel
theorem d_MM_one_94 : decode b_MM_one 94 = .ok (.getfield 254, 3) := by decide +kernel
theorem d_MM_one_97 : decode b_MM_one 97 = .ok (.iconst 2, 1) := by decide +kernel
theorem d_MM_one_98 : decode b_MM_one 98 = .ok (.iadd, 1) := by decide +kernel
theorem d_MM_one_99 : decode b_MM_one 99 = .ok (.putfield 254, 3) := by decide +kernel
theorem d_MM_one_102 : decode b_MM_one 102 = .ok (.aload_n 0, 1) := by decide +kernel
theorem d_MM_one_103 : decode b_MM_one 103 = .ok (.iload_n 1, 1) := by decide +kernel
theorem d_MM_one_104 : decode b_MM_one 104 = .ok (.iconst 1, 1) := by decide +kernel
theorem d_MM_one_105 : decode b_MM_one 105 = .ok (.iadd, 1) := by decide +kernel
theorem d_MM_one_106 : decode b_MM_one 106 = .ok (.invokevirtual 284, 3) := by decide +kernel
theorem d_MM_one_109 : decode b_MM_one 109 = .ok (.istore_n 3, 1) := by decide +kernel
theorem d_MM_one_110 : decode b_MM_one 110 = .ok (.aload_n 0, 1) := by decide +kernel
theorem d_MM_one_111 : decode b_MM_one 111 = .ok (.getfield 281, 3) := by decide +kernel
theorem d_MM_one_114 : decode b_MM_one 114 = .ok (.ifCond .ne 13, 3) := by decide +kernel
theorem d_MM_one_117 : decode b_MM_one 117 = .ok (.aload_n 0, 1) := by decide +kernel
theorem d_MM_one_118 : decode b_MM_one 118 = .ok (.iconst 0, 1) := by decide +kernel
theorem d_MM_one_119 : decode b_MM_one 119 = .ok (.invokevirtual 311, 3) := by decide +kernel
theorem d_MM_one_122 : decode b_MM_one 122 = .ok (.bipush 41, 2) := by decide +kernel
theorem d_MM_one_124 : decode b_MM_one 124 = .ok (.if_icmp .eq 8, 3) := by decide +kernel
theorem d_MM_one_127 : decode b_MM_one 127 = .ok (.aload_n 0, 1) := by decide +kernel
theorem d_MM_one_128 : decode b_MM_one 128 = .ok (.invokevirtual 317, 3) := by decide +kernel
theorem d_MM_one_131 : decode b_MM_one 131 = .ok (.ireturn, 1) := by decide +kernel
theorem d_MM_one_132 : decode b_MM_one 132 = .ok (.aload_n 0, 1) := by decide +kernel
theorem d_MM_one_133 : decode b_MM_one 133 = .ok (.dup, 1) := by decide +kernel
theorem d_MM_one_134 : decode b_MM_one 134 = .ok (.getfield 254, 3) := by decide +kernel
theorem d_MM_one_137 : decode b_MM_one 137 = .ok (.iconst 1, 1) := by decide +kernel
theorem d_MM_one_138 : decode b_MM_one 138 = .ok (.iadd, 1) := by decide +kernel
theorem d_MM_one_139 : decode b_MM_one 139 = .ok (.putfield 254, 3) := by decide +kernel
theorem d_MM_one_142 : decode b_MM_one 142 = .ok (.goto 206, 3) := by decide +kernel
theorem d_MM_one_145 : decode b_MM_one 145 = .ok (.iload_n 2, 1) := by decide +kernel
theorem d_MM_one_146 : decode b_MM_one 146 = .ok (.bipush 91, 2) := by decide +kernel
theorem d_MM_one_148 : decode b_MM_one 148 = .ok (.if_icmp .ne 11, 3) := by decide +kernel
theorem d_MM_one_151 : decode b_MM_one 151 = .ok (.aload_n 0, 1) := by decide +kernel
theorem d_MM_one_152 : decode b_MM_one 152 = .ok (.invokevirtual 321, 3) := by decide +kernel
theorem d_MM_one_155 : decode b_MM_one 155 = .ok (.istore_n 3, 1) := by decide +kernel
theorem d_MM_one_156 : decode b_MM_one 156 = .ok (.goto 192, 3) := by decide +kernel
theorem d_MM_one_159 : decode b_MM_one 159 = .ok (.iload_n 2, 1) := by decide +kernel
theorem d_MM_one_160 : decode b_MM_one 160 = .ok (.bipush 92, 2) := by decide +kernel
theorem d_MM_one_162 : decode b_MM_one 162 = .ok (.if_icmp .ne 50, 3) := by decide +kernel
theorem d_MM_one_165 : decode b_MM_one 165 = .ok (.aload_n 0, 1) := by decide +kernel
theorem d_MM_one_166 : decode b_MM_one 166 = .ok (.dup, 1) := by decide +kernel
theorem d_MM_one_167 : decode b_MM_one 167 = .ok (.getfield 254, 3) := by decide +kernel
theorem d_MM_one_170 : decode b_MM_one 170 = .ok (.iconst 1, 1) := by decide +kernel
theorem d_MM_one_171 : decode b_MM_one 171 = .ok (.iadd, 1) := by decide +kernel
theorem d_MM_one_172 : decode b_MM_one 172 = .ok (.putfield 254, 3) := by decide +kernel
theorem d_MM_one_175 : decode b_MM_one 175 = .ok (.aload_n 0, 1) := by decide +kernel
theorem d_MM_one_176 : decode b_MM_one 176 = .ok (.invokevirtual 324, 3) := by decide +kernel
theorem d_MM_one_179 : decode b_MM_one 179 = .ok (.istore 4, 2) := by decide +kernel
theorem d_MM_one_181 : decode b_MM_one 181 = .ok (.aload_n 0, 1) := by decide +kernel
theorem d_MM_one_182 : decode b_MM_one 182 = .ok (.iconst 0, 1) := by decide +kernel
theorem d_MM_one_183 : decode b_MM_one 183 = .ok (.invokevirtual 327, 3) := by decide +kernel
theorem d_MM_one_186 : decode b_MM_one 186 = .ok (.istore 5, 2) := by decide +kernel
theorem d_MM_one_188 : decode b_MM_one 188 = .ok (.iload 5, 2) := by decide +kernel
theorem d_MM_one_190 : decode b_MM_one 190 = .ok (.ifCond .lt 11, 3) := by decide +kernel
theorem d_MM_one_193 : decode b_MM_one 193 = .ok (.aload_n 0, 1) := by decide +kernel
theorem d_MM_one_194 : decode b_MM_one 194 = .ok (.iload 5, 2) := by decide +kernel
theorem d_MM_one_196 : decode b_MM_one 196 = .ok (.iload 5, 2) := by decide +kernel
theorem d_MM_one_198 : decode b_MM_one 198 = .ok (.invokevirtual 331, 3) := by decide +kernel
theorem d_MM_one_201 : decode b_MM_one 201 = .ok (.aload_n 0, 1) := by decide +kernel
theorem d_MM_one_202 : decode b_MM_one 202 = .ok (.iload 4, 2) := by decide +kernel
theorem d_MM_one_204 : decode b_MM_one 204 = .ok (.iconst 0, 1) := by decide +kernel
theorem d_MM_one_205 : decode b_MM_one 205 = .ok (.invokevirtual 335, 3) := by decide +kernel
theorem d_MM_one_208 : decode b_MM_one 208 = .ok (.istore_n 3, 1) := by decide +kernel
theorem d_MM_one_209 : decode b_MM_one 209 = .ok (.goto 139, 3) := by decide +kernel
theorem d_MM_one_212 : decode b_MM_one 212 = .ok (.iload_n 2, 1) := by decide +kernel
theorem d_MM_one_213 : decode b_MM_one 213 = .ok (.bipush 46, 2) := by decide +kernel
theorem d_MM_one_215 : decode b_MM_one 215 = .ok (.if_icmp .ne 56, 3) := by decide +kernel
theorem d_MM_one_218 : decode b_MM_one 218 = .ok (.aload_n 0, 1) := by decide +kernel
theorem d_MM_one_219 : decode b_MM_one 219 = .ok (.dup, 1) := by decide +kernel
theorem d_MM_one_220 : decode b_MM_one 220 = .ok (.getfield 254, 3) := by decide +kernel
theorem d_MM_one_223 : decode b_MM_one 223 = .ok (.iconst 1, 1) := by decide +kernel
theorem d_MM_one_224 : decode b_MM_one 224 = .ok (.iadd, 1) := by decide +kernel
theorem d_MM_one_225 : decode b_MM_one 225 = .ok (.putfield 254, 3) := by decide +kernel
theorem d_MM_one_228 : decode b_MM_one 228 = .ok (.aload_n 0, 1) := by decide +kernel
theorem d_MM_one_229 : decode b_MM_one 229 = .ok (.invokevirtual 324, 3) := by decide +kernel
theorem d_MM_one_232 : decode b_MM_one 232 = .ok (.istore 4, 2) := by decide +kernel
theorem d_MM_one_234 : decode b_MM_one 234 = .ok (.aload_n 0, 1) := by decide +kernel
theorem d_MM_one_235 : decode b_MM_one 235 = .ok (.bipush 10, 2) := by decide +kernel
theorem d_MM_one_237 : decode b_MM_one 237 = .ok (.bipush 10, 2) := by decide +kernel
theorem d_MM_one_239 : decode b_MM_one 239 = .ok (.invokevirtual 331, 3) := by decide +kernel
theorem d_MM_one_242 : decode b_MM_one 242 = .ok (.aload_n 0, 1) := by decide +kernel
theorem d_MM_one_243 : decode b_MM_one 243 = .ok (.bipush 13, 2) := by decide +kernel
theorem d_MM_one_245 : decode b_MM_one 245 = .ok (.bipush 13, 2) := by decide +kernel
theorem d_MM_one_247 : decode b_MM_one 247 = .ok (.invokevirtual 331, 3) := by decide +kernel
theorem d_MM_one_250 : decode b_MM_one 250 = .ok (.aload_n 0, 1) := by decide +kernel
theorem d_MM_one_251 : decode b_MM_one 251 = .ok (.sipush 8232, 3) := by decide +kernel
theorem d_MM_one_254 : decode b_MM_one 254 = .ok (.sipush 8233, 3) := by decide +kernel
theorem d_MM_one_257 : decode b_MM_one 257 = .ok (.invokevirtual 331, 3) := by decide +kernel
theorem d_MM_one_260 : decode b_MM_one 260 = .ok (.aload_n 0, 1) := by decide +kernel
theorem d_MM_one_261 : decode b_MM_one 261 = .ok (.iload 4, 2) := by decide +kernel
theorem d_MM_one_263 : decode b_MM_one 263 = .ok (.iconst 1, 1) := by decide +kernel
theorem d_MM_one_264 : decode b_MM_one 264 = .ok (.invokevirtual 335, 3) := by decide +kernel
theorem d_MM_one_267 : decode b_MM_one 267 = .ok (.istore_n 3, 1) := by decide +kernel
theorem d_MM_one_268 : decode b_MM_one 268 = .ok (.goto 80, 3) := by decide +kernel
theorem d_MM_one_271 : decode b_MM_one 271 = .ok (.iload_n 2, 1) := by decide +kernel
theorem d_MM_one_272 : decode b_MM_one 272 = .ok (.bipush 42, 2) := by decide +kernel
theorem d_MM_one_274 : decode b_MM_one 274 = .ok (.if_icmp .eq 39, 3) := by decide +kernel
theorem d_MM_one_277 : decode b_MM_one 277 = .ok (.iload_n 2, 1) := by decide +kernel
theorem d_MM_one_278 : decode b_MM_one 278 = .ok (.bipush 43, 2) := by decide +kernel
theorem d_MM_one_280 : decode b_MM_one 280 = .ok (.if_icmp .eq 33, 3) := by decide +kernel
theorem d_MM_one_283 : decode b_MM_one 283 = .ok (.iload_n 2, 1) := by decide +kernel
theorem d_MM_one_284 : decode b_MM_one 284 = .ok (.bipush 63, 2) := by decide +kernel
theorem d_MM_one_286 : decode b_MM_one 286 = .ok (.if_icmp .eq 27, 3) := by decide +kernel
theorem d_MM_one_289 : decode b_MM_one 289 = .ok (.iload_n 2, 1) := by decide +kernel
theorem d_MM_one_290 : decode b_MM_one 290 = .ok (.bipush 41, 2) := by decide +kernel
theorem d_MM_one_292 : decode b_MM_one 292 = .ok (.if_icmp .eq 21, 3) := by decide +kernel
theorem d_MM_one_295 : decode b_MM_one 295 = .ok (.iload_n 2, 1) := by decide +kernel
theorem d_MM_one_296 : decode b_MM_one 296 = .ok (.bipush 93, 2) := by decide +kernel
theorem d_MM_one_298 : decode b_MM_one 298 = .ok (.if_icmp .eq 15, 3) := by decide +kernel
theorem d_MM_one_301 : decode b_MM_one 301 = .ok (.iload_n 2, 1) := by decide +kernel
theorem d_MM_one_302 : decode b_MM_one 302 = .ok (.bipush 123, 2) := by decide +kernel
theorem d_MM_one_304 : decode b_MM_one 304 = .ok (.if_icmp .eq 9, 3) := by decide +kernel
theorem d_MM_one_307 : decode b_MM_one 307 = .ok (.iload_n 2, 1) := by decide +kernel
theorem d_MM_one_308 : decode b_MM_one 308 = .ok (.bipush 125, 2) := by decide +kernel
theorem d_MM_one_310 : decode b_MM_one 310 = .ok (.if_icmp .ne 8, 3) := by decide +kernel
theorem d_MM_one_313 : decode b_MM_one 313 = .ok (.aload_n 0, 1) := by decide +kernel
theorem d_MM_one_314 : decode b_MM_one 314 = .ok (.invokevirtual 317, 3) := by decide +kernel
theorem d_MM_one_317 : decode b_MM_one 317 = .ok (.ireturn, 1) := by decide +kernel
theorem d_MM_one_318 : decode b_MM_one 318 = .ok (.aload_n 0, 1) := by decide +kernel
theorem d_MM_one_319 : decode b_MM_one 319 = .ok (.dup, 1) := by decide +kernel
theorem d_MM_one_320 : decode b_MM_one 320 = .ok (.getfield 254, 3) := by decide +kernel
theorem d_MM_one_323 : decode b_MM_one 323 = .ok (.iconst 1, 1) := by decide +kernel
theorem d_MM_one_324 : decode b_MM_one 324 = .ok (.iadd, 1) := by decide +kernel
theorem d_MM_one_325 : decode b_MM_one 325 = .ok (.putfield 254, 3) := by decide +kernel
theorem d_MM_one_328 : decode b_MM_one 328 = .ok (.aload_n 0, 1) := by decide +kernel
theorem d_MM_one_329 : decode b_MM_one 329 = .ok (.invokevirtual 324, 3) := by decide +kernel
theorem d_MM_one_332 : decode b_MM_one 332 = .ok (.istore 4, 2) := by decide +kernel
theorem d_MM_one_334 : decode b_MM_one 334 = .ok (.aload_n 0, 1) := by decide +kernel
theorem d_MM_one_335 : decode b_MM_one 335 = .ok (.iload_n 2, 1) := by decide +kernel
theorem d_MM_one_336 : decode b_MM_one 336 = .ok (.iload_n 2, 1) := by decide +kernel
theorem d_MM_one_337 : decode b_MM_one 337 = .ok (.invokevirtual 331, 3) := by decide +kernel
theorem d_MM_one_340 : decode b_MM_one 340 = .ok (.aload_n 0, 1) := by decide +kernel
theorem d_MM_one_341 : decode b_MM_one 341 = .ok (.iload 4, 2) := by decide +kernel
theorem d_MM_one_343 : decode b_MM_one 343 = .ok (.iconst 0, 1) := by decide +kernel
theorem d_MM_one_344 : decode b_MM_one 344 = .ok (.invokevirtual 335, 3) := by decide +kernel
theorem d_MM_one_347 : decode b_MM_one 347 = .ok (.istore_n 3, 1) := by decide +kernel
theorem d_MM_one_348 : decode b_MM_one 348 = .ok (.aload_n 0, 1) := by decide +kernel
theorem d_MM_one_349 : decode b_MM_one 349 = .ok (.getfield 281, 3) := by decide +kernel
theorem d_MM_one_352 : decode b_MM_one 352 = .ok (.ifCond .eq 7, 3) := by decide +kernel
theorem d_MM_one_355 : decode b_MM_one 355 = .ok (.iload_n 3, 1) := by decide +kernel
theorem d_MM_one_356 : decode b_MM_one 356 = .ok (.goto 8, 3) := by decide +kernel
theorem d_MM_one_359 : decode b_MM_one 359 = .ok (.aload_n 0, 1) := by decide +kernel
theorem d_MM_one_360 : decode b_MM_one 360 = .ok (.iload_n 3, 1) := by decide +kernel
theorem d_MM_one_361 : decode b_MM_one 361 = .ok (.invokevirtual 339, 3) := by decide +kernel
theorem d_MM_one_364 : decode b_MM_one 364 = .ok (.ireturn, 1) := by decide +kernel
theorem d_MM_row_0 : decode b_MM_row 0 = .ok (.aload_n 0, 1) := by decide +kernel
theorem d_MM_row_1 : decode b_MM_row 1 = .ok (.iconst 4, 1) := by decide +kernel
theorem d_MM_row_2 : decode b_MM_row 2 = .ok (.iconst (-1), 1) := by decide +kernel
theorem d_MM_row_3 : decode b_MM_row 3 = .ok (.invokevirtual 304, 3) := by decide +kernel
theorem d_MM_row_6 : decode b_MM_row 6 = .ok (.istore_n 2, 1) := by decide +kernel
theorem d_MM_row_7 : decode b_MM_row 7 = .ok (.iconst (-1), 1) := by decide +kernel
theorem d_MM_row_8 : decode b_MM_row 8 = .ok (.istore_n 3, 1) := by decide +kernel
theorem d_MM_row_9 : decode b_MM_row 9 = .ok (.aload_n 0, 1) := by decide +kernel
theorem d_MM_row_10 : decode b_MM_row 10 = .ok (.getfield 281, 3) := by decide +kernel
theorem d_MM_row_13 : decode b_MM_row 13 = .ok (.ifCond .ne 70, 3) := by decide +kernel
theorem d_MM_row_16 : decode b_MM_row 16 = .ok (.aload_n 0, 1) := by decide +kernel
theorem d_MM_row_17 : decode b_MM_row 17 = .ok (.getfield 254, 3) := by decide +kernel
theorem d_MM_row_20 : decode b_MM_row 20 = .ok (.aload_n 0, 1) := by decide +kernel
theorem d_MM_row_21 : decode b_MM_row 21 = .ok (.getfield 257, 3) := by decide +kernel
theorem d_MM_row_24 : decode b_MM_row 24 = .ok (.if_icmp .ge 59, 3) := by decide +kernel
theorem d_MM_row_27 : decode b_MM_row 27 = .ok (.aload_n 0, 1) := by decide +kernel
theorem d_MM_row_28 : decode b_MM_row 28 = .ok (.iconst 0, 1) := by decide +kernel
theorem d_MM_row_29 : decode b_MM_row 29 = .ok (.invokevirtual 311, 3) := by decide +kernel
theorem d_MM_row_32 : decode b_MM_row 32 = .ok (.bipush 124, 2) := by decide +kernel
theorem d_MM_row_34 : decode b_MM_row 34 = .ok (.if_icmp .eq 49, 3) := by decide +kernel
theorem d_MM_row_37 : decode b_MM_row 37 = .ok (.aload_n 0, 1) := by decide +kernel
theorem d_MM_row_38 : decode b_MM_row 38 = .ok (.iconst 0, 1) := by decide +kernel
theorem d_MM_row_39 : decode b_MM_row 39 = .ok (.invokevirtual 311, 3) := by decide +kernel
theorem d_MM_row_42 : decode b_MM_row 42 = .ok (.bipush 41, 2) := by decide +kernel
theorem d_MM_row_44 : decode b_MM_row 44 = .ok (.if_icmp .eq 39, 3) := by decide +kernel
theorem d_MM_row_47 : decode b_MM_row 47 = .ok (.aload_n 0, 1) := by decide +kernel
theorem d_MM_row_48 : decode b_MM_row 48 = .ok (.iload_n 1, 1) := by decide +kernel
theorem d_MM_row_49 : decode b_MM_row 49 = .ok (.invokevirtual 314, 3) := by decide +kernel
theorem d_MM_row_52 : decode b_MM_row 52 = .ok (.istore 4, 2) := by decide +kernel
theorem d_MM_row_54 : decode b_MM_row 54 = .ok (.iload_n 3, 1) := by decide +kernel
theorem d_MM_row_55 : decode b_MM_row 55 = .ok (.ifCond .ge 14, 3) := by decide +kernel
theorem d_MM_row_58 : decode b_MM_row 58 = .ok (.aload_n 0, 1) := by decide +kernel
theorem d_MM_row_59 : decode b_MM_row 59 = .ok (.getfield 30, 3) := by decide +kernel
theorem d_MM_row_62 : decode b_MM_row 62 = .ok (.iload_n 2, 1) := by decide +kernel
theorem d_MM_row_63 : decode b_MM_row 63 = .ok (.iload 4, 2) := by decide +kernel
theorem d_MM_row_65 : decode b_MM_row 65 = .ok (.iastore, 1) := by decide +kernel
theorem d_MM_row_66 : decode b_MM_row 66 = .ok (.goto 11, 3) := by decide +kernel
theorem d_MM_row_69 : decode b_MM_row 69 = .ok (.aload_n 0, 1) := by decide +kernel
theorem d_MM_row_70 : decode b_MM_row 70 = .ok (.getfield 39, 3) := by decide +kernel
theorem d_MM_row_73 : decode b_MM_row 73 = .ok (.iload_n 3, 1) := by decide +kernel
theorem d_MM_row_74 : decode b_MM_row 74 = .ok (.iload 4, 2) := by decide +kernel
theorem d_MM_row_76 : decode b_MM_row 76 = .ok (.iastore, 1) := by decide +kernel
theorem d_MM_row_77 : decode b_MM_row 77 = .ok (.iload 4, 2) := by decide +kernel
theorem d_MM_row_79 : decode b_MM_row 79 = .ok (.istore_n 3, 1) := by decide +kernel
theorem d_MM_row_80 : decode b_MM_row 80 = .ok (.goto (-71), 3) := by decide +kernel
theorem d_MM_row_83 : decode b_MM_row 83 = .ok (.iload_n 2, 1) := by decide +kernel
theorem d_MM_row_84 : decode b_MM_row 84 = .ok (.ireturn, 1) := by decide +kernel
theorem d_MM_ways_0 : decode b_MM_ways 0 = .ok (.aload_n 0, 1) := by decide +kernel
theorem d_MM_ways_1 : decode b_MM_ways 1 = .ok (.iconst 5, 1) := by decide +kernel
theorem d_MM_ways_2 : decode b_MM_ways 2 = .ok (.iconst (-1), 1) := by decide +kernel
theorem d_MM_ways_3 : decode b_MM_ways 3 = .ok (.invokevirtual 304, 3) := by decide +kernel
theorem d_MM_ways_6 : decode b_MM_ways 6 = .ok (.istore_n 2, 1) := by decide +kernel
theorem d_MM_ways_7 : decode b_MM_ways 7 = .ok (.iconst (-1), 1) := by decide +kernel
theorem d_MM_ways_8 : decode b_MM_ways 8 = .ok (.istore_n 3, 1) := by decide +kernel
theorem d_MM_ways_9 : decode b_MM_ways 9 = .ok (.aload_n 0, 1) := by decide +kernel
theorem d_MM_ways_10 : decode b_MM_ways 10 = .ok (.iload_n 1, 1) := by decide +kernel
theorem d_MM_ways_11 : decode b_MM_ways 11 = .ok (.invokevirtual 308, 3) := by decide +kernel
theorem d_MM_ways_14 : decode b_MM_ways 14 = .ok (.istore 4, 2) := by decide +kernel
theorem d_MM_ways_16 : decode b_MM_ways 16 = .ok (.aload_n 0, 1) := by decide +kernel
theorem d_MM_ways_17 : decode b_MM_ways 17 = .ok (.getfield 281, 3) := by decide +kernel
theorem d_MM_ways_20 : decode b_MM_ways 20 = .ok (.ifCond .eq 5, 3) := by decide +kernel
theorem d_MM_ways_23 : decode b_MM_ways 23 = .ok (.iload_n 2, 1) := by decide +kernel
theorem d_MM_ways_24 : decode b_MM_ways 24 = .ok (.ireturn, 1) := by decide +kernel
theorem d_MM_ways_25 : decode b_MM_ways 25 = .ok (.iload_n 3, 1) := by decide +kernel
theorem d_MM_ways_26 : decode b_MM_ways 26 = .ok (.ifCond .ge 14, 3) := by decide +kernel
theorem d_MM_ways_29 : decode b_MM_ways 29 = .ok (.aload_n 0, 1) := by decide +kernel
theorem d_MM_ways_30 : decode b_MM_ways 30 = .ok (.getfield 30, 3) := by decide +kernel
theorem d_MM_ways_33 : decode b_MM_ways 33 = .ok (.iload_n 2, 1) := by decide +kernel
theorem d_MM_ways_34 : decode b_MM_ways 34 = .ok (.iload 4, 2) := by decide +kernel
theorem d_MM_ways_36 : decode b_MM_ways 36 = .ok (.iastore, 1) := by decide +kernel
theorem d_MM_ways_37 : decode b_MM_ways 37 = .ok (.goto 11, 3) := by decide +kernel
theorem d_MM_ways_40 : decode b_MM_ways 40 = .ok (.aload_n 0, 1) := by decide +kernel
theorem d_MM_ways_41 : decode b_MM_ways 41 = .ok (.getfield 39, 3) := by decide +kernel
theorem d_MM_ways_44 : decode b_MM_ways 44 = .ok (.iload_n 3, 1) := by decide +kernel
theorem d_MM_ways_45 : decode b_MM_ways 45 = .ok (.iload 4, 2) := by decide +kernel
theorem d_MM_ways_47 : decode b_MM_ways 47 = .ok (.iastore, 1) := by decide +kernel
theorem d_MM_ways_48 : decode b_MM_ways 48 = .ok (.iload 4, 2) := by decide +kernel
theorem d_MM_ways_50 : decode b_MM_ways 50 = .ok (.istore_n 3, 1) := by decide +kernel
theorem d_MM_ways_51 : decode b_MM_ways 51 = .ok (.aload_n 0, 1) := by decide +kernel
theorem d_MM_ways_52 : decode b_MM_ways 52 = .ok (.getfield 33, 3) := by decide +kernel
theorem d_MM_ways_55 : decode b_MM_ways 55 = .ok (.iload_n 2, 1) := by decide +kernel
theorem d_MM_ways_56 : decode b_MM_ways 56 = .ok (.dup2, 1) := by decide +kernel
theorem d_MM_ways_57 : decode b_MM_ways 57 = .ok (.iaload, 1) := by decide +kernel
theorem d_MM_ways_58 : decode b_MM_ways 58 = .ok (.iconst 1, 1) := by decide +kernel
theorem d_MM_ways_59 : decode b_MM_ways 59 = .ok (.iadd, 1) := by decide +kernel
theorem d_MM_ways_60 : decode b_MM_ways 60 = .ok (.iastore, 1) := by decide +kernel
theorem d_MM_ways_61 : decode b_MM_ways 61 = .ok (.aload_n 0, 1) := by decide +kernel
theorem d_MM_ways_62 : decode b_MM_ways 62 = .ok (.iconst 0, 1) := by decide +kernel
theorem d_MM_ways_63 : decode b_MM_ways 63 = .ok (.invokevirtual 311, 3) := by decide +kernel
theorem d_MM_ways_66 : decode b_MM_ways 66 = .ok (.bipush 124, 2) := by decide +kernel
theorem d_MM_ways_68 : decode b_MM_ways 68 = .ok (.if_icmp .eq 5, 3) := by decide +kernel
theorem d_MM_ways_71 : decode b_MM_ways 71 = .ok (.iload_n 2, 1) := by decide +kernel
theorem d_MM_ways_72 : decode b_MM_ways 72 = .ok (.ireturn, 1) := by decide +kernel
theorem d_MM_ways_73 : decode b_MM_ways 73 = .ok (.aload_n 0, 1) := by decide +kernel
theorem d_MM_ways_74 : decode b_MM_ways 74 = .ok (.dup, 1) := by decide +kernel
theorem d_MM_ways_75 : decode b_MM_ways 75 = .ok (.getfield 254, 3) := by decide +kernel
theorem d_MM_ways_78 : decode b_MM_ways 78 = .ok (.iconst 1, 1) := by decide +kernel
theorem d_MM_ways_79 : decode b_MM_ways 79 = .ok (.iadd, 1) := by decide +kernel
theorem d_MM_ways_80 : decode b_MM_ways 80 = .ok (.putfield 254, 3) := by decide +kernel
theorem d_MM_ways_83 : decode b_MM_ways 83 = .ok (.goto (-74), 3) := by decide +kernel
theorem d_MM_size_0 : decode b_MM_size 0 = .ok (.lconst 0, 1) := by decide +kernel
theorem d_MM_size_1 : decode b_MM_size 1 = .ok (.lstore_n 2, 1) := by decide +kernel
theorem d_MM_size_2 : decode b_MM_size 2 = .ok (.aload_n 0, 1) := by decide +kernel
theorem d_MM_size_3 : decode b_MM_size 3 = .ok (.getfield 27, 3) := by decide +kernel
theorem d_MM_size_6 : decode b_MM_size 6 = .ok (.iload_n 1, 1) := by decide +kernel
theorem d_MM_size_7 : decode b_MM_size 7 = .ok (.iaload, 1) := by decide +kernel
theorem d_MM_size_8 : decode b_MM_size 8 = .ok (.tableswitch 175 0 6 #[173, 175, 175, 175, 44, 44, 110], 44) := by decide +kernel
theorem d_MM_size_52 : decode b_MM_size 52 = .ok (.aload_n 0, 1) := by decide +kernel
theorem d_MM_size_53 : decode b_MM_size 53 = .ok (.getfield 30, 3) := by decide +kernel
theorem d_MM_size_56 : decode b_MM_size 56 = .ok (.iload_n 1, 1) := by decide +kernel
theorem d_MM_size_57 : decode b_MM_size 57 = .ok (.iaload, 1) := by decide +kernel
theorem d_MM_size_58 : decode b_MM_size 58 = .ok (.istore 4, 2) := by decide +kernel
theorem d_MM_size_60 : decode b_MM_size 60 = .ok (.iload 4, 2) := by decide +kernel
theorem d_MM_size_62 : decode b_MM_size 62 = .ok (.ifCond .lt 30, 3) := by decide +kernel
theorem d_MM_size_65 : decode b_MM_size 65 = .ok (.lload_n 2, 1) := by decide +kernel
theorem d_MM_size_66 : decode b_MM_size 66 = .ok (.aload_n 0, 1) := by decide +kernel
theorem d_MM_size_67 : decode b_MM_size 67 = .ok (.iload 4, 2) := by decide +kernel
theorem d_MM_size_69 : decode b_MM_size 69 = .ok (.invokevirtual 287, 3) := by decide +kernel
theorem d_MM_size_72 : decode b_MM_size 72 = .ok (.ladd, 1) := by decide +kernel
theorem d_MM_size_73 : decode b_MM_size 73 = .ok (.ldc2_w 363, 3) := by decide +kernel
theorem d_MM_size_76 : decode b_MM_size 76 = .ok (.invokestatic 365, 3) := by decide +kernel
theorem d_MM_size_79 : decode b_MM_size 79 = .ok (.lstore_n 2, 1) := by decide +kernel
theorem d_MM_size_80 : decode b_MM_size 80 = .ok (.aload_n 0, 1) := by decide +kernel
theorem d_MM_size_81 : decode b_MM_size 81 = .ok (.getfield 39, 3) := by decide +kernel
theorem d_MM_size_84 : decode b_MM_size 84 = .ok (.iload 4, 2) := by decide +kernel
theorem d_MM_size_86 : decode b_MM_size 86 = .ok (.iaload, 1) := by decide +kernel
theorem d_MM_size_87 : decode b_MM_size 87 = .ok (.istore 4, 2) := by decide +kernel
theorem d_MM_size_89 : decode b_MM_size 89 = .ok (.goto (-29), 3) := by decide +kernel
theorem d_MM_size_92 : decode b_MM_size 92 = .ok (.aload_n 0, 1) := by decide +kernel
theorem d_MM_size_93 : decode b_MM_size 93 = .ok (.getfield 27, 3) := by decide +kernel
theorem d_MM_size_96 : decode b_MM_size 96 = .ok (.iload_n 1, 1) := by decide +kernel
theorem d_MM_size_97 : decode b_MM_size 97 = .ok (.iaload, 1) := by decide +kernel
theorem d_MM_size_98 : decode b_MM_size 98 = .ok (.iconst 5, 1) := by decide +kernel
theorem d_MM_size_99 : decode b_MM_size 99 = .ok (.if_icmp .ne 17, 3) := by decide +kernel
theorem d_MM_size_102 : decode b_MM_size 102 = .ok (.lload_n 2, 1) := by decide +kernel
theorem d_MM_size_103 : decode b_MM_size 103 = .ok (.aload_n 0, 1) := by decide +kernel
theorem d_MM_size_104 : decode b_MM_size 104 = .ok (.getfield 33, 3) := by decide +kernel
theorem d_MM_size_107 : decode b_MM_size 107 = .ok (.iload_n 1, 1) := by decide +kernel
theorem d_MM_size_108 : decode b_MM_size 108 = .ok (.iaload, 1) := by decide +kernel
theorem d_MM_size_109 : decode b_MM_size 109 = .ok (.i2l, 1) := by decide +kernel
theorem d_MM_size_110 : decode b_MM_size 110 = .ok (.ladd, 1) := by decide +kernel
theorem d_MM_size_111 : decode b_MM_size 111 = .ok (.lconst 1, 1) := by decide +kernel
theorem d_MM_size_112 : decode b_MM_size 112 = .ok (.lsub, 1) := by decide +kernel
theorem d_MM_size_113 : decode b_MM_size 113 = .ok (.goto 4, 3) := by decide +kernel
theorem d_MM_size_116 : decode b_MM_size 116 = .ok (.lload_n 2, 1) := by decide +kernel
theorem d_MM_size_117 : decode b_MM_size 117 = .ok (.lreturn, 1) := by decide +kernel
theorem d_MM_size_118 : decode b_MM_size 118 = .ok (.lconst 1, 1) := by decide +kernel
theorem d_MM_size_119 : decode b_MM_size 119 = .ok (.aload_n 0, 1) := by decide +kernel
theorem d_MM_size_120 : decode b_MM_size 120 = .ok (.aload_n 0, 1) := by decide +kernel
theorem d_MM_size_121 : decode b_MM_size 121 = .ok (.getfield 30, 3) := by decide +kernel
theorem d_MM_size_124 : decode b_MM_size 124 = .ok (.iload_n 1, 1) := by decide +kernel
theorem d_MM_size_125 : decode b_MM_size 125 = .ok (.iaload, 1) := by decide +kernel
theorem d_MM_size_126 : decode b_MM_size 126 = .ok (.invokevirtual 287, 3) := by decide +kernel
theorem d_MM_size_129 : decode b_MM_size 129 = .ok (.invokestatic 371, 3) := by decide +kernel
theorem d_MM_size_132 : decode b_MM_size 132 = .ok (.lstore_n 2, 1) := by decide +kernel
theorem d_MM_size_133 : decode b_MM_size 133 = .ok (.aload_n 0, 1) := by decide +kernel
theorem d_MM_size_134 : decode b_MM_size 134 = .ok (.getfield 33, 3) := by decide +kernel
theorem d_MM_size_137 : decode b_MM_size 137 = .ok (.iload_n 1, 1) := by decide +kernel
theorem d_MM_size_138 : decode b_MM_size 138 = .ok (.iaload, 1) := by decide +kernel
theorem d_MM_size_139 : decode b_MM_size 139 = .ok (.i2l, 1) := by decide +kernel
theorem d_MM_size_140 : decode b_MM_size 140 = .ok (.lload_n 2, 1) := by decide +kernel
theorem d_MM_size_141 : decode b_MM_size 141 = .ok (.lmul, 1) := by decide +kernel
theorem d_MM_size_142 : decode b_MM_size 142 = .ok (.aload_n 0, 1) := by decide +kernel
theorem d_MM_size_143 : decode b_MM_size 143 = .ok (.getfield 36, 3) := by decide +kernel
theorem d_MM_size_146 : decode b_MM_size 146 = .ok (.iload_n 1, 1) := by decide +kernel
theorem d_MM_size_147 : decode b_MM_size 147 = .ok (.iaload, 1) := by decide +kernel
theorem d_MM_size_148 : decode b_MM_size 148 = .ok (.ifCond .ge 7, 3) := by decide +kernel
theorem d_MM_size_151 : decode b_MM_size 151 = .ok (.lload_n 2, 1) := by decide +kernel
theorem d_MM_size_152 : decode b_MM_size 152 = .ok (.goto 19, 3) := by decide +kernel
theorem d_MM_size_155 : decode b_MM_size 155 = .ok (.aload_n 0, 1) := by decide +kernel
theorem d_MM_size_156 : decode b_MM_size 156 = .ok (.getfield 36, 3) := by decide +kernel
theorem d_MM_size_159 : decode b_MM_size 159 = .ok (.iload_n 1, 1) := by decide +kernel
theorem d_MM_size_160 : decode b_MM_size 160 = .ok (.iaload, 1) := by decide +kernel
theorem d_MM_size_161 : decode b_MM_size 161 = .ok (.aload_n 0, 1) := by decide +kernel
theorem d_MM_size_162 : decode b_MM_size 162 = .ok (.getfield 33, 3) := by decide +kernel
theorem d_MM_size_165 : decode b_MM_size 165 = .ok (.iload_n 1, 1) := by decide +kernel
theorem d_MM_size_166 : decode b_MM_size 166 = .ok (.iaload, 1) := by decide +kernel
theorem d_MM_size_167 : decode b_MM_size 167 = .ok (.isub, 1) := by decide +kernel
theorem d_MM_size_168 : decode b_MM_size 168 = .ok (.i2l, 1) := by decide +kernel
theorem d_MM_size_169 : decode b_MM_size 169 = .ok (.lload_n 2, 1) := by decide +kernel
theorem d_MM_size_170 : decode b_MM_size 170 = .ok (.lmul, 1) := by decide +kernel
theorem d_MM_size_171 : decode b_MM_size 171 = .ok (.ladd, 1) := by decide +kernel
theorem d_MM_size_172 : decode b_MM_size 172 = .ok (.lconst 1, 1) := by decide +kernel
theorem d_MM_size_173 : decode b_MM_size 173 = .ok (.ladd, 1) := by decide +kernel
theorem d_MM_size_174 : decode b_MM_size 174 = .ok (.ldc2_w 363, 3) := by decide +kernel
theorem d_MM_size_177 : decode b_MM_size 177 = .ok (.invokestatic 365, 3) := by decide +kernel
theorem d_MM_size_180 : decode b_MM_size 180 = .ok (.lreturn, 1) := by decide +kernel
theorem d_MM_size_181 : decode b_MM_size 181 = .ok (.lconst 0, 1) := by decide +kernel
theorem d_MM_size_182 : decode b_MM_size 182 = .ok (.lreturn, 1) := by decide +kernel
theorem d_MM_size_183 : decode b_MM_size 183 = .ok (.lconst 1, 1) := by decide +kernel
theorem d_MM_size_184 : decode b_MM_size 184 = .ok (.lreturn, 1) := by decide +kernel
theorem d_MM_step_0 : decode b_MM_step 0 = .ok (.aload_n 0, 1) := by decide +kernel
theorem d_MM_step_1 : decode b_MM_step 1 = .ok (.getfield 59, 3) := by decide +kernel
theorem d_MM_step_4 : decode b_MM_step 4 = .ok (.aload_n 0, 1) := by decide +kernel
theorem d_MM_step_5 : decode b_MM_step 5 = .ok (.getfield 293, 3) := by decide +kernel
theorem d_MM_step_8 : decode b_MM_step 8 = .ok (.iload_n 1, 1) := by decide +kernel
theorem d_MM_step_9 : decode b_MM_step 9 = .ok (.iastore, 1) := by decide +kernel
theorem d_MM_step_10 : decode b_MM_step 10 = .ok (.aload_n 0, 1) := by decide +kernel
theorem d_MM_step_11 : decode b_MM_step 11 = .ok (.getfield 62, 3) := by decide +kernel
theorem d_MM_step_14 : decode b_MM_step 14 = .ok (.aload_n 0, 1) := by decide +kernel
theorem d_MM_step_15 : decode b_MM_step 15 = .ok (.getfield 293, 3) := by decide +kernel
theorem d_MM_step_18 : decode b_MM_step 18 = .ok (.iload_n 2, 1) := by decide +kernel
theorem d_MM_step_19 : decode b_MM_step 19 = .ok (.iastore, 1) := by decide +kernel
theorem d_MM_step_20 : decode b_MM_step 20 = .ok (.aload_n 0, 1) := by decide +kernel
theorem d_MM_step_21 : decode b_MM_step 21 = .ok (.getfield 65, 3) := by decide +kernel
theorem d_MM_step_24 : decode b_MM_step 24 = .ok (.aload_n 0, 1) := by decide +kernel
theorem d_MM_step_25 : decode b_MM_step 25 = .ok (.getfield 293, 3) := by decide +kernel
theorem d_MM_step_28 : decode b_MM_step 28 = .ok (.iload_n 3, 1) := by decide +kernel
theorem d_MM_step_29 : decode b_MM_step 29 = .ok (.iastore, 1) := by decide +kernel
theorem d_MM_step_30 : decode b_MM_step 30 = .ok (.aload_n 0, 1) := by decide +kernel
theorem d_MM_step_31 : decode b_MM_step 31 = .ok (.dup, 1) := by decide +kernel
theorem d_MM_step_32 : decode b_MM_step 32 = .ok (.getfield 293, 3) := by decide +kernel
theorem d_MM_step_35 : decode b_MM_step 35 = .ok (.dup_x1, 1) := by decide +kernel
theorem d_MM_step_36 : decode b_MM_step 36 = .ok (.iconst 1, 1) := by decide +kernel
theorem d_MM_step_37 : decode b_MM_step 37 = .ok (.iadd, 1) := by decide +kernel
theorem d_MM_step_38 : decode b_MM_step 38 = .ok (.putfield 293, 3) := by decide +kernel
theorem d_MM_step_41 : decode b_MM_step 41 = .ok (.ireturn, 1) := by decide +kernel
theorem d_MM_compile_0 : decode b_MM_compile 0 = .ok (.aload_n 0, 1) := by decide +kernel
theorem d_MM_compile_1 : decode b_MM_compile 1 = .ok (.getfield 27, 3) := by decide +kernel
theorem d_MM_compile_4 : decode b_MM_compile 4 = .ok (.iload_n 1, 1) := by decide +kernel
theorem d_MM_compile_5 : decode b_MM_compile 5 = .ok (.iaload, 1) := by decide +kernel
theorem d_MM_compile_6 : decode b_MM_compile 6 = .ok (.tableswitch 371 1 6 #[38, 54, 65, 76, 105, 209], 38) := by decide +kernel
theorem d_MM_compile_44 : decode b_MM_compile 44 = .ok (.aload_n 0, 1) := by decide +kernel
theorem d_MM_compile_45 : decode b_MM_compile 45 = .ok (.iconst 1, 1) := by decide +kernel
theorem d_MM_compile_46 : decode b_MM_compile 46 = .ok (.aload_n 0, 1) := by decide +kernel
theorem d_MM_compile_47 : decode b_MM_compile 47 = .ok (.getfield 30, 3) := by decide +kernel
theorem d_MM_compile_50 : decode b_MM_compile 50 = .ok (.iload_n 1, 1) := by decide +kernel
theorem d_MM_compile_51 : decode b_MM_compile 51 = .ok (.iaload, 1) := by decide +kernel
theorem d_MM_compile_52 : decode b_MM_compile 52 = .ok (.iconst 0, 1) := by decide +kernel
theorem d_MM_compile_53 : decode b_MM_compile 53 = .ok (.invokevirtual 300, 3) := by decide +kernel
theorem d_MM_compile_56 : decode b_MM_compile 56 = .ok (.pop, 1) := by decide +kernel
theorem d_MM_compile_57 : decode b_MM_compile 57 = .ok (.goto 320, 3) := by decide +kernel
theorem d_MM_compile_60 : decode b_MM_compile 60 = .ok (.aload_n 0, 1) := by decide +kernel
theorem d_MM_compile_61 : decode b_MM_compile 61 = .ok (.iconst 2, 1) := by decide +kernel
theorem d_MM_compile_62 : decode b_MM_compile 62 = .ok (.iconst 0, 1) := by decide +kernel
theorem d_MM_compile_63 : decode b_MM_compile 63 = .ok (.iconst 0, 1) := by decide +kernel
theorem d_MM_compile_64 : decode b_MM_compile 64 = .ok (.invokevirtual 300, 3) := by decide +kernel
theorem d_MM_compile_67 : decode b_MM_compile 67 = .ok (.pop, 1) := by decide +kernel
theorem d_MM_compile_68 : decode b_MM_compile 68 = .ok (.goto 309, 3) := by decide +kernel
theorem d_MM_compile_71 : decode b_MM_compile 71 = .ok (.aload_n 0, 1) := by decide +kernel
theorem d_MM_compile_72 : decode b_MM_compile 72 = .ok (.iconst 3, 1) := by decide +kernel
theorem d_MM_compile_73 : decode b_MM_compile 73 = .ok (.iconst 0, 1) := by decide +kernel
theorem d_MM_compile_74 : decode b_MM_compile 74 = .ok (.iconst 0, 1) := by decide +kernel
theorem d_MM_compile_75 : decode b_MM_compile 75 = .ok (.invokevirtual 300, 3) := by decide +kernel
theorem d_MM_compile_78 : decode b_MM_compile 78 = .ok (.pop, 1) := by decide +kernel
theorem d_MM_compile_79 : decode b_MM_compile 79 = .ok (.goto 298, 3) := by decide +kernel
theorem d_MM_compile_82 : decode b_MM_compile 82 = .ok (.aload_n 0, 1) := by decide +kernel
theorem d_MM_compile_83 : decode b_MM_compile 83 = .ok (.getfield 30, 3) := by decide +kernel
theorem d_MM_compile_86 : decode b_MM_compile 86 = .ok (.iload_n 1, 1) := by decide +kernel
theorem d_MM_compile_87 : decode b_MM_compile 87 = .ok (.iaload, 1) := by decide +kernel
theorem d_MM_compile_88 : decode b_MM_compile 88 = .ok (.istore_n 2, 1) := by decide +kernel
theorem d_MM_compile_89 : decode b_MM_compile 89 = .ok (.iload_n 2, 1) := by decide +kernel
theorem d_MM_compile_90 : decode b_MM_compile 90 = .ok (.ifCond .lt 18, 3) := by decide +kernel
theorem d_MM_compile_93 : decode b_MM_compile 93 = .ok (.aload_n 0, 1) := by decide +kernel
theorem d_MM_compile_94 : decode b_MM_compile 94 = .ok (.iload_n 2, 1) := by decide +kernel
theorem d_MM_compile_95 : decode b_MM_compile 95 = .ok (.invokevirtual 296, 3) := by decide +kernel
theorem d_MM_compile_98 : decode b_MM_compile 98 = .ok (.aload_n 0, 1) := by decide +kernel
theorem d_MM_compile_99 : decode b_MM_compile 99 = .ok (.getfield 39, 3) := by decide +kernel
theorem d_MM_compile_102 : decode b_MM_compile 102 = .ok (.iload_n 2, 1) := by decide +kernel
theorem d_MM_compile_103 : decode b_MM_compile 103 = .ok (.iaload, 1) := by decide +kernel
theorem d_MM_compile_104 : decode b_MM_compile 104 = .ok (.istore_n 2, 1) := by decide +kernel
theorem d_MM_compile_105 : decode b_MM_compile 105 = .ok (.goto (-16), 3) := by decide +kernel
theorem d_MM_compile_108 : decode b_MM_compile 108 = .ok (.goto 269, 3) := by decide +kernel
theorem d_MM_compile_111 : decode b_MM_compile 111 = .ok (.iconst (-1), 1) := by decide +kernel
theorem d_MM_compile_112 : decode b_MM_compile 112 = .ok (.istore_n 2, 1) := by decide +kernel
theorem d_MM_compile_113 : decode b_MM_compile 113 = .ok (.aload_n 0, 1) := by decide +kernel
theorem d_MM_compile_114 : decode b_MM_compile 114 = .ok (.getfield 30, 3) := by decide +kernel
theorem d_MM_compile_117 : decode b_MM_compile 117 = .ok (.iload_n 1, 1) := by decide +kernel
theorem d_MM_compile_118 : decode b_MM_compile 118 = .ok (.iaload, 1) := by decide +kernel
theorem d_MM_compile_119 : decode b_MM_compile 119 = .ok (.istore_n 3, 1) := by decide +kernel
theorem d_MM_compile_120 : decode b_MM_compile 120 = .ok (.iload_n 3, 1) := by decide +kernel
theorem d_MM_compile_121 : decode b_MM_compile 121 = .ok (.ifCond .lt 68, 3) := by decide +kernel
theorem d_MM_compile_124 : decode b_MM_compile 124 = .ok (.aload_n 0, 1) := by decide +kernel
theorem d_MM_compile_125 : decode b_MM_compile 125 = .ok (.getfield 39, 3) := by decide +kernel
theorem d_MM_compile_128 : decode b_MM_compile 128 = .ok (.iload_n 3, 1) := by decide +kernel
theorem d_MM_compile_129 : decode b_MM_compile 129 = .ok (.iaload, 1) := by decide +kernel
theorem d_MM_compile_130 : decode b_MM_compile 130 = .ok (.ifCond .ge 11, 3) := by decide +kernel
theorem d_MM_compile_133 : decode b_MM_compile 133 = .ok (.aload_n 0, 1) := by decide +kernel
theorem d_MM_compile_134 : decode b_MM_compile 134 = .ok (.iload_n 3, 1) := by decide +kernel
theorem d_MM_compile_135 : decode b_MM_compile 135 = .ok (.invokevirtual 296, 3) := by decide +kernel
theorem d_MM_compile_138 : decode b_MM_compile 138 = .ok (.goto 51, 3) := by decide +kernel
theorem d_MM_compile_141 : decode b_MM_compile 141 = .ok (.aload_n 0, 1) := by decide +kernel
theorem d_MM_compile_142 : decode b_MM_compile 142 = .ok (.iconst 4, 1) := by decide +kernel
theorem d_MM_compile_143 : decode b_MM_compile 143 = .ok (.aload_n 0, 1) := by decide +kernel
theorem d_MM_compile_144 : decode b_MM_compile 144 = .ok (.getfield 293, 3) := by decide +kernel
theorem d_MM_compile_147 : decode b_MM_compile 147 = .ok (.iconst 1, 1) := by decide +kernel
theorem d_MM_compile_148 : decode b_MM_compile 148 = .ok (.iadd, 1) := by decide +kernel
theorem d_MM_compile_149 : decode b_MM_compile 149 = .ok (.iconst 0, 1) := by decide +kernel
theorem d_MM_compile_150 : decode b_MM_compile 150 = .ok (.invokevirtual 300, 3) := by decide +kernel
theorem d_MM_compile_153 : decode b_MM_compile 153 = .ok (.istore 4, 2) := by decide +kernel
theorem d_MM_compile_155 : decode b_MM_compile 155 = .ok (.aload_n 0, 1) := by decide +kernel
theorem d_MM_compile_156 : decode b_MM_compile 156 = .ok (.iload_n 3, 1) := by decide +kernel
theorem d_MM_compile_157 : decode b_MM_compile 157 = .ok (.invokevirtual 296, 3) := by decide +kernel
theorem d_MM_compile_160 : decode b_MM_compile 160 = .ok (.aload_n 0, 1) := by decide +kernel
theorem d_MM_compile_161 : decode b_MM_compile 161 = .ok (.iconst 5, 1) := by decide +kernel
theorem d_MM_compile_162 : decode b_MM_compile 162 = .ok (.iload_n 2, 1) := by decide +kernel
theorem d_MM_compile_163 : decode b_MM_compile 163 = .ok (.iconst 0, 1) := by decide +kernel
theorem d_MM_compile_164 : decode b_MM_compile 164 = .ok (.invokevirtual 300, 3) := by decide +kernel
theorem d_MM_compile_167 : decode b_MM_compile 167 = .ok (.istore_n 2, 1) := by decide +kernel
theorem d_MM_compile_168 : decode b_MM_compile 168 = .ok (.aload_n 0, 1) := by decide +kernel
theorem d_MM_compile_169 : decode b_MM_compile 169 = .ok (.getfield 65, 3) := by decide +kernel
theorem d_MM_compile_172 : decode b_MM_compile 172 = .ok (.iload 4, 2) := by decide +kernel
theorem d_MM_compile_174 : decode b_MM_compile 174 = .ok (.aload_n 0, 1) := by decide +kernel
theorem d_MM_compile_175 : decode b_MM_compile 175 = .ok (.getfield 293, 3) := by decide +kernel
theorem d_MM_compile_178 : decode b_MM_compile 178 = .ok (.iastore, 1) := by decide +kernel
theorem d_MM_compile_179 : decode b_MM_compile 179 = .ok (.aload_n 0, 1) := by decide +kernel
theorem d_MM_compile_180 : decode b_MM_compile 180 = .ok (.getfield 39, 3) := by decide +kernel
theorem d_MM_compile_183 : decode b_MM_compile 183 = .ok (.iload_n 3, 1) := by decide +kernel
theorem d_MM_compile_184 : decode b_MM_compile 184 = .ok (.iaload, 1) := by decide +kernel
theorem d_MM_compile_185 : decode b_MM_compile 185 = .ok (.istore_n 3, 1) := by decide +kernel
theorem d_MM_compile_186 : decode b_MM_compile 186 = .ok (.goto (-66), 3) := by decide +kernel
theorem d_MM_compile_189 : decode b_MM_compile 189 = .ok (.iload_n 2, 1) := by decide +kernel
theorem d_MM_compile_190 : decode b_MM_compile 190 = .ok (.ifCond .lt 187, 3) := by decide +kernel
theorem d_MM_compile_193 : decode b_MM_compile 193 = .ok (.aload_n 0, 1) := by decide +kernel
theorem d_MM_compile_194 : decode b_MM_compile 194 = .ok (.getfield 62, 3) := by decide +kernel
theorem d_MM_compile_197 : decode b_MM_compile 197 = .ok (.iload_n 2, 1) := by decide +kernel
theorem d_MM_compile_198 : decode b_MM_compile 198 = .ok (.iaload, 1) := by decide +kernel
theorem d_MM_compile_199 : decode b_MM_compile 199 = .ok (.istore_n 3, 1) := by decide +kernel
theorem d_MM_compile_200 : decode b_MM_compile 200 = .ok (.aload_n 0, 1) := by decide +kernel
theorem d_MM_compile_201 : decode b_MM_compile 201 = .ok (.getfield 62, 3) := by decide +kernel
theorem d_MM_compile_204 : decode b_MM_compile 204 = .ok (.iload_n 2, 1) := by decide +kernel
theorem d_MM_compile_205 : decode b_MM_compile 205 = .ok (.aload_n 0, 1) := by decide +kernel
theorem d_MM_compile_206 : decode b_MM_compile 206 = .ok (.getfield 293, 3) := by decide +kernel
theorem d_MM_compile_209 : decode b_MM_compile 209 = .ok (.iastore, 1) := by decide +kernel
theorem d_MM_compile_210 : decode b_MM_compile 210 = .ok (.iload_n 3, 1) := by decide +kernel
theorem d_MM_compile_211 : decode b_MM_compile 211 = .ok (.istore_n 2, 1) := by decide +kernel
theorem d_MM_compile_212 : decode b_MM_compile 212 = .ok (.goto (-23), 3) := by decide +kernel
theorem d_MM_compile_215 : decode b_MM_compile 215 = .ok (.iconst 0, 1) := by decide +kernel
theorem d_MM_compile_216 : decode b_MM_compile 216 = .ok (.istore_n 2, 1) := by decide +kernel
theorem d_MM_compile_217 : decode b_MM_compile 217 = .ok (.iload_n 2, 1) := by decide +kernel
theorem d_MM_compile_218 : decode b_MM_compile 218 = .ok (.aload_n 0, 1) := by decide +kernel
theorem d_MM_compile_219 : decode b_MM_compile 219 = .ok (.getfield 33, 3) := by decide +kernel
theorem d_MM_compile_222 : decode b_MM_compile 222 = .ok (.iload_n 1, 1) := by decide +kernel
theorem d_MM_compile_223 : decode b_MM_compile 223 = .ok (.iaload, 1) := by decide +kernel
theorem d_MM_compile_224 : decode b_MM_compile 224 = .ok (.if_icmp .ge 19, 3) := by decide +kernel
theorem d_MM_compile_227 : decode b_MM_compile 227 = .ok (.aload_n 0, 1) := by decide +kernel
theorem d_MM_compile_228 : decode b_MM_compile 228 = .ok (.aload_n 0, 1) := by decide +kernel
theorem d_MM_compile_229 : decode b_MM_compile 229 = .ok (.getfield 30, 3) := by decide +kernel
theorem d_MM_compile_232 : decode b_MM_compile 232 = .ok (.iload_n 1, 1) := by decide +kernel
theorem d_MM_compile_233 : decode b_MM_compile 233 = .ok (.iaload, 1) := by decide +kernel
theorem d_MM_compile_234 : decode b_MM_compile 234 = .ok (.invokevirtual 296, 3) := by decide +kernel
theorem d_MM_compile_237 : decode b_MM_compile 237 = .ok (.iinc 2 1, 3) := by decide +kernel
theorem d_MM_compile_240 : decode b_MM_compile 240 = .ok (.goto (-23), 3) := by decide +kernel
