theorem d_MT_alike_145 : decode b_MT_alike 145 = .ok (.getfield 33, 3) := by decide +kernel
theorem d_MT_alike_148 : decode b_MT_alike 148 = .ok (.iload 4, 2) := by decide +kernel
theorem d_MT_alike_150 : decode b_MT_alike 150 = .ok (.iaload, 1) := by decide +kernel
theorem d_MT_alike_151 : decode b_MT_alike 151 = .ok (.istore 4, 2) := by decide +kernel
theorem d_MT_alike_153 : decode b_MT_alike 153 = .ok (.goto (-37), 3) := by decide +kernel
theorem d_MT_alike_156 : decode b_MT_alike 156 = .ok (.iconst 1, 1) := by decide +kernel
theorem d_MT_alike_157 : decode b_MT_alike 157 = .ok (.ireturn, 1) := by decide +kernel
theorem d_MT_alike_158 : decode b_MT_alike 158 = .ok (.aload_n 0, 1) := by decide +kernel
theorem d_MT_alike_159 : decode b_MT_alike 159 = .ok (.getfield 30, 3) := by decide +kernel
theorem d_MT_alike_162 : decode b_MT_alike 162 = .ok (.iload_n 1, 1) := by decide +kernel
theorem d_MT_alike_163 : decode b_MT_alike 163 = .ok (.iaload, 1) := by decide +kernel
theorem d_MT_alike_164 : decode b_MT_alike 164 = .ok (.istore 4, 2) := by decide +kernel
theorem d_MT_alike_166 : decode b_MT_alike 166 = .ok (.iload 4, 2) := by decide +kernel
theorem d_MT_alike_168 : decode b_MT_alike 168 = .ok (.ifCond .lt 49, 3) := by decide +kernel
theorem d_MT_alike_171 : decode b_MT_alike 171 = .ok (.aload_n 2, 1) := by decide +kernel
theorem d_MT_alike_172 : decode b_MT_alike 172 = .ok (.iload_n 3, 1) := by decide +kernel
theorem d_MT_alike_173 : decode b_MT_alike 173 = .ok (.aload_n 0, 1) := by decide +kernel
theorem d_MT_alike_174 : decode b_MT_alike 174 = .ok (.aload_n 0, 1) := by decide +kernel
theorem d_MT_alike_175 : decode b_MT_alike 175 = .ok (.getfield 36, 3) := by decide +kernel
theorem d_MT_alike_178 : decode b_MT_alike 178 = .ok (.iload 4, 2) := by decide +kernel
theorem d_MT_alike_180 : decode b_MT_alike 180 = .ok (.iaload, 1) := by decide +kernel
theorem d_MT_alike_181 : decode b_MT_alike 181 = .ok (.invokevirtual 169, 3) := by decide +kernel
theorem d_MT_alike_184 : decode b_MT_alike 184 = .ok (.istore 5, 2) := by decide +kernel
theorem d_MT_alike_186 : decode b_MT_alike 186 = .ok (.iload 5, 2) := by decide +kernel
theorem d_MT_alike_188 : decode b_MT_alike 188 = .ok (.ifCond .lt 15, 3) := by decide +kernel
theorem d_MT_alike_191 : decode b_MT_alike 191 = .ok (.aload_n 0, 1) := by decide +kernel
theorem d_MT_alike_192 : decode b_MT_alike 192 = .ok (.iload 4, 2) := by decide +kernel
theorem d_MT_alike_194 : decode b_MT_alike 194 = .ok (.aload_n 2, 1) := by decide +kernel
theorem d_MT_alike_195 : decode b_MT_alike 195 = .ok (.iload 5, 2) := by decide +kernel
theorem d_MT_alike_197 : decode b_MT_alike 197 = .ok (.invokevirtual 166, 3) := by decide +kernel
theorem d_MT_alike_200 : decode b_MT_alike 200 = .ok (.ifCond .ne 5, 3) := by decide +kernel
theorem d_MT_alike_203 : decode b_MT_alike 203 = .ok (.iconst 0, 1) := by decide +kernel
theorem d_MT_alike_204 : decode b_MT_alike 204 = .ok (.ireturn, 1) := by decide +kernel
theorem d_MT_alike_205 : decode b_MT_alike 205 = .ok (.aload_n 0, 1) := by decide +kernel
theorem d_MT_alike_206 : decode b_MT_alike 206 = .ok (.getfield 33, 3) := by decide +kernel
theorem d_MT_alike_209 : decode b_MT_alike 209 = .ok (.iload 4, 2) := by decide +kernel
theorem d_MT_alike_211 : decode b_MT_alike 211 = .ok (.iaload, 1) := by decide +kernel
theorem d_MT_alike_212 : decode b_MT_alike 212 = .ok (.istore 4, 2) := by decide +kernel
theorem d_MT_alike_214 : decode b_MT_alike 214 = .ok (.goto (-48), 3) := by decide +kernel
theorem d_MT_alike_217 : decode b_MT_alike 217 = .ok (.iconst 1, 1) := by decide +kernel
theorem d_MT_alike_218 : decode b_MT_alike 218 = .ok (.ireturn, 1) := by decide +kernel
theorem d_MM_requires_0 : decode b_MM_requires 0 = .ok (.aload_n 0, 1) := by decide +kernel
theorem d_MM_requires_1 : decode b_MM_requires 1 = .ok (.getfield 20, 3) := by decide +kernel
theorem d_MM_requires_4 : decode b_MM_requires 4 = .ok (.getfield 422, 3) := by decide +kernel
theorem d_MM_requires_7 : decode b_MM_requires 7 = .ok (.iload_n 1, 1) := by decide +kernel
theorem d_MM_requires_8 : decode b_MM_requires 8 = .ok (.iaload, 1) := by decide +kernel
theorem d_MM_requires_9 : decode b_MM_requires 9 = .ok (.istore_n 3, 1) := by decide +kernel
theorem d_MM_requires_10 : decode b_MM_requires 10 = .ok (.iload_n 3, 1) := by decide +kernel
theorem d_MM_requires_11 : decode b_MM_requires 11 = .ok (.ifCond .lt 34, 3) := by decide +kernel
theorem d_MM_requires_14 : decode b_MM_requires 14 = .ok (.aload_n 0, 1) := by decide +kernel
theorem d_MM_requires_15 : decode b_MM_requires 15 = .ok (.getfield 24, 3) := by decide +kernel
theorem d_MM_requires_18 : decode b_MM_requires 18 = .ok (.iload_n 2, 1) := by decide +kernel
theorem d_MM_requires_19 : decode b_MM_requires 19 = .ok (.aload_n 0, 1) := by decide +kernel
theorem d_MM_requires_20 : decode b_MM_requires 20 = .ok (.getfield 20, 3) := by decide +kernel
theorem d_MM_requires_23 : decode b_MM_requires 23 = .ok (.iload_n 3, 1) := by decide +kernel
theorem d_MM_requires_24 : decode b_MM_requires 24 = .ok (.invokevirtual 554, 3) := by decide +kernel
theorem d_MM_requires_27 : decode b_MM_requires 27 = .ok (.ifCond .ge 5, 3) := by decide +kernel
theorem d_MM_requires_30 : decode b_MM_requires 30 = .ok (.iconst 0, 1) := by decide +kernel
theorem d_MM_requires_31 : decode b_MM_requires 31 = .ok (.ireturn, 1) := by decide +kernel
theorem d_MM_requires_32 : decode b_MM_requires 32 = .ok (.aload_n 0, 1) := by decide +kernel
theorem d_MM_requires_33 : decode b_MM_requires 33 = .ok (.getfield 20, 3) := by decide +kernel
theorem d_MM_requires_36 : decode b_MM_requires 36 = .ok (.getfield 436, 3) := by decide +kernel
theorem d_MM_requires_39 : decode b_MM_requires 39 = .ok (.iload_n 3, 1) := by decide +kernel
theorem d_MM_requires_40 : decode b_MM_requires 40 = .ok (.iaload, 1) := by decide +kernel
theorem d_MM_requires_41 : decode b_MM_requires 41 = .ok (.istore_n 3, 1) := by decide +kernel
theorem d_MM_requires_42 : decode b_MM_requires 42 = .ok (.goto (-32), 3) := by decide +kernel
theorem d_MM_requires_45 : decode b_MM_requires 45 = .ok (.iconst 1, 1) := by decide +kernel
theorem d_MM_requires_46 : decode b_MM_requires 46 = .ok (.ireturn, 1) := by decide +kernel
theorem d_MM_placeOf_0 : decode b_MM_placeOf 0 = .ok (.iconst 0, 1) := by decide +kernel
theorem d_MM_placeOf_1 : decode b_MM_placeOf 1 = .ok (.istore_n 3, 1) := by decide +kernel
theorem d_MM_placeOf_2 : decode b_MM_placeOf 2 = .ok (.aload_n 0, 1) := by decide +kernel
theorem d_MM_placeOf_3 : decode b_MM_placeOf 3 = .ok (.getfield 24, 3) := by decide +kernel
theorem d_MM_placeOf_6 : decode b_MM_placeOf 6 = .ok (.getfield 422, 3) := by decide +kernel
theorem d_MM_placeOf_9 : decode b_MM_placeOf 9 = .ok (.iload_n 1, 1) := by decide +kernel
theorem d_MM_placeOf_10 : decode b_MM_placeOf 10 = .ok (.iaload, 1) := by decide +kernel
theorem d_MM_placeOf_11 : decode b_MM_placeOf 11 = .ok (.istore 4, 2) := by decide +kernel
theorem d_MM_placeOf_13 : decode b_MM_placeOf 13 = .ok (.iload 4, 2) := by decide +kernel
theorem d_MM_placeOf_15 : decode b_MM_placeOf 15 = .ok (.iload_n 2, 1) := by decide +kernel
theorem d_MM_placeOf_16 : decode b_MM_placeOf 16 = .ok (.if_icmp .eq 21, 3) := by decide +kernel
theorem d_MM_placeOf_19 : decode b_MM_placeOf 19 = .ok (.iinc 3 1, 3) := by decide +kernel
theorem d_MM_placeOf_22 : decode b_MM_placeOf 22 = .ok (.aload_n 0, 1) := by decide +kernel
theorem d_MM_placeOf_23 : decode b_MM_placeOf 23 = .ok (.getfield 24, 3) := by decide +kernel
theorem d_MM_placeOf_26 : decode b_MM_placeOf 26 = .ok (.getfield 436, 3) := by decide +kernel
theorem d_MM_placeOf_29 : decode b_MM_placeOf 29 = .ok (.iload 4, 2) := by decide +kernel
theorem d_MM_placeOf_31 : decode b_MM_placeOf 31 = .ok (.iaload, 1) := by decide +kernel
theorem d_MM_placeOf_32 : decode b_MM_placeOf 32 = .ok (.istore 4, 2) := by decide +kernel
theorem d_MM_placeOf_34 : decode b_MM_placeOf 34 = .ok (.goto (-21), 3) := by decide +kernel
theorem d_MM_placeOf_37 : decode b_MM_placeOf 37 = .ok (.iload_n 3, 1) := by decide +kernel
theorem d_MM_placeOf_38 : decode b_MM_placeOf 38 = .ok (.ireturn, 1) := by decide +kernel
theorem d_MM_isIn_0 : decode b_MM_isIn 0 = .ok (.aload_n 0, 1) := by decide +kernel
theorem d_MM_isIn_1 : decode b_MM_isIn 1 = .ok (.getfield 20, 3) := by decide +kernel
theorem d_MM_isIn_4 : decode b_MM_isIn 4 = .ok (.iload_n 1, 1) := by decide +kernel
theorem d_MM_isIn_5 : decode b_MM_isIn 5 = .ok (.ldc 112, 2) := by decide +kernel
theorem d_MM_isIn_7 : decode b_MM_isIn 7 = .ok (.invokevirtual 550, 3) := by decide +kernel
theorem d_MM_isIn_10 : decode b_MM_isIn 10 = .ok (.istore_n 3, 1) := by decide +kernel
theorem d_MM_isIn_11 : decode b_MM_isIn 11 = .ok (.aload_n 0, 1) := by decide +kernel
theorem d_MM_isIn_12 : decode b_MM_isIn 12 = .ok (.getfield 20, 3) := by decide +kernel
theorem d_MM_isIn_15 : decode b_MM_isIn 15 = .ok (.iload_n 1, 1) := by decide +kernel
theorem d_MM_isIn_16 : decode b_MM_isIn 16 = .ok (.ldc 114, 2) := by decide +kernel
theorem d_MM_isIn_18 : decode b_MM_isIn 18 = .ok (.invokevirtual 550, 3) := by decide +kernel
theorem d_MM_isIn_21 : decode b_MM_isIn 21 = .ok (.istore 4, 2) := by decide +kernel
theorem d_MM_isIn_23 : decode b_MM_isIn 23 = .ok (.iload_n 3, 1) := by decide +kernel
theorem d_MM_isIn_24 : decode b_MM_isIn 24 = .ok (.ifCond .lt 21, 3) := by decide +kernel
theorem d_MM_isIn_27 : decode b_MM_isIn 27 = .ok (.aload_n 0, 1) := by decide +kernel
theorem d_MM_isIn_28 : decode b_MM_isIn 28 = .ok (.getfield 20, 3) := by decide +kernel
theorem d_MM_isIn_31 : decode b_MM_isIn 31 = .ok (.iload_n 3, 1) := by decide +kernel
theorem d_MM_isIn_32 : decode b_MM_isIn 32 = .ok (.aload_n 0, 1) := by decide +kernel
theorem d_MM_isIn_33 : decode b_MM_isIn 33 = .ok (.getfield 24, 3) := by decide +kernel
theorem d_MM_isIn_36 : decode b_MM_isIn 36 = .ok (.iload_n 2, 1) := by decide +kernel
theorem d_MM_isIn_37 : decode b_MM_isIn 37 = .ok (.invokevirtual 554, 3) := by decide +kernel
theorem d_MM_isIn_40 : decode b_MM_isIn 40 = .ok (.ifCond .lt 5, 3) := by decide +kernel
theorem d_MM_isIn_43 : decode b_MM_isIn 43 = .ok (.iconst 1, 1) := by decide +kernel
theorem d_MM_isIn_44 : decode b_MM_isIn 44 = .ok (.ireturn, 1) := by decide +kernel
theorem d_MM_isIn_45 : decode b_MM_isIn 45 = .ok (.iload 4, 2) := by decide +kernel
theorem d_MM_isIn_47 : decode b_MM_isIn 47 = .ok (.ifCond .lt 70, 3) := by decide +kernel
theorem d_MM_isIn_50 : decode b_MM_isIn 50 = .ok (.aload_n 0, 1) := by decide +kernel
theorem d_MM_isIn_51 : decode b_MM_isIn 51 = .ok (.getfield 20, 3) := by decide +kernel
theorem d_MM_isIn_54 : decode b_MM_isIn 54 = .ok (.getfield 422, 3) := by decide +kernel
theorem d_MM_isIn_57 : decode b_MM_isIn 57 = .ok (.iload 4, 2) := by decide +kernel
theorem d_MM_isIn_59 : decode b_MM_isIn 59 = .ok (.iaload, 1) := by decide +kernel
theorem d_MM_isIn_60 : decode b_MM_isIn 60 = .ok (.istore 5, 2) := by decide +kernel
theorem d_MM_isIn_62 : decode b_MM_isIn 62 = .ok (.iload 5, 2) := by decide +kernel
theorem d_MM_isIn_64 : decode b_MM_isIn 64 = .ok (.ifCond .lt 53, 3) := by decide +kernel
theorem d_MM_isIn_67 : decode b_MM_isIn 67 = .ok (.aload_n 0, 1) := by decide +kernel
theorem d_MM_isIn_68 : decode b_MM_isIn 68 = .ok (.aload_n 0, 1) := by decide +kernel
theorem d_MM_isIn_69 : decode b_MM_isIn 69 = .ok (.getfield 20, 3) := by decide +kernel
theorem d_MM_isIn_72 : decode b_MM_isIn 72 = .ok (.aload_n 0, 1) := by decide +kernel
theorem d_MM_isIn_73 : decode b_MM_isIn 73 = .ok (.getfield 20, 3) := by decide +kernel
theorem d_MM_isIn_76 : decode b_MM_isIn 76 = .ok (.getfield 425, 3) := by decide +kernel
theorem d_MM_isIn_79 : decode b_MM_isIn 79 = .ok (.iload 5, 2) := by decide +kernel
theorem d_MM_isIn_81 : decode b_MM_isIn 81 = .ok (.iaload, 1) := by decide +kernel
theorem d_MM_isIn_82 : decode b_MM_isIn 82 = .ok (.invokevirtual 439, 3) := by decide +kernel
theorem d_MM_isIn_85 : decode b_MM_isIn 85 = .ok (.ifCond .eq 17, 3) := by decide +kernel
theorem d_MM_isIn_88 : decode b_MM_isIn 88 = .ok (.aload_n 0, 1) := by decide +kernel
theorem d_MM_isIn_89 : decode b_MM_isIn 89 = .ok (.aload_n 0, 1) := by decide +kernel
theorem d_MM_isIn_90 : decode b_MM_isIn 90 = .ok (.getfield 24, 3) := by decide +kernel
theorem d_MM_isIn_93 : decode b_MM_isIn 93 = .ok (.iload_n 2, 1) := by decide +kernel
theorem d_MM_isIn_94 : decode b_MM_isIn 94 = .ok (.invokevirtual 543, 3) := by decide +kernel
theorem d_MM_isIn_97 : decode b_MM_isIn 97 = .ok (.ifCond .eq 5, 3) := by decide +kernel
theorem d_MM_isIn_100 : decode b_MM_isIn 100 = .ok (.iconst 1, 1) := by decide +kernel
theorem d_MM_isIn_101 : decode b_MM_isIn 101 = .ok (.ireturn, 1) := by decide +kernel
theorem d_MM_isIn_102 : decode b_MM_isIn 102 = .ok (.aload_n 0, 1) := by decide +kernel
theorem d_MM_isIn_103 : decode b_MM_isIn 103 = .ok (.getfield 20, 3) := by decide +kernel
theorem d_MM_isIn_106 : decode b_MM_isIn 106 = .ok (.getfield 436, 3) := by decide +kernel
theorem d_MM_isIn_109 : decode b_MM_isIn 109 = .ok (.iload 5, 2) := by decide +kernel
theorem d_MM_isIn_111 : decode b_MM_isIn 111 = .ok (.iaload, 1) := by decide +kernel
theorem d_MM_isIn_112 : decode b_MM_isIn 112 = .ok (.istore 5, 2) := by decide +kernel
theorem d_MM_isIn_114 : decode b_MM_isIn 114 = .ok (.goto (-52), 3) := by decide +kernel
theorem d_MM_isIn_117 : decode b_MM_isIn 117 = .ok (.iconst 0, 1) := by decide +kernel
theorem d_MM_isIn_118 : decode b_MM_isIn 118 = .ok (.ireturn, 1) := by decide +kernel
theorem d_MM_object_0 : decode b_MM_object 0 = .ok (.aload_n 0, 1) := by decide +kernel
theorem d_MM_object_1 : decode b_MM_object 1 = .ok (.getfield 518, 3) := by decide +kernel
theorem d_MM_object_4 : decode b_MM_object 4 = .ok (.lstore 5, 2) := by decide +kernel
theorem d_MM_object_6 : decode b_MM_object 6 = .ok (.iconst 1, 1) := by decide +kernel
theorem d_MM_object_7 : decode b_MM_object 7 = .ok (.istore 7, 2) := by decide +kernel
theorem d_MM_object_9 : decode b_MM_object 9 = .ok (.aload_n 0, 1) := by decide +kernel
theorem d_MM_object_10 : decode b_MM_object 10 = .ok (.getfield 24, 3) := by decide +kernel
theorem d_MM_object_13 : decode b_MM_object 13 = .ok (.getfield 272, 3) := by decide +kernel
theorem d_MM_object_16 : decode b_MM_object 16 = .ok (.iload 4, 2) := by decide +kernel
theorem d_MM_object_18 : decode b_MM_object 18 = .ok (.iaload, 1) := by decide +kernel
theorem d_MM_object_19 : decode b_MM_object 19 = .ok (.istore 8, 2) := by decide +kernel
theorem d_MM_object_21 : decode b_MM_object 21 = .ok (.iconst 0, 1) := by decide +kernel
theorem d_MM_object_22 : decode b_MM_object 22 = .ok (.istore 9, 2) := by decide +kernel
theorem d_MM_object_24 : decode b_MM_object 24 = .ok (.iload_n 1, 1) := by decide +kernel
theorem d_MM_object_25 : decode b_MM_object 25 = .ok (.tableswitch 705 6 39 #[518, 643, 705, 518, 705, 705, 705, 705, 705, 263, 365, 705, 705, 705, 705, 705, 705, 705, 705, 705, 705, 705, 705, 151, 167, 705, 705, 705, 705, 705, 705, 705, 183, 191], 151) := by decide +kernel
theorem d_MM_object_176 : decode b_MM_object 176 = .ok (.iload 8, 2) := by decide +kernel
theorem d_MM_object_178 : decode b_MM_object 178 = .ok (.aload_n 0, 1) := by decide +kernel
theorem d_MM_object_179 : decode b_MM_object 179 = .ok (.iload_n 2, 1) := by decide +kernel
theorem d_MM_object_180 : decode b_MM_object 180 = .ok (.invokevirtual 449, 3) := by decide +kernel
theorem d_MM_object_183 : decode b_MM_object 183 = .ok (.if_icmp .gt 7, 3) := by decide +kernel
theorem d_MM_object_186 : decode b_MM_object 186 = .ok (.iconst 1, 1) := by decide +kernel
theorem d_MM_object_187 : decode b_MM_object 187 = .ok (.goto 4, 3) := by decide +kernel
theorem d_MM_object_190 : decode b_MM_object 190 = .ok (.iconst 0, 1) := by decide +kernel
theorem d_MM_object_191 : decode b_MM_object 191 = .ok (.ireturn, 1) := by decide +kernel
theorem d_MM_object_192 : decode b_MM_object 192 = .ok (.iload 8, 2) := by decide +kernel
theorem d_MM_object_194 : decode b_MM_object 194 = .ok (.aload_n 0, 1) := by decide +kernel
theorem d_MM_object_195 : decode b_MM_object 195 = .ok (.iload_n 2, 1) := by decide +kernel
theorem d_MM_object_196 : decode b_MM_object 196 = .ok (.invokevirtual 449, 3) := by decide +kernel
theorem d_MM_object_199 : decode b_MM_object 199 = .ok (.if_icmp .lt 7, 3) := by decide +kernel
theorem d_MM_object_202 : decode b_MM_object 202 = .ok (.iconst 1, 1) := by decide +kernel
theorem d_MM_object_203 : decode b_MM_object 203 = .ok (.goto 4, 3) := by decide +kernel
theorem d_MM_object_206 : decode b_MM_object 206 = .ok (.iconst 0, 1) := by decide +kernel
theorem d_MM_object_207 : decode b_MM_object 207 = .ok (.ireturn, 1) := by decide +kernel
theorem d_MM_object_208 : decode b_MM_object 208 = .ok (.aload_n 0, 1) := by decide +kernel
theorem d_MM_object_209 : decode b_MM_object 209 = .ok (.iload_n 2, 1) := by decide +kernel
theorem d_MM_object_210 : decode b_MM_object 210 = .ok (.iload 4, 2) := by decide +kernel
theorem d_MM_object_212 : decode b_MM_object 212 = .ok (.invokevirtual 568, 3) := by decide +kernel
theorem d_MM_object_215 : decode b_MM_object 215 = .ok (.ireturn, 1) := by decide +kernel
theorem d_MM_object_216 : decode b_MM_object 216 = .ok (.aload_n 0, 1) := by decide +kernel
theorem d_MM_object_217 : decode b_MM_object 217 = .ok (.getfield 20, 3) := by decide +kernel
theorem d_MM_object_220 : decode b_MM_object 220 = .ok (.getfield 422, 3) := by decide +kernel
theorem d_MM_object_223 : decode b_MM_object 223 = .ok (.iload_n 2, 1) := by decide +kernel
theorem d_MM_object_224 : decode b_MM_object 224 = .ok (.iaload, 1) := by decide +kernel
theorem d_MM_object_225 : decode b_MM_object 225 = .ok (.istore 10, 2) := by decide +kernel
theorem d_MM_object_227 : decode b_MM_object 227 = .ok (.iload 10, 2) := by decide +kernel
theorem d_MM_object_229 : decode b_MM_object 229 = .ok (.ifCond .lt 57, 3) := by decide +kernel
theorem d_MM_object_232 : decode b_MM_object 232 = .ok (.aload_n 0, 1) := by decide +kernel
theorem d_MM_object_233 : decode b_MM_object 233 = .ok (.getfield 24, 3) := by decide +kernel
theorem d_MM_object_236 : decode b_MM_object 236 = .ok (.iload 4, 2) := by decide +kernel
theorem d_MM_object_238 : decode b_MM_object 238 = .ok (.aload_n 0, 1) := by decide +kernel
theorem d_MM_object_239 : decode b_MM_object 239 = .ok (.getfield 20, 3) := by decide +kernel
theorem d_MM_object_242 : decode b_MM_object 242 = .ok (.aload_n 0, 1) := by decide +kernel
theorem d_MM_object_243 : decode b_MM_object 243 = .ok (.getfield 20, 3) := by decide +kernel
theorem d_MM_object_246 : decode b_MM_object 246 = .ok (.getfield 425, 3) := by decide +kernel
theorem d_MM_object_249 : decode b_MM_object 249 = .ok (.iload 10, 2) := by decide +kernel
theorem d_MM_object_251 : decode b_MM_object 251 = .ok (.iaload, 1) := by decide +kernel
theorem d_MM_object_252 : decode b_MM_object 252 = .ok (.invokevirtual 554, 3) := by decide +kernel
theorem d_MM_object_255 : decode b_MM_object 255 = .ok (.ifCond .lt 16, 3) := by decide +kernel
theorem d_MM_object_258 : decode b_MM_object 258 = .ok (.aload_n 0, 1) := by decide +kernel
theorem d_MM_object_259 : decode b_MM_object 259 = .ok (.iload 10, 2) := by decide +kernel
theorem d_MM_object_261 : decode b_MM_object 261 = .ok (.iload 4, 2) := by decide +kernel
theorem d_MM_object_263 : decode b_MM_object 263 = .ok (.invokevirtual 568, 3) := by decide +kernel
theorem d_MM_object_266 : decode b_MM_object 266 = .ok (.ifCond .ne 5, 3) := by decide +kernel
theorem d_MM_object_269 : decode b_MM_object 269 = .ok (.iconst 0, 1) := by decide +kernel
theorem d_MM_object_270 : decode b_MM_object 270 = .ok (.ireturn, 1) := by decide +kernel
theorem d_MM_object_271 : decode b_MM_object 271 = .ok (.aload_n 0, 1) := by decide +kernel
theorem d_MM_object_272 : decode b_MM_object 272 = .ok (.getfield 20, 3) := by decide +kernel
theorem d_MM_object_275 : decode b_MM_object 275 = .ok (.getfield 436, 3) := by decide +kernel
theorem d_MM_object_278 : decode b_MM_object 278 = .ok (.iload 10, 2) := by decide +kernel
theorem d_MM_object_280 : decode b_MM_object 280 = .ok (.iaload, 1) := by decide +kernel
theorem d_MM_object_281 : decode b_MM_object 281 = .ok (.istore 10, 2) := by decide +kernel
theorem d_MM_object_283 : decode b_MM_object 283 = .ok (.goto (-56), 3) := by decide +kernel
theorem d_MM_object_286 : decode b_MM_object 286 = .ok (.iconst 1, 1) := by decide +kernel
theorem d_MM_object_287 : decode b_MM_object 287 = .ok (.ireturn, 1) := by decide +kernel
theorem d_MM_object_288 : decode b_MM_object 288 = .ok (.aload_n 0, 1) := by decide +kernel
theorem d_MM_object_289 : decode b_MM_object 289 = .ok (.getfield 20, 3) := by decide +kernel
theorem d_MM_object_292 : decode b_MM_object 292 = .ok (.getfield 422, 3) := by decide +kernel
theorem d_MM_object_295 : decode b_MM_object 295 = .ok (.iload_n 2, 1) := by decide +kernel
theorem d_MM_object_296 : decode b_MM_object 296 = .ok (.iaload, 1) := by decide +kernel
theorem d_MM_object_297 : decode b_MM_object 297 = .ok (.istore 10, 2) := by decide +kernel
theorem d_MM_object_299 : decode b_MM_object 299 = .ok (.iload 10, 2) := by decide +kernel
theorem d_MM_object_301 : decode b_MM_object 301 = .ok (.ifCond .lt 86, 3) := by decide +kernel
theorem d_MM_object_304 : decode b_MM_object 304 = .ok (.aload_n 0, 1) := by decide +kernel
theorem d_MM_object_305 : decode b_MM_object 305 = .ok (.getfield 506, 3) := by decide +kernel
theorem d_MM_object_308 : decode b_MM_object 308 = .ok (.ifCond .ne 79, 3) := by decide +kernel
theorem d_MM_object_311 : decode b_MM_object 311 = .ok (.aload_n 0, 1) := by decide +kernel
theorem d_MM_object_312 : decode b_MM_object 312 = .ok (.getfield 24, 3) := by decide +kernel
theorem d_MM_object_315 : decode b_MM_object 315 = .ok (.iload 4, 2) := by decide +kernel
theorem d_MM_object_317 : decode b_MM_object 317 = .ok (.aload_n 0, 1) := by decide +kernel
theorem d_MM_object_318 : decode b_MM_object 318 = .ok (.getfield 20, 3) := by decide +kernel
theorem d_MM_object_321 : decode b_MM_object 321 = .ok (.aload_n 0, 1) := by decide +kernel
theorem d_MM_object_322 : decode b_MM_object 322 = .ok (.getfield 20, 3) := by decide +kernel
theorem d_MM_object_325 : decode b_MM_object 325 = .ok (.getfield 425, 3) := by decide +kernel
theorem d_MM_object_328 : decode b_MM_object 328 = .ok (.iload 10, 2) := by decide +kernel
theorem d_MM_object_330 : decode b_MM_object 330 = .ok (.iaload, 1) := by decide +kernel
theorem d_MM_object_331 : decode b_MM_object 331 = .ok (.invokevirtual 554, 3) := by decide +kernel
theorem d_MM_object_334 : decode b_MM_object 334 = .ok (.istore 11, 2) := by decide +kernel
theorem d_MM_object_336 : decode b_MM_object 336 = .ok (.iload 11, 2) := by decide +kernel
theorem d_MM_object_338 : decode b_MM_object 338 = .ok (.ifCond .ge 6, 3) := by decide +kernel
theorem d_MM_object_341 : decode b_MM_object 341 = .ok (.goto 31, 3) := by decide +kernel
theorem d_MM_object_344 : decode b_MM_object 344 = .ok (.iload 7, 2) := by decide +kernel
theorem d_MM_object_346 : decode b_MM_object 346 = .ok (.aload_n 0, 1) := by decide +kernel
theorem d_MM_object_347 : decode b_MM_object 347 = .ok (.iload 10, 2) := by decide +kernel
theorem d_MM_object_349 : decode b_MM_object 349 = .ok (.iload 11, 2) := by decide +kernel
theorem d_MM_object_351 : decode b_MM_object 351 = .ok (.invokevirtual 509, 3) := by decide +kernel
theorem d_MM_object_354 : decode b_MM_object 354 = .ok (.iand, 1) := by decide +kernel
theorem d_MM_object_355 : decode b_MM_object 355 = .ok (.istore 7, 2) := by decide +kernel
theorem d_MM_object_357 : decode b_MM_object 357 = .ok (.lload 5, 2) := by decide +kernel
theorem d_MM_object_359 : decode b_MM_object 359 = .ok (.lconst 1, 1) := by decide +kernel
theorem d_MM_object_360 : decode b_MM_object 360 = .ok (.aload_n 0, 1) := by decide +kernel
theorem d_MM_object_361 : decode b_MM_object 361 = .ok (.iload 4, 2) := by decide +kernel
theorem d_MM_object_363 : decode b_MM_object 363 = .ok (.iload 11, 2) := by decide +kernel
theorem d_MM_object_365 : decode b_MM_object 365 = .ok (.invokevirtual 571, 3) := by decide +kernel
theorem d_MM_object_368 : decode b_MM_object 368 = .ok (.lshl, 1) := by decide +kernel
theorem d_MM_object_369 : decode b_MM_object 369 = .ok (.lor, 1) := by decide +kernel
theorem d_MM_object_370 : decode b_MM_object 370 = .ok (.lstore 5, 2) := by decide +kernel
theorem d_MM_object_372 : decode b_MM_object 372 = .ok (.aload_n 0, 1) := by decide +kernel
theorem d_MM_object_373 : decode b_MM_object 373 = .ok (.getfield 20, 3) := by decide +kernel
theorem d_MM_object_376 : decode b_MM_object 376 = .ok (.getfield 436, 3) := by decide +kernel
theorem d_MM_object_379 : decode b_MM_object 379 = .ok (.iload 10, 2) := by decide +kernel
theorem d_MM_object_381 : decode b_MM_object 381 = .ok (.iaload, 1) := by decide +kernel
theorem d_MM_object_382 : decode b_MM_object 382 = .ok (.istore 10, 2) := by decide +kernel
theorem d_MM_object_384 : decode b_MM_object 384 = .ok (.goto (-85), 3) := by decide +kernel
theorem d_MM_object_387 : decode b_MM_object 387 = .ok (.goto 345, 3) := by decide +kernel
theorem d_MM_object_390 : decode b_MM_object 390 = .ok (.aload_n 0, 1) := by decide +kernel
theorem d_MM_object_391 : decode b_MM_object 391 = .ok (.getfield 20, 3) := by decide +kernel
theorem d_MM_object_394 : decode b_MM_object 394 = .ok (.getfield 422, 3) := by decide +kernel
theorem d_MM_object_397 : decode b_MM_object 397 = .ok (.iload_n 2, 1) := by decide +kernel
theorem d_MM_object_398 : decode b_MM_object 398 = .ok (.iaload, 1) := by decide +kernel
theorem d_MM_object_399 : decode b_MM_object 399 = .ok (.istore 10, 2) := by decide +kernel
theorem d_MM_object_401 : decode b_MM_object 401 = .ok (.iload 10, 2) := by decide +kernel
theorem d_MM_object_403 : decode b_MM_object 403 = .ok (.ifCond .lt 137, 3) := by decide +kernel
theorem d_MM_object_406 : decode b_MM_object 406 = .ok (.aload_n 0, 1) := by decide +kernel
theorem d_MM_object_407 : decode b_MM_object 407 = .ok (.getfield 506, 3) := by decide +kernel
theorem d_MM_object_410 : decode b_MM_object 410 = .ok (.ifCond .ne 130, 3) := by decide +kernel
theorem d_MM_object_413 : decode b_MM_object 413 = .ok (.iconst 0, 1) := by decide +kernel
theorem d_MM_object_414 : decode b_MM_object 414 = .ok (.istore 9, 2) := by decide +kernel
theorem d_MM_object_416 : decode b_MM_object 416 = .ok (.aload_n 0, 1) := by decide +kernel
theorem d_MM_object_417 : decode b_MM_object 417 = .ok (.getfield 24, 3) := by decide +kernel
theorem d_MM_object_420 : decode b_MM_object 420 = .ok (.getfield 422, 3) := by decide +kernel
theorem d_MM_object_423 : decode b_MM_object 423 = .ok (.iload 4, 2) := by decide +kernel
theorem d_MM_object_425 : decode b_MM_object 425 = .ok (.iaload, 1) := by decide +kernel
theorem d_MM_object_426 : decode b_MM_object 426 = .ok (.istore 11, 2) := by decide +kernel
theorem d_MM_object_428 : decode b_MM_object 428 = .ok (.iload 11, 2) := by decide +kernel
theorem d_MM_object_430 : decode b_MM_object 430 = .ok (.ifCond .lt 95, 3) := by decide +kernel
theorem d_MM_object_433 : decode b_MM_object 433 = .ok (.aload_n 0, 1) := by decide +kernel
theorem d_MM_object_434 : decode b_MM_object 434 = .ok (.getfield 506, 3) := by decide +kernel
theorem d_MM_object_437 : decode b_MM_object 437 = .ok (.ifCond .ne 88, 3) := by decide +kernel
theorem d_MM_object_440 : decode b_MM_object 440 = .ok (.aload_n 0, 1) := by decide +kernel
theorem d_MM_object_441 : decode b_MM_object 441 = .ok (.aload_n 0, 1) := by decide +kernel
theorem d_MM_object_442 : decode b_MM_object 442 = .ok (.getfield 20, 3) := by decide +kernel
theorem d_MM_object_445 : decode b_MM_object 445 = .ok (.aload_n 0, 1) := by decide +kernel
theorem d_MM_object_446 : decode b_MM_object 446 = .ok (.getfield 20, 3) := by decide +kernel
theorem d_MM_object_449 : decode b_MM_object 449 = .ok (.getfield 425, 3) := by decide +kernel
theorem d_MM_object_452 : decode b_MM_object 452 = .ok (.iload 10, 2) := by decide +kernel
theorem d_MM_object_454 : decode b_MM_object 454 = .ok (.iaload, 1) := by decide +kernel
theorem d_MM_object_455 : decode b_MM_object 455 = .ok (.invokevirtual 439, 3) := by decide +kernel
theorem d_MM_object_458 : decode b_MM_object 458 = .ok (.ifCond .eq 49, 3) := by decide +kernel
theorem d_MM_object_461 : decode b_MM_object 461 = .ok (.aload_n 0, 1) := by decide +kernel
theorem d_MM_object_462 : decode b_MM_object 462 = .ok (.aload_n 0, 1) := by decide +kernel
theorem d_MM_object_463 : decode b_MM_object 463 = .ok (.getfield 24, 3) := by decide +kernel
theorem d_MM_object_466 : decode b_MM_object 466 = .ok (.aload_n 0, 1) := by decide +kernel
theorem d_MM_object_467 : decode b_MM_object 467 = .ok (.getfield 24, 3) := by decide +kernel
theorem d_MM_object_470 : decode b_MM_object 470 = .ok (.getfield 425, 3) := by decide +kernel
theorem d_MM_object_473 : decode b_MM_object 473 = .ok (.iload 11, 2) := by decide +kernel
theorem d_MM_object_475 : decode b_MM_object 475 = .ok (.iaload, 1) := by decide +kernel
theorem d_MM_object_476 : decode b_MM_object 476 = .ok (.invokevirtual 543, 3) := by decide +kernel
theorem d_MM_object_479 : decode b_MM_object 479 = .ok (.ifCond .ne 6, 3) := by decide +kernel
theorem d_MM_object_482 : decode b_MM_object 482 = .ok (.goto 25, 3) := by decide +kernel
theorem d_MM_object_485 : decode b_MM_object 485 = .ok (.iload 7, 2) := by decide +kernel
theorem d_MM_object_487 : decode b_MM_object 487 = .ok (.aload_n 0, 1) := by decide +kernel
theorem d_MM_object_488 : decode b_MM_object 488 = .ok (.iload 10, 2) := by decide +kernel
theorem d_MM_object_490 : decode b_MM_object 490 = .ok (.iload 11, 2) := by decide +kernel
theorem d_MM_object_492 : decode b_MM_object 492 = .ok (.invokevirtual 509, 3) := by decide +kernel
theorem d_MM_object_495 : decode b_MM_object 495 = .ok (.iand, 1) := by decide +kernel
theorem d_MM_object_496 : decode b_MM_object 496 = .ok (.istore 7, 2) := by decide +kernel
theorem d_MM_object_498 : decode b_MM_object 498 = .ok (.lload 5, 2) := by decide +kernel
theorem d_MM_object_500 : decode b_MM_object 500 = .ok (.lconst 1, 1) := by decide +kernel
theorem d_MM_object_501 : decode b_MM_object 501 = .ok (.iload 9, 2) := by decide +kernel
theorem d_MM_object_503 : decode b_MM_object 503 = .ok (.lshl, 1) := by decide +kernel
theorem d_MM_object_504 : decode b_MM_object 504 = .ok (.lor, 1) := by decide +kernel
theorem d_MM_object_505 : decode b_MM_object 505 = .ok (.lstore 5, 2) := by decide +kernel
theorem d_MM_object_507 : decode b_MM_object 507 = .ok (.aload_n 0, 1) := by decide +kernel
theorem d_MM_object_508 : decode b_MM_object 508 = .ok (.getfield 24, 3) := by decide +kernel
theorem d_MM_object_511 : decode b_MM_object 511 = .ok (.getfield 436, 3) := by decide +kernel
theorem d_MM_object_514 : decode b_MM_object 514 = .ok (.iload 11, 2) := by decide +kernel
theorem d_MM_object_516 : decode b_MM_object 516 = .ok (.iaload, 1) := by decide +kernel
theorem d_MM_object_517 : decode b_MM_object 517 = .ok (.istore 11, 2) := by decide +kernel
theorem d_MM_object_519 : decode b_MM_object 519 = .ok (.iinc 9 1, 3) := by decide +kernel
theorem d_MM_object_522 : decode b_MM_object 522 = .ok (.goto (-94), 3) := by decide +kernel
theorem d_MM_object_525 : decode b_MM_object 525 = .ok (.aload_n 0, 1) := by decide +kernel
theorem d_MM_object_526 : decode b_MM_object 526 = .ok (.getfield 20, 3) := by decide +kernel
theorem d_MM_object_529 : decode b_MM_object 529 = .ok (.getfield 436, 3) := by decide +kernel
theorem d_MM_object_532 : decode b_MM_object 532 = .ok (.iload 10, 2) := by decide +kernel
theorem d_MM_object_534 : decode b_MM_object 534 = .ok (.iaload, 1) := by decide +kernel
theorem d_MM_object_535 : decode b_MM_object 535 = .ok (.istore 10, 2) := by decide +kernel
theorem d_MM_object_537 : decode b_MM_object 537 = .ok (.goto (-136), 3) := by decide +kernel
theorem d_MM_object_540 : decode b_MM_object 540 = .ok (.goto 192, 3) := by decide +kernel
theorem d_MM_object_543 : decode b_MM_object 543 = .ok (.aload_n 0, 1) := by decide +kernel
theorem d_MM_object_544 : decode b_MM_object 544 = .ok (.getfield 24, 3) := by decide +kernel
theorem d_MM_object_547 : decode b_MM_object 547 = .ok (.getfield 422, 3) := by decide +kernel
theorem d_MM_object_550 : decode b_MM_object 550 = .ok (.iload 4, 2) := by decide +kernel
theorem d_MM_object_552 : decode b_MM_object 552 = .ok (.iaload, 1) := by decide +kernel
theorem d_MM_object_553 : decode b_MM_object 553 = .ok (.istore 10, 2) := by decide +kernel
theorem d_MM_object_555 : decode b_MM_object 555 = .ok (.iload 10, 2) := by decide +kernel
theorem d_MM_object_557 : decode b_MM_object 557 = .ok (.ifCond .lt 97, 3) := by decide +kernel
theorem d_MM_object_560 : decode b_MM_object 560 = .ok (.aload_n 0, 1) := by decide +kernel
theorem d_MM_object_561 : decode b_MM_object 561 = .ok (.getfield 506, 3) := by decide +kernel
theorem d_MM_object_564 : decode b_MM_object 564 = .ok (.ifCond .ne 90, 3) := by decide +kernel
theorem d_MM_object_567 : decode b_MM_object 567 = .ok (.iload_n 1, 1) := by decide +kernel
theorem d_MM_object_568 : decode b_MM_object 568 = .ok (.bipush 6, 2) := by decide +kernel
theorem d_MM_object_570 : decode b_MM_object 570 = .ok (.if_icmp .ne 24, 3) := by decide +kernel
theorem d_MM_object_573 : decode b_MM_object 573 = .ok (.aload_n 0, 1) := by decide +kernel
theorem d_MM_object_574 : decode b_MM_object 574 = .ok (.iload_n 3, 1) := by decide +kernel
theorem d_MM_object_575 : decode b_MM_object 575 = .ok (.aload_n 0, 1) := by decide +kernel
theorem d_MM_object_576 : decode b_MM_object 576 = .ok (.getfield 24, 3) := by decide +kernel
theorem d_MM_object_579 : decode b_MM_object 579 = .ok (.getfield 425, 3) := by decide +kernel
theorem d_MM_object_582 : decode b_MM_object 582 = .ok (.iload 10, 2) := by decide +kernel
theorem d_MM_object_584 : decode b_MM_object 584 = .ok (.iaload, 1) := by decide +kernel
theorem d_MM_object_585 : decode b_MM_object 585 = .ok (.invokevirtual 574, 3) := by decide +kernel
theorem d_MM_object_588 : decode b_MM_object 588 = .ok (.ifCond .eq 21, 3) := by decide +kernel
theorem d_MM_object_591 : decode b_MM_object 591 = .ok (.goto 45, 3) := by decide +kernel
theorem d_MM_object_594 : decode b_MM_object 594 = .ok (.lload 5, 2) := by decide +kernel
theorem d_MM_object_596 : decode b_MM_object 596 = .ok (.iload 9, 2) := by decide +kernel
theorem d_MM_object_598 : decode b_MM_object 598 = .ok (.lshr, 1) := by decide +kernel
theorem d_MM_object_599 : decode b_MM_object 599 = .ok (.lconst 1, 1) := by decide +kernel
theorem d_MM_object_600 : decode b_MM_object 600 = .ok (.land, 1) := by decide +kernel
theorem d_MM_object_601 : decode b_MM_object 601 = .ok (.lconst 0, 1) := by decide +kernel
theorem d_MM_object_602 : decode b_MM_object 602 = .ok (.lcmp, 1) := by decide +kernel
theorem d_MM_object_603 : decode b_MM_object 603 = .ok (.ifCond .eq 6, 3) := by decide +kernel
theorem d_MM_object_606 : decode b_MM_object 606 = .ok (.goto 30, 3) := by decide +kernel
theorem d_MM_object_609 : decode b_MM_object 609 = .ok (.iload 7, 2) := by decide +kernel
theorem d_MM_object_611 : decode b_MM_object 611 = .ok (.aload_n 0, 1) := by decide +kernel
theorem d_MM_object_612 : decode b_MM_object 612 = .ok (.iload_n 2, 1) := by decide +kernel
theorem d_MM_object_613 : decode b_MM_object 613 = .ok (.iload 10, 2) := by decide +kernel
theorem d_MM_object_615 : decode b_MM_object 615 = .ok (.invokevirtual 509, 3) := by decide +kernel
theorem d_MM_object_618 : decode b_MM_object 618 = .ok (.iand, 1) := by decide +kernel
theorem d_MM_object_619 : decode b_MM_object 619 = .ok (.istore 7, 2) := by decide +kernel
theorem d_MM_object_621 : decode b_MM_object 621 = .ok (.iload_n 1, 1) := by decide +kernel
theorem d_MM_object_622 : decode b_MM_object 622 = .ok (.bipush 6, 2) := by decide +kernel
theorem d_MM_object_624 : decode b_MM_object 624 = .ok (.if_icmp .ne 12, 3) := by decide +kernel
theorem d_MM_object_627 : decode b_MM_object 627 = .ok (.lload 5, 2) := by decide +kernel
theorem d_MM_object_629 : decode b_MM_object 629 = .ok (.lconst 1, 1) := by decide +kernel
theorem d_MM_object_630 : decode b_MM_object 630 = .ok (.iload 9, 2) := by decide +kernel
theorem d_MM_object_632 : decode b_MM_object 632 = .ok (.lshl, 1) := by decide +kernel
theorem d_MM_object_633 : decode b_MM_object 633 = .ok (.lor, 1) := by decide +kernel
theorem d_MM_object_634 : decode b_MM_object 634 = .ok (.lstore 5, 2) := by decide +kernel
theorem d_MM_object_636 : decode b_MM_object 636 = .ok (.aload_n 0, 1) := by decide +kernel
theorem d_MM_object_637 : decode b_MM_object 637 = .ok (.getfield 24, 3) := by decide +kernel
theorem d_MM_object_640 : decode b_MM_object 640 = .ok (.getfield 436, 3) := by decide +kernel
theorem d_MM_object_643 : decode b_MM_object 643 = .ok (.iload 10, 2) := by decide +kernel
theorem d_MM_object_645 : decode b_MM_object 645 = .ok (.iaload, 1) := by decide +kernel
theorem d_MM_object_646 : decode b_MM_object 646 = .ok (.istore 10, 2) := by decide +kernel
theorem d_MM_object_648 : decode b_MM_object 648 = .ok (.iinc 9 1, 3) := by decide +kernel
theorem d_MM_object_651 : decode b_MM_object 651 = .ok (.goto (-96), 3) := by decide +kernel
theorem d_MM_object_654 : decode b_MM_object 654 = .ok (.iload_n 1, 1) := by decide +kernel
theorem d_MM_object_655 : decode b_MM_object 655 = .ok (.bipush 9, 2) := by decide +kernel
theorem d_MM_object_657 : decode b_MM_object 657 = .ok (.if_icmp .ne 75, 3) := by decide +kernel
theorem d_MM_object_660 : decode b_MM_object 660 = .ok (.ldc2_w 566, 3) := by decide +kernel
theorem d_MM_object_663 : decode b_MM_object 663 = .ok (.lstore 5, 2) := by decide +kernel
theorem d_MM_object_665 : decode b_MM_object 665 = .ok (.goto 67, 3) := by decide +kernel
theorem d_MM_object_668 : decode b_MM_object 668 = .ok (.aload_n 0, 1) := by decide +kernel
theorem d_MM_object_669 : decode b_MM_object 669 = .ok (.getfield 24, 3) := by decide +kernel
theorem d_MM_object_672 : decode b_MM_object 672 = .ok (.getfield 422, 3) := by decide +kernel
theorem d_MM_object_675 : decode b_MM_object 675 = .ok (.iload 4, 2) := by decide +kernel
theorem d_MM_object_677 : decode b_MM_object 677 = .ok (.iaload, 1) := by decide +kernel
theorem d_MM_object_678 : decode b_MM_object 678 = .ok (.istore 10, 2) := by decide +kernel
theorem d_MM_object_680 : decode b_MM_object 680 = .ok (.iload 10, 2) := by decide +kernel
theorem d_MM_object_682 : decode b_MM_object 682 = .ok (.ifCond .lt 45, 3) := by decide +kernel
theorem d_MM_object_685 : decode b_MM_object 685 = .ok (.aload_n 0, 1) := by decide +kernel
theorem d_MM_object_686 : decode b_MM_object 686 = .ok (.getfield 506, 3) := by decide +kernel
theorem d_MM_object_689 : decode b_MM_object 689 = .ok (.ifCond .ne 38, 3) := by decide +kernel
theorem d_MM_object_692 : decode b_MM_object 692 = .ok (.iload 7, 2) := by decide +kernel
theorem d_MM_object_694 : decode b_MM_object 694 = .ok (.aload_n 0, 1) := by decide +kernel
theorem d_MM_object_695 : decode b_MM_object 695 = .ok (.iload_n 2, 1) := by decide +kernel
theorem d_MM_object_696 : decode b_MM_object 696 = .ok (.aload_n 0, 1) := by decide +kernel
theorem d_MM_object_697 : decode b_MM_object 697 = .ok (.getfield 24, 3) := by decide +kernel
theorem d_MM_object_700 : decode b_MM_object 700 = .ok (.getfield 425, 3) := by decide +kernel
theorem d_MM_object_703 : decode b_MM_object 703 = .ok (.iload 10, 2) := by decide +kernel
theorem d_MM_object_705 : decode b_MM_object 705 = .ok (.iaload, 1) := by decide +kernel
theorem d_MM_object_706 : decode b_MM_object 706 = .ok (.invokevirtual 509, 3) := by decide +kernel
theorem d_MM_object_709 : decode b_MM_object 709 = .ok (.iand, 1) := by decide +kernel
theorem d_MM_object_710 : decode b_MM_object 710 = .ok (.istore 7, 2) := by decide +kernel
theorem d_MM_object_712 : decode b_MM_object 712 = .ok (.aload_n 0, 1) := by decide +kernel
theorem d_MM_object_713 : decode b_MM_object 713 = .ok (.getfield 24, 3) := by decide +kernel
theorem d_MM_object_716 : decode b_MM_object 716 = .ok (.getfield 436, 3) := by decide +kernel
theorem d_MM_object_719 : decode b_MM_object 719 = .ok (.iload 10, 2) := by decide +kernel
theorem d_MM_object_721 : decode b_MM_object 721 = .ok (.iaload, 1) := by decide +kernel
theorem d_MM_object_722 : decode b_MM_object 722 = .ok (.istore 10, 2) := by decide +kernel
theorem d_MM_object_724 : decode b_MM_object 724 = .ok (.goto (-44), 3) := by decide +kernel
theorem d_MM_object_727 : decode b_MM_object 727 = .ok (.goto 5, 3) := by decide +kernel
theorem d_MM_object_730 : decode b_MM_object 730 = .ok (.iconst 1, 1) := by decide +kernel
theorem d_MM_object_731 : decode b_MM_object 731 = .ok (.ireturn, 1) := by decide +kernel
theorem d_MM_object_732 : decode b_MM_object 732 = .ok (.aload_n 0, 1) := by decide +kernel
theorem d_MM_object_733 : decode b_MM_object 733 = .ok (.lload 5, 2) := by decide +kernel
theorem d_MM_object_735 : decode b_MM_object 735 = .ok (.putfield 518, 3) := by decide +kernel
theorem d_MM_object_738 : decode b_MM_object 738 = .ok (.iload 7, 2) := by decide +kernel
theorem d_MM_object_740 : decode b_MM_object 740 = .ok (.ireturn, 1) := by decide +kernel
theorem d_MM_array_0 : decode b_MM_array 0 = .ok (.aload_n 0, 1) := by decide +kernel
theorem d_MM_array_1 : decode b_MM_array 1 = .ok (.getfield 518, 3) := by decide +kernel
theorem d_MM_array_4 : decode b_MM_array 4 = .ok (.lstore 5, 2) := by decide +kernel
theorem d_MM_array_6 : decode b_MM_array 6 = .ok (.iconst 1, 1) := by decide +kernel
theorem d_MM_array_7 : decode b_MM_array 7 = .ok (.istore 7, 2) := by decide +kernel
theorem d_MM_array_9 : decode b_MM_array 9 = .ok (.aload_n 0, 1) := by decide +kernel
theorem d_MM_array_10 : decode b_MM_array 10 = .ok (.getfield 24, 3) := by decide +kernel
theorem d_MM_array_13 : decode b_MM_array 13 = .ok (.getfield 272, 3) := by decide +kernel
theorem d_MM_array_16 : decode b_MM_array 16 = .ok (.iload 4, 2) := by decide +kernel
theorem d_MM_array_18 : decode b_MM_array 18 = .ok (.iaload, 1) := by decide +kernel
theorem d_MM_array_19 : decode b_MM_array 19 = .ok (.istore 8, 2) := by decide +kernel
theorem d_MM_array_21 : decode b_MM_array 21 = .ok (.iconst 0, 1) := by decide +kernel
theorem d_MM_array_22 : decode b_MM_array 22 = .ok (.istore 9, 2) := by decide +kernel
theorem d_MM_array_24 : decode b_MM_array 24 = .ok (.iconst 0, 1) := by decide +kernel
theorem d_MM_array_25 : decode b_MM_array 25 = .ok (.istore 10, 2) := by decide +kernel
theorem d_MM_array_27 : decode b_MM_array 27 = .ok (.iload_n 1, 1) := by decide +kernel
theorem d_MM_array_28 : decode b_MM_array 28 = .ok (.lookupswitch 590 #[(4, 296), (5, 444), (8, 296), (13, 201), (25, 68), (26, 84), (37, 100)], 68) := by decide +kernel
theorem d_MM_array_96 : decode b_MM_array 96 = .ok (.iload 8, 2) := by decide +kernel
theorem d_MM_array_98 : decode b_MM_array 98 = .ok (.aload_n 0, 1) := by decide +kernel
theorem d_MM_array_99 : decode b_MM_array 99 = .ok (.iload_n 2, 1) := by decide +kernel
theorem d_MM_array_100 : decode b_MM_array 100 = .ok (.invokevirtual 449, 3) := by decide +kernel
theorem d_MM_array_103 : decode b_MM_array 103 = .ok (.if_icmp .gt 7, 3) := by decide +kernel
theorem d_MM_array_106 : decode b_MM_array 106 = .ok (.iconst 1, 1) := by decide +kernel
theorem d_MM_array_107 : decode b_MM_array 107 = .ok (.goto 4, 3) := by decide +kernel
theorem d_MM_array_110 : decode b_MM_array 110 = .ok (.iconst 0, 1) := by decide +kernel
theorem d_MM_array_111 : decode b_MM_array 111 = .ok (.ireturn, 1) := by decide +kernel
theorem d_MM_array_112 : decode b_MM_array 112 = .ok (.iload 8, 2) := by decide +kernel
theorem d_MM_array_114 : decode b_MM_array 114 = .ok (.aload_n 0, 1) := by decide +kernel
theorem d_MM_array_115 : decode b_MM_array 115 = .ok (.iload_n 2, 1) := by decide +kernel
theorem d_MM_array_116 : decode b_MM_array 116 = .ok (.invokevirtual 449, 3) := by decide +kernel
theorem d_MM_array_119 : decode b_MM_array 119 = .ok (.if_icmp .lt 7, 3) := by decide +kernel
theorem d_MM_array_122 : decode b_MM_array 122 = .ok (.iconst 1, 1) := by decide +kernel
theorem d_MM_array_123 : decode b_MM_array 123 = .ok (.goto 4, 3) := by decide +kernel
theorem d_MM_array_126 : decode b_MM_array 126 = .ok (.iconst 0, 1) := by decide +kernel
theorem d_MM_array_127 : decode b_MM_array 127 = .ok (.ireturn, 1) := by decide +kernel
theorem d_MM_array_128 : decode b_MM_array 128 = .ok (.aload_n 0, 1) := by decide +kernel
theorem d_MM_array_129 : decode b_MM_array 129 = .ok (.getfield 20, 3) := by decide +kernel
theorem d_MM_array_132 : decode b_MM_array 132 = .ok (.getfield 419, 3) := by decide +kernel
theorem d_MM_array_135 : decode b_MM_array 135 = .ok (.iload_n 2, 1) := by decide +kernel
theorem d_MM_array_136 : decode b_MM_array 136 = .ok (.iaload, 1) := by decide +kernel
theorem d_MM_array_137 : decode b_MM_array 137 = .ok (.iconst 1, 1) := by decide +kernel
theorem d_MM_array_138 : decode b_MM_array 138 = .ok (.if_icmp .ne 5, 3) := by decide +kernel
theorem d_MM_array_141 : decode b_MM_array 141 = .ok (.iconst 1, 1) := by decide +kernel
theorem d_MM_array_142 : decode b_MM_array 142 = .ok (.ireturn, 1) := by decide +kernel
theorem d_MM_array_143 : decode b_MM_array 143 = .ok (.aload_n 0, 1) := by decide +kernel
theorem d_MM_array_144 : decode b_MM_array 144 = .ok (.getfield 24, 3) := by decide +kernel
theorem d_MM_array_147 : decode b_MM_array 147 = .ok (.getfield 422, 3) := by decide +kernel
theorem d_MM_array_150 : decode b_MM_array 150 = .ok (.iload 4, 2) := by decide +kernel
theorem d_MM_array_152 : decode b_MM_array 152 = .ok (.iaload, 1) := by decide +kernel
theorem d_MM_array_153 : decode b_MM_array 153 = .ok (.istore 11, 2) := by decide +kernel
theorem d_MM_array_155 : decode b_MM_array 155 = .ok (.iload 11, 2) := by decide +kernel
theorem d_MM_array_157 : decode b_MM_array 157 = .ok (.ifCond .lt 70, 3) := by decide +kernel
theorem d_MM_array_160 : decode b_MM_array 160 = .ok (.aload_n 0, 1) := by decide +kernel
theorem d_MM_array_161 : decode b_MM_array 161 = .ok (.getfield 24, 3) := by decide +kernel
theorem d_MM_array_164 : decode b_MM_array 164 = .ok (.getfield 436, 3) := by decide +kernel
theorem d_MM_array_167 : decode b_MM_array 167 = .ok (.iload 11, 2) := by decide +kernel
theorem d_MM_array_169 : decode b_MM_array 169 = .ok (.iaload, 1) := by decide +kernel
theorem d_MM_array_170 : decode b_MM_array 170 = .ok (.istore 12, 2) := by decide +kernel
theorem d_MM_array_172 : decode b_MM_array 172 = .ok (.iload 12, 2) := by decide +kernel
theorem d_MM_array_174 : decode b_MM_array 174 = .ok (.ifCond .lt 38, 3) := by decide +kernel
theorem d_MM_array_177 : decode b_MM_array 177 = .ok (.aload_n 0, 1) := by decide +kernel
theorem d_MM_array_178 : decode b_MM_array 178 = .ok (.getfield 24, 3) := by decide +kernel
theorem d_MM_array_181 : decode b_MM_array 181 = .ok (.iload 11, 2) := by decide +kernel
theorem d_MM_array_183 : decode b_MM_array 183 = .ok (.aload_n 0, 1) := by decide +kernel
theorem d_MM_array_184 : decode b_MM_array 184 = .ok (.getfield 24, 3) := by decide +kernel
theorem d_MM_array_187 : decode b_MM_array 187 = .ok (.iload 12, 2) := by decide +kernel
theorem d_MM_array_189 : decode b_MM_array 189 = .ok (.invokevirtual 540, 3) := by decide +kernel
theorem d_MM_array_192 : decode b_MM_array 192 = .ok (.ifCond .eq 5, 3) := by decide +kernel
theorem d_MM_array_195 : decode b_MM_array 195 = .ok (.iconst 0, 1) := by decide +kernel
theorem d_MM_array_196 : decode b_MM_array 196 = .ok (.ireturn, 1) := by decide +kernel
theorem d_MM_array_197 : decode b_MM_array 197 = .ok (.aload_n 0, 1) := by decide +kernel
theorem d_MM_array_198 : decode b_MM_array 198 = .ok (.getfield 24, 3) := by decide +kernel
theorem d_MM_array_201 : decode b_MM_array 201 = .ok (.getfield 436, 3) := by decide +kernel
theorem d_MM_array_204 : decode b_MM_array 204 = .ok (.iload 12, 2) := by decide +kernel
theorem d_MM_array_206 : decode b_MM_array 206 = .ok (.iaload, 1) := by decide +kernel
theorem d_MM_array_207 : decode b_MM_array 207 = .ok (.istore 12, 2) := by decide +kernel
theorem d_MM_array_209 : decode b_MM_array 209 = .ok (.goto (-37), 3) := by decide +kernel
theorem d_MM_array_212 : decode b_MM_array 212 = .ok (.aload_n 0, 1) := by decide +kernel
theorem d_MM_array_213 : decode b_MM_array 213 = .ok (.getfield 24, 3) := by decide +kernel
theorem d_MM_array_216 : decode b_MM_array 216 = .ok (.getfield 436, 3) := by decide +kernel
theorem d_MM_array_219 : decode b_MM_array 219 = .ok (.iload 11, 2) := by decide +kernel
theorem d_MM_array_221 : decode b_MM_array 221 = .ok (.iaload, 1) := by decide +kernel
theorem d_MM_array_222 : decode b_MM_array 222 = .ok (.istore 11, 2) := by decide +kernel
theorem d_MM_array_224 : decode b_MM_array 224 = .ok (.goto (-69), 3) := by decide +kernel
theorem d_MM_array_227 : decode b_MM_array 227 = .ok (.iconst 1, 1) := by decide +kernel
theorem d_MM_array_228 : decode b_MM_array 228 = .ok (.ireturn, 1) := by decide +kernel
theorem d_MM_array_229 : decode b_MM_array 229 = .ok (.aload_n 0, 1) := by decide +kernel
theorem d_MM_array_230 : decode b_MM_array 230 = .ok (.getfield 20, 3) := by decide +kernel
theorem d_MM_array_233 : decode b_MM_array 233 = .ok (.getfield 422, 3) := by decide +kernel
theorem d_MM_array_236 : decode b_MM_array 236 = .ok (.iload_n 2, 1) := by decide +kernel
theorem d_MM_array_237 : decode b_MM_array 237 = .ok (.iaload, 1) := by decide +kernel
theorem d_MM_array_238 : decode b_MM_array 238 = .ok (.istore 11, 2) := by decide +kernel
theorem d_MM_array_240 : decode b_MM_array 240 = .ok (.aload_n 0, 1) := by decide +kernel
theorem d_MM_array_241 : decode b_MM_array 241 = .ok (.getfield 24, 3) := by decide +kernel
theorem d_MM_array_244 : decode b_MM_array 244 = .ok (.getfield 422, 3) := by decide +kernel
theorem d_MM_array_247 : decode b_MM_array 247 = .ok (.iload 4, 2) := by decide +kernel
theorem d_MM_array_249 : decode b_MM_array 249 = .ok (.iaload, 1) := by decide +kernel
theorem d_MM_array_250 : decode b_MM_array 250 = .ok (.istore 12, 2) := by decide +kernel
theorem d_MM_array_252 : decode b_MM_array 252 = .ok (.iload 12, 2) := by decide +kernel
theorem d_MM_array_254 : decode b_MM_array 254 = .ok (.ifCond .lt 67, 3) := by decide +kernel
theorem d_MM_array_257 : decode b_MM_array 257 = .ok (.iload 11, 2) := by decide +kernel
theorem d_MM_array_259 : decode b_MM_array 259 = .ok (.ifCond .lt 62, 3) := by decide +kernel
theorem d_MM_array_262 : decode b_MM_array 262 = .ok (.aload_n 0, 1) := by decide +kernel
theorem d_MM_array_263 : decode b_MM_array 263 = .ok (.getfield 506, 3) := by decide +kernel
theorem d_MM_array_266 : decode b_MM_array 266 = .ok (.ifCond .ne 55, 3) := by decide +kernel
theorem d_MM_array_269 : decode b_MM_array 269 = .ok (.iload 7, 2) := by decide +kernel
theorem d_MM_array_271 : decode b_MM_array 271 = .ok (.aload_n 0, 1) := by decide +kernel
theorem d_MM_array_272 : decode b_MM_array 272 = .ok (.iload 11, 2) := by decide +kernel
theorem d_MM_array_274 : decode b_MM_array 274 = .ok (.iload 12, 2) := by decide +kernel
theorem d_MM_array_276 : decode b_MM_array 276 = .ok (.invokevirtual 509, 3) := by decide +kernel
theorem d_MM_array_279 : decode b_MM_array 279 = .ok (.iand, 1) := by decide +kernel
theorem d_MM_array_280 : decode b_MM_array 280 = .ok (.istore 7, 2) := by decide +kernel
theorem d_MM_array_282 : decode b_MM_array 282 = .ok (.lload 5, 2) := by decide +kernel
theorem d_MM_array_284 : decode b_MM_array 284 = .ok (.lconst 1, 1) := by decide +kernel
theorem d_MM_array_285 : decode b_MM_array 285 = .ok (.iload 9, 2) := by decide +kernel
theorem d_MM_array_287 : decode b_MM_array 287 = .ok (.iinc 9 1, 3) := by decide +kernel
theorem d_MM_array_290 : decode b_MM_array 290 = .ok (.lshl, 1) := by decide +kernel
theorem d_MM_array_291 : decode b_MM_array 291 = .ok (.lor, 1) := by decide +kernel
theorem d_MM_array_292 : decode b_MM_array 292 = .ok (.lstore 5, 2) := by decide +kernel
theorem d_MM_array_294 : decode b_MM_array 294 = .ok (.aload_n 0, 1) := by decide +kernel
theorem d_MM_array_295 : decode b_MM_array 295 = .ok (.getfield 24, 3) := by decide +kernel
theorem d_MM_array_298 : decode b_MM_array 298 = .ok (.getfield 436, 3) := by decide +kernel
theorem d_MM_array_301 : decode b_MM_array 301 = .ok (.iload 12, 2) := by decide +kernel
theorem d_MM_array_303 : decode b_MM_array 303 = .ok (.iaload, 1) := by decide +kernel
theorem d_MM_array_304 : decode b_MM_array 304 = .ok (.istore 12, 2) := by decide +kernel
theorem d_MM_array_306 : decode b_MM_array 306 = .ok (.aload_n 0, 1) := by decide +kernel
theorem d_MM_array_307 : decode b_MM_array 307 = .ok (.getfield 20, 3) := by decide +kernel
theorem d_MM_array_310 : decode b_MM_array 310 = .ok (.getfield 436, 3) := by decide +kernel
theorem d_MM_array_313 : decode b_MM_array 313 = .ok (.iload 11, 2) := by decide +kernel
theorem d_MM_array_315 : decode b_MM_array 315 = .ok (.iaload, 1) := by decide +kernel
theorem d_MM_array_316 : decode b_MM_array 316 = .ok (.istore 11, 2) := by decide +kernel
theorem d_MM_array_318 : decode b_MM_array 318 = .ok (.goto (-66), 3) := by decide +kernel
theorem d_MM_array_321 : decode b_MM_array 321 = .ok (.goto 299, 3) := by decide +kernel
theorem d_MM_array_324 : decode b_MM_array 324 = .ok (.aload_n 0, 1) := by decide +kernel
theorem d_MM_array_325 : decode b_MM_array 325 = .ok (.getfield 20, 3) := by decide +kernel
theorem d_MM_array_328 : decode b_MM_array 328 = .ok (.iload_n 3, 1) := by decide +kernel
theorem d_MM_array_329 : decode b_MM_array 329 = .ok (.ldc 108, 2) := by decide +kernel
theorem d_MM_array_331 : decode b_MM_array 331 = .ok (.invokevirtual 550, 3) := by decide +kernel
theorem d_MM_array_334 : decode b_MM_array 334 = .ok (.istore 11, 2) := by decide +kernel
theorem d_MM_array_336 : decode b_MM_array 336 = .ok (.iload_n 1, 1) := by decide +kernel
theorem d_MM_array_337 : decode b_MM_array 337 = .ok (.iconst 4, 1) := by decide +kernel
theorem d_MM_array_338 : decode b_MM_array 338 = .ok (.if_icmp .ne 21, 3) := by decide +kernel
theorem d_MM_array_341 : decode b_MM_array 341 = .ok (.iload 11, 2) := by decide +kernel
theorem d_MM_array_343 : decode b_MM_array 343 = .ok (.ifCond .lt 16, 3) := by decide +kernel
theorem d_MM_array_346 : decode b_MM_array 346 = .ok (.aload_n 0, 1) := by decide +kernel
theorem d_MM_array_347 : decode b_MM_array 347 = .ok (.getfield 20, 3) := by decide +kernel
theorem d_MM_array_350 : decode b_MM_array 350 = .ok (.getfield 272, 3) := by decide +kernel
theorem d_MM_array_353 : decode b_MM_array 353 = .ok (.iload 11, 2) := by decide +kernel
theorem d_MM_array_355 : decode b_MM_array 355 = .ok (.iaload, 1) := by decide +kernel
theorem d_MM_array_356 : decode b_MM_array 356 = .ok (.goto 4, 3) := by decide +kernel
theorem d_MM_array_359 : decode b_MM_array 359 = .ok (.iconst 0, 1) := by decide +kernel
theorem d_MM_array_360 : decode b_MM_array 360 = .ok (.istore 12, 2) := by decide +kernel
theorem d_MM_array_362 : decode b_MM_array 362 = .ok (.aload_n 0, 1) := by decide +kernel
theorem d_MM_array_363 : decode b_MM_array 363 = .ok (.getfield 24, 3) := by decide +kernel
theorem d_MM_array_366 : decode b_MM_array 366 = .ok (.getfield 422, 3) := by decide +kernel
theorem d_MM_array_369 : decode b_MM_array 369 = .ok (.iload 4, 2) := by decide +kernel
theorem d_MM_array_371 : decode b_MM_array 371 = .ok (.iaload, 1) := by decide +kernel
theorem d_MM_array_372 : decode b_MM_array 372 = .ok (.istore 13, 2) := by decide +kernel
theorem d_MM_array_374 : decode b_MM_array 374 = .ok (.iload 13, 2) := by decide +kernel
theorem d_MM_array_376 : decode b_MM_array 376 = .ok (.ifCond .lt 82, 3) := by decide +kernel
theorem d_MM_array_379 : decode b_MM_array 379 = .ok (.aload_n 0, 1) := by decide +kernel
theorem d_MM_array_380 : decode b_MM_array 380 = .ok (.getfield 506, 3) := by decide +kernel
theorem d_MM_array_383 : decode b_MM_array 383 = .ok (.ifCond .ne 75, 3) := by decide +kernel
theorem d_MM_array_386 : decode b_MM_array 386 = .ok (.iload 9, 2) := by decide +kernel
theorem d_MM_array_388 : decode b_MM_array 388 = .ok (.iload 12, 2) := by decide +kernel
theorem d_MM_array_390 : decode b_MM_array 390 = .ok (.if_icmp .lt 50, 3) := by decide +kernel
theorem d_MM_array_393 : decode b_MM_array 393 = .ok (.iload_n 1, 1) := by decide +kernel
theorem d_MM_array_394 : decode b_MM_array 394 = .ok (.bipush 8, 2) := by decide +kernel
theorem d_MM_array_396 : decode b_MM_array 396 = .ok (.if_icmp .ne 18, 3) := by decide +kernel
theorem d_MM_array_399 : decode b_MM_array 399 = .ok (.lload 5, 2) := by decide +kernel
theorem d_MM_array_401 : decode b_MM_array 401 = .ok (.iload 9, 2) := by decide +kernel
theorem d_MM_array_403 : decode b_MM_array 403 = .ok (.lshr, 1) := by decide +kernel
theorem d_MM_array_404 : decode b_MM_array 404 = .ok (.lconst 1, 1) := by decide +kernel
theorem d_MM_array_405 : decode b_MM_array 405 = .ok (.land, 1) := by decide +kernel
theorem d_MM_array_406 : decode b_MM_array 406 = .ok (.lconst 0, 1) := by decide +kernel
theorem d_MM_array_407 : decode b_MM_array 407 = .ok (.lcmp, 1) := by decide +kernel
theorem d_MM_array_408 : decode b_MM_array 408 = .ok (.ifCond .eq 6, 3) := by decide +kernel
theorem d_MM_array_411 : decode b_MM_array 411 = .ok (.goto 29, 3) := by decide +kernel
theorem d_MM_array_414 : decode b_MM_array 414 = .ok (.iload 7, 2) := by decide +kernel
theorem d_MM_array_416 : decode b_MM_array 416 = .ok (.aload_n 0, 1) := by decide +kernel
theorem d_MM_array_417 : decode b_MM_array 417 = .ok (.iload_n 2, 1) := by decide +kernel
theorem d_MM_array_418 : decode b_MM_array 418 = .ok (.iload 13, 2) := by decide +kernel
theorem d_MM_array_420 : decode b_MM_array 420 = .ok (.invokevirtual 509, 3) := by decide +kernel
theorem d_MM_array_423 : decode b_MM_array 423 = .ok (.iand, 1) := by decide +kernel
theorem d_MM_array_424 : decode b_MM_array 424 = .ok (.istore 7, 2) := by decide +kernel
theorem d_MM_array_426 : decode b_MM_array 426 = .ok (.iload_n 1, 1) := by decide +kernel
theorem d_MM_array_427 : decode b_MM_array 427 = .ok (.iconst 4, 1) := by decide +kernel
theorem d_MM_array_428 : decode b_MM_array 428 = .ok (.if_icmp .ne 12, 3) := by decide +kernel
theorem d_MM_array_431 : decode b_MM_array 431 = .ok (.lload 5, 2) := by decide +kernel
theorem d_MM_array_433 : decode b_MM_array 433 = .ok (.lconst 1, 1) := by decide +kernel
theorem d_MM_array_434 : decode b_MM_array 434 = .ok (.iload 9, 2) := by decide +kernel
theorem d_MM_array_436 : decode b_MM_array 436 = .ok (.lshl, 1) := by decide +kernel
theorem d_MM_array_437 : decode b_MM_array 437 = .ok (.lor, 1) := by decide +kernel
theorem d_MM_array_438 : decode b_MM_array 438 = .ok (.lstore 5, 2) := by decide +kernel
theorem d_MM_array_440 : decode b_MM_array 440 = .ok (.aload_n 0, 1) := by decide +kernel
theorem d_MM_array_441 : decode b_MM_array 441 = .ok (.getfield 24, 3) := by decide +kernel
theorem d_MM_array_444 : decode b_MM_array 444 = .ok (.getfield 436, 3) := by decide +kernel
theorem d_MM_array_447 : decode b_MM_array 447 = .ok (.iload 13, 2) := by decide +kernel
theorem d_MM_array_449 : decode b_MM_array 449 = .ok (.iaload, 1) := by decide +kernel
theorem d_MM_array_450 : decode b_MM_array 450 = .ok (.istore 13, 2) := by decide +kernel
theorem d_MM_array_452 : decode b_MM_array 452 = .ok (.iinc 9 1, 3) := by decide +kernel
theorem d_MM_array_455 : decode b_MM_array 455 = .ok (.goto (-81), 3) := by decide +kernel
theorem d_MM_array_458 : decode b_MM_array 458 = .ok (.iload_n 1, 1) := by decide +kernel
theorem d_MM_array_459 : decode b_MM_array 459 = .ok (.bipush 8, 2) := by decide +kernel
theorem d_MM_array_461 : decode b_MM_array 461 = .ok (.if_icmp .ne 159, 3) := by decide +kernel
theorem d_MM_array_464 : decode b_MM_array 464 = .ok (.ldc2_w 566, 3) := by decide +kernel
theorem d_MM_array_467 : decode b_MM_array 467 = .ok (.lstore 5, 2) := by decide +kernel
theorem d_MM_array_469 : decode b_MM_array 469 = .ok (.goto 151, 3) := by decide +kernel
theorem d_MM_array_472 : decode b_MM_array 472 = .ok (.aload_n 0, 1) := by decide +kernel
theorem d_MM_array_473 : decode b_MM_array 473 = .ok (.getfield 494, 3) := by decide +kernel
theorem d_MM_array_476 : decode b_MM_array 476 = .ok (.istore 11, 2) := by decide +kernel
theorem d_MM_array_478 : decode b_MM_array 478 = .ok (.aload_n 0, 1) := by decide +kernel
theorem d_MM_array_479 : decode b_MM_array 479 = .ok (.getfield 20, 3) := by decide +kernel
theorem d_MM_array_482 : decode b_MM_array 482 = .ok (.iload_n 3, 1) := by decide +kernel
theorem d_MM_array_483 : decode b_MM_array 483 = .ok (.ldc 138, 2) := by decide +kernel
theorem d_MM_array_485 : decode b_MM_array 485 = .ok (.invokevirtual 550, 3) := by decide +kernel
theorem d_MM_array_488 : decode b_MM_array 488 = .ok (.istore 12, 2) := by decide +kernel
theorem d_MM_array_490 : decode b_MM_array 490 = .ok (.aload_n 0, 1) := by decide +kernel
theorem d_MM_array_491 : decode b_MM_array 491 = .ok (.getfield 20, 3) := by decide +kernel
theorem d_MM_array_494 : decode b_MM_array 494 = .ok (.iload_n 3, 1) := by decide +kernel
theorem d_MM_array_495 : decode b_MM_array 495 = .ok (.ldc 136, 2) := by decide +kernel
theorem d_MM_array_497 : decode b_MM_array 497 = .ok (.invokevirtual 550, 3) := by decide +kernel
theorem d_MM_array_500 : decode b_MM_array 500 = .ok (.istore 13, 2) := by decide +kernel
theorem d_MM_array_502 : decode b_MM_array 502 = .ok (.aload_n 0, 1) := by decide +kernel
theorem d_MM_array_503 : decode b_MM_array 503 = .ok (.getfield 24, 3) := by decide +kernel
theorem d_MM_array_506 : decode b_MM_array 506 = .ok (.getfield 422, 3) := by decide +kernel
theorem d_MM_array_509 : decode b_MM_array 509 = .ok (.iload 4, 2) := by decide +kernel
theorem d_MM_array_511 : decode b_MM_array 511 = .ok (.iaload, 1) := by decide +kernel
theorem d_MM_array_512 : decode b_MM_array 512 = .ok (.istore 14, 2) := by decide +kernel
theorem d_MM_array_514 : decode b_MM_array 514 = .ok (.iload 14, 2) := by decide +kernel
theorem d_MM_array_516 : decode b_MM_array 516 = .ok (.ifCond .lt 50, 3) := by decide +kernel
theorem d_MM_array_519 : decode b_MM_array 519 = .ok (.aload_n 0, 1) := by decide +kernel
theorem d_MM_array_520 : decode b_MM_array 520 = .ok (.getfield 506, 3) := by decide +kernel
theorem d_MM_array_523 : decode b_MM_array 523 = .ok (.ifCond .ne 43, 3) := by decide +kernel
theorem d_MM_array_526 : decode b_MM_array 526 = .ok (.aload_n 0, 1) := by decide +kernel
theorem d_MM_array_527 : decode b_MM_array 527 = .ok (.iload_n 2, 1) := by decide +kernel
theorem d_MM_array_528 : decode b_MM_array 528 = .ok (.iload 14, 2) := by decide +kernel
theorem d_MM_array_530 : decode b_MM_array 530 = .ok (.invokevirtual 509, 3) := by decide +kernel
theorem d_MM_array_533 : decode b_MM_array 533 = .ok (.ifCond .eq 15, 3) := by decide +kernel
theorem d_MM_array_536 : decode b_MM_array 536 = .ok (.iinc 10 1, 3) := by decide +kernel
theorem d_MM_array_539 : decode b_MM_array 539 = .ok (.lload 5, 2) := by decide +kernel
theorem d_MM_array_541 : decode b_MM_array 541 = .ok (.lconst 1, 1) := by decide +kernel
theorem d_MM_array_542 : decode b_MM_array 542 = .ok (.iload 9, 2) := by decide +kernel
theorem d_MM_array_544 : decode b_MM_array 544 = .ok (.lshl, 1) := by decide +kernel
theorem d_MM_array_545 : decode b_MM_array 545 = .ok (.lor, 1) := by decide +kernel
theorem d_MM_array_546 : decode b_MM_array 546 = .ok (.lstore 5, 2) := by decide +kernel
theorem d_MM_array_548 : decode b_MM_array 548 = .ok (.aload_n 0, 1) := by decide +kernel
theorem d_MM_array_549 : decode b_MM_array 549 = .ok (.getfield 24, 3) := by decide +kernel
theorem d_MM_array_552 : decode b_MM_array 552 = .ok (.getfield 436, 3) := by decide +kernel
theorem d_MM_array_555 : decode b_MM_array 555 = .ok (.iload 14, 2) := by decide +kernel
theorem d_MM_array_557 : decode b_MM_array 557 = .ok (.iaload, 1) := by decide +kernel
theorem d_MM_array_558 : decode b_MM_array 558 = .ok (.istore 14, 2) := by decide +kernel
theorem d_MM_array_560 : decode b_MM_array 560 = .ok (.iinc 9 1, 3) := by decide +kernel
theorem d_MM_array_563 : decode b_MM_array 563 = .ok (.goto (-49), 3) := by decide +kernel
theorem d_MM_array_566 : decode b_MM_array 566 = .ok (.aload_n 0, 1) := by decide +kernel
theorem d_MM_array_567 : decode b_MM_array 567 = .ok (.iload 11, 2) := by decide +kernel
theorem d_MM_array_569 : decode b_MM_array 569 = .ok (.putfield 494, 3) := by decide +kernel
theorem d_MM_array_572 : decode b_MM_array 572 = .ok (.iload 10, 2) := by decide +kernel
theorem d_MM_array_574 : decode b_MM_array 574 = .ok (.iload 12, 2) := by decide +kernel
theorem d_MM_array_576 : decode b_MM_array 576 = .ok (.ifCond .ge 7, 3) := by decide +kernel
theorem d_MM_array_579 : decode b_MM_array 579 = .ok (.iconst 1, 1) := by decide +kernel
theorem d_MM_array_580 : decode b_MM_array 580 = .ok (.goto 9, 3) := by decide +kernel
theorem d_MM_array_583 : decode b_MM_array 583 = .ok (.aload_n 0, 1) := by decide +kernel
theorem d_MM_array_584 : decode b_MM_array 584 = .ok (.iload 12, 2) := by decide +kernel
theorem d_MM_array_586 : decode b_MM_array 586 = .ok (.invokevirtual 449, 3) := by decide +kernel
theorem d_MM_array_589 : decode b_MM_array 589 = .ok (.if_icmp .lt 23, 3) := by decide +kernel
theorem d_MM_array_592 : decode b_MM_array 592 = .ok (.iload 13, 2) := by decide +kernel
theorem d_MM_array_594 : decode b_MM_array 594 = .ok (.ifCond .lt 14, 3) := by decide +kernel
theorem d_MM_array_597 : decode b_MM_array 597 = .ok (.iload 10, 2) := by decide +kernel
theorem d_MM_array_599 : decode b_MM_array 599 = .ok (.aload_n 0, 1) := by decide +kernel
theorem d_MM_array_600 : decode b_MM_array 600 = .ok (.iload 13, 2) := by decide +kernel
theorem d_MM_array_602 : decode b_MM_array 602 = .ok (.invokevirtual 449, 3) := by decide +kernel
theorem d_MM_array_605 : decode b_MM_array 605 = .ok (.if_icmp .gt 7, 3) := by decide +kernel
theorem d_MM_array_608 : decode b_MM_array 608 = .ok (.iconst 1, 1) := by decide +kernel
theorem d_MM_array_609 : decode b_MM_array 609 = .ok (.goto 4, 3) := by decide +kernel
theorem d_MM_array_612 : decode b_MM_array 612 = .ok (.iconst 0, 1) := by decide +kernel
theorem d_MM_array_613 : decode b_MM_array 613 = .ok (.istore 7, 2) := by decide +kernel
theorem d_MM_array_615 : decode b_MM_array 615 = .ok (.goto 5, 3) := by decide +kernel
theorem d_MM_array_618 : decode b_MM_array 618 = .ok (.iconst 1, 1) := by decide +kernel
theorem d_MM_array_619 : decode b_MM_array 619 = .ok (.ireturn, 1) := by decide +kernel
theorem d_MM_array_620 : decode b_MM_array 620 = .ok (.aload_n 0, 1) := by decide +kernel
theorem d_MM_array_621 : decode b_MM_array 621 = .ok (.lload 5, 2) := by decide +kernel
theorem d_MM_array_623 : decode b_MM_array 623 = .ok (.putfield 518, 3) := by decide +kernel
theorem d_MM_array_626 : decode b_MM_array 626 = .ok (.iload 7, 2) := by decide +kernel
theorem d_MM_array_628 : decode b_MM_array 628 = .ok (.ireturn, 1) := by decide +kernel
theorem d_MM_dependent_0 : decode b_MM_dependent 0 = .ok (.aload_n 0, 1) := by decide +kernel
theorem d_MM_dependent_1 : decode b_MM_dependent 1 = .ok (.getfield 518, 3) := by decide +kernel
