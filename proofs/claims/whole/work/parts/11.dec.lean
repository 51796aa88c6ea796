theorem d_Pg_emit_0 : decode b_Pg_emit 0 = .ok (.aload_n 0, 1) := by decide +kernel
theorem d_Pg_emit_1 : decode b_Pg_emit 1 = .ok (.getfield 33, 3) := by decide +kernel
theorem d_Pg_emit_4 : decode b_Pg_emit 4 = .ok (.sipush 1300, 3) := by decide +kernel
theorem d_Pg_emit_7 : decode b_Pg_emit 7 = .ok (.if_icmp .ge 23, 3) := by decide +kernel
theorem d_Pg_emit_10 : decode b_Pg_emit 10 = .ok (.aload_n 0, 1) := by decide +kernel
theorem d_Pg_emit_11 : decode b_Pg_emit 11 = .ok (.getfield 9, 3) := by decide +kernel
theorem d_Pg_emit_14 : decode b_Pg_emit 14 = .ok (.aload_n 0, 1) := by decide +kernel
theorem d_Pg_emit_15 : decode b_Pg_emit 15 = .ok (.getfield 33, 3) := by decide +kernel
theorem d_Pg_emit_18 : decode b_Pg_emit 18 = .ok (.iload_n 1, 1) := by decide +kernel
theorem d_Pg_emit_19 : decode b_Pg_emit 19 = .ok (.iastore, 1) := by decide +kernel
theorem d_Pg_emit_20 : decode b_Pg_emit 20 = .ok (.aload_n 0, 1) := by decide +kernel
theorem d_Pg_emit_21 : decode b_Pg_emit 21 = .ok (.getfield 15, 3) := by decide +kernel
theorem d_Pg_emit_24 : decode b_Pg_emit 24 = .ok (.aload_n 0, 1) := by decide +kernel
theorem d_Pg_emit_25 : decode b_Pg_emit 25 = .ok (.getfield 33, 3) := by decide +kernel
theorem d_Pg_emit_28 : decode b_Pg_emit 28 = .ok (.iload_n 2, 1) := by decide +kernel
theorem d_Pg_emit_29 : decode b_Pg_emit 29 = .ok (.iastore, 1) := by decide +kernel
theorem d_Pg_emit_30 : decode b_Pg_emit 30 = .ok (.aload_n 0, 1) := by decide +kernel
theorem d_Pg_emit_31 : decode b_Pg_emit 31 = .ok (.aload_n 0, 1) := by decide +kernel
theorem d_Pg_emit_32 : decode b_Pg_emit 32 = .ok (.getfield 33, 3) := by decide +kernel
theorem d_Pg_emit_35 : decode b_Pg_emit 35 = .ok (.iconst 1, 1) := by decide +kernel
theorem d_Pg_emit_36 : decode b_Pg_emit 36 = .ok (.iadd, 1) := by decide +kernel
theorem d_Pg_emit_37 : decode b_Pg_emit 37 = .ok (.ldc 40, 2) := by decide +kernel
theorem d_Pg_emit_39 : decode b_Pg_emit 39 = .ok (.invokestatic 41, 3) := by decide +kernel
theorem d_Pg_emit_42 : decode b_Pg_emit 42 = .ok (.putfield 33, 3) := by decide +kernel
theorem d_Pg_emit_45 : decode b_Pg_emit 45 = .ok (.return_, 1) := by decide +kernel
theorem d_Pg_beginSet_0 : decode b_Pg_beginSet 0 = .ok (.aload_n 0, 1) := by decide +kernel
theorem d_Pg_beginSet_1 : decode b_Pg_beginSet 1 = .ok (.getfield 37, 3) := by decide +kernel
theorem d_Pg_beginSet_4 : decode b_Pg_beginSet 4 = .ok (.istore_n 1, 1) := by decide +kernel
theorem d_Pg_beginSet_5 : decode b_Pg_beginSet 5 = .ok (.aload_n 0, 1) := by decide +kernel
theorem d_Pg_beginSet_6 : decode b_Pg_beginSet 6 = .ok (.getfield 37, 3) := by decide +kernel
theorem d_Pg_beginSet_9 : decode b_Pg_beginSet 9 = .ok (.iconst 2, 1) := by decide +kernel
theorem d_Pg_beginSet_10 : decode b_Pg_beginSet 10 = .ok (.iadd, 1) := by decide +kernel
theorem d_Pg_beginSet_11 : decode b_Pg_beginSet 11 = .ok (.aload_n 0, 1) := by decide +kernel
theorem d_Pg_beginSet_12 : decode b_Pg_beginSet 12 = .ok (.getfield 18, 3) := by decide +kernel
theorem d_Pg_beginSet_15 : decode b_Pg_beginSet 15 = .ok (.arraylength, 1) := by decide +kernel
theorem d_Pg_beginSet_16 : decode b_Pg_beginSet 16 = .ok (.if_icmp .gt 29, 3) := by decide +kernel
theorem d_Pg_beginSet_19 : decode b_Pg_beginSet 19 = .ok (.aload_n 0, 1) := by decide +kernel
theorem d_Pg_beginSet_20 : decode b_Pg_beginSet 20 = .ok (.getfield 18, 3) := by decide +kernel
theorem d_Pg_beginSet_23 : decode b_Pg_beginSet 23 = .ok (.iload_n 1, 1) := by decide +kernel
theorem d_Pg_beginSet_24 : decode b_Pg_beginSet 24 = .ok (.iconst 0, 1) := by decide +kernel
theorem d_Pg_beginSet_25 : decode b_Pg_beginSet 25 = .ok (.iastore, 1) := by decide +kernel
theorem d_Pg_beginSet_26 : decode b_Pg_beginSet 26 = .ok (.aload_n 0, 1) := by decide +kernel
theorem d_Pg_beginSet_27 : decode b_Pg_beginSet 27 = .ok (.getfield 18, 3) := by decide +kernel
theorem d_Pg_beginSet_30 : decode b_Pg_beginSet 30 = .ok (.iload_n 1, 1) := by decide +kernel
theorem d_Pg_beginSet_31 : decode b_Pg_beginSet 31 = .ok (.iconst 1, 1) := by decide +kernel
theorem d_Pg_beginSet_32 : decode b_Pg_beginSet 32 = .ok (.iadd, 1) := by decide +kernel
theorem d_Pg_beginSet_33 : decode b_Pg_beginSet 33 = .ok (.iconst 0, 1) := by decide +kernel
theorem d_Pg_beginSet_34 : decode b_Pg_beginSet 34 = .ok (.iastore, 1) := by decide +kernel
theorem d_Pg_beginSet_35 : decode b_Pg_beginSet 35 = .ok (.aload_n 0, 1) := by decide +kernel
theorem d_Pg_beginSet_36 : decode b_Pg_beginSet 36 = .ok (.dup, 1) := by decide +kernel
theorem d_Pg_beginSet_37 : decode b_Pg_beginSet 37 = .ok (.getfield 37, 3) := by decide +kernel
theorem d_Pg_beginSet_40 : decode b_Pg_beginSet 40 = .ok (.iconst 2, 1) := by decide +kernel
theorem d_Pg_beginSet_41 : decode b_Pg_beginSet 41 = .ok (.iadd, 1) := by decide +kernel
theorem d_Pg_beginSet_42 : decode b_Pg_beginSet 42 = .ok (.putfield 37, 3) := by decide +kernel
theorem d_Pg_beginSet_45 : decode b_Pg_beginSet 45 = .ok (.iload_n 1, 1) := by decide +kernel
theorem d_Pg_beginSet_46 : decode b_Pg_beginSet 46 = .ok (.ireturn, 1) := by decide +kernel
theorem d_Pg_addClass_0 : decode b_Pg_addClass 0 = .ok (.iload_n 1, 1) := by decide +kernel
theorem d_Pg_addClass_1 : decode b_Pg_addClass 1 = .ok (.ifCond .lt 26, 3) := by decide +kernel
theorem d_Pg_addClass_4 : decode b_Pg_addClass 4 = .ok (.iload_n 1, 1) := by decide +kernel
theorem d_Pg_addClass_5 : decode b_Pg_addClass 5 = .ok (.iconst 1, 1) := by decide +kernel
theorem d_Pg_addClass_6 : decode b_Pg_addClass 6 = .ok (.iadd, 1) := by decide +kernel
theorem d_Pg_addClass_7 : decode b_Pg_addClass 7 = .ok (.aload_n 0, 1) := by decide +kernel
theorem d_Pg_addClass_8 : decode b_Pg_addClass 8 = .ok (.getfield 18, 3) := by decide +kernel
theorem d_Pg_addClass_11 : decode b_Pg_addClass 11 = .ok (.arraylength, 1) := by decide +kernel
theorem d_Pg_addClass_12 : decode b_Pg_addClass 12 = .ok (.if_icmp .ge 15, 3) := by decide +kernel
theorem d_Pg_addClass_15 : decode b_Pg_addClass 15 = .ok (.aload_n 0, 1) := by decide +kernel
theorem d_Pg_addClass_16 : decode b_Pg_addClass 16 = .ok (.getfield 18, 3) := by decide +kernel
theorem d_Pg_addClass_19 : decode b_Pg_addClass 19 = .ok (.iload_n 1, 1) := by decide +kernel
theorem d_Pg_addClass_20 : decode b_Pg_addClass 20 = .ok (.iconst 1, 1) := by decide +kernel
theorem d_Pg_addClass_21 : decode b_Pg_addClass 21 = .ok (.iadd, 1) := by decide +kernel
theorem d_Pg_addClass_22 : decode b_Pg_addClass 22 = .ok (.dup2, 1) := by decide +kernel
theorem d_Pg_addClass_23 : decode b_Pg_addClass 23 = .ok (.iaload, 1) := by decide +kernel
theorem d_Pg_addClass_24 : decode b_Pg_addClass 24 = .ok (.iload_n 2, 1) := by decide +kernel
theorem d_Pg_addClass_25 : decode b_Pg_addClass 25 = .ok (.ior, 1) := by decide +kernel
theorem d_Pg_addClass_26 : decode b_Pg_addClass 26 = .ok (.iastore, 1) := by decide +kernel
theorem d_Pg_addClass_27 : decode b_Pg_addClass 27 = .ok (.return_, 1) := by decide +kernel
theorem d_Pg_addRange_0 : decode b_Pg_addRange 0 = .ok (.iload_n 1, 1) := by decide +kernel
theorem d_Pg_addRange_1 : decode b_Pg_addRange 1 = .ok (.ifCond .lt 68, 3) := by decide +kernel
theorem d_Pg_addRange_4 : decode b_Pg_addRange 4 = .ok (.iload_n 1, 1) := by decide +kernel
theorem d_Pg_addRange_5 : decode b_Pg_addRange 5 = .ok (.aload_n 0, 1) := by decide +kernel
theorem d_Pg_addRange_6 : decode b_Pg_addRange 6 = .ok (.getfield 18, 3) := by decide +kernel
theorem d_Pg_addRange_9 : decode b_Pg_addRange 9 = .ok (.arraylength, 1) := by decide +kernel
theorem d_Pg_addRange_10 : decode b_Pg_addRange 10 = .ok (.if_icmp .ge 59, 3) := by decide +kernel
theorem d_Pg_addRange_13 : decode b_Pg_addRange 13 = .ok (.aload_n 0, 1) := by decide +kernel
theorem d_Pg_addRange_14 : decode b_Pg_addRange 14 = .ok (.getfield 37, 3) := by decide +kernel
theorem d_Pg_addRange_17 : decode b_Pg_addRange 17 = .ok (.iconst 2, 1) := by decide +kernel
theorem d_Pg_addRange_18 : decode b_Pg_addRange 18 = .ok (.iadd, 1) := by decide +kernel
theorem d_Pg_addRange_19 : decode b_Pg_addRange 19 = .ok (.aload_n 0, 1) := by decide +kernel
theorem d_Pg_addRange_20 : decode b_Pg_addRange 20 = .ok (.getfield 18, 3) := by decide +kernel
theorem d_Pg_addRange_23 : decode b_Pg_addRange 23 = .ok (.arraylength, 1) := by decide +kernel
theorem d_Pg_addRange_24 : decode b_Pg_addRange 24 = .ok (.if_icmp .gt 45, 3) := by decide +kernel
theorem d_Pg_addRange_27 : decode b_Pg_addRange 27 = .ok (.aload_n 0, 1) := by decide +kernel
theorem d_Pg_addRange_28 : decode b_Pg_addRange 28 = .ok (.getfield 18, 3) := by decide +kernel
theorem d_Pg_addRange_31 : decode b_Pg_addRange 31 = .ok (.iload_n 1, 1) := by decide +kernel
theorem d_Pg_addRange_32 : decode b_Pg_addRange 32 = .ok (.dup2, 1) := by decide +kernel
theorem d_Pg_addRange_33 : decode b_Pg_addRange 33 = .ok (.iaload, 1) := by decide +kernel
theorem d_Pg_addRange_34 : decode b_Pg_addRange 34 = .ok (.iconst 1, 1) := by decide +kernel
theorem d_Pg_addRange_35 : decode b_Pg_addRange 35 = .ok (.iadd, 1) := by decide +kernel
theorem d_Pg_addRange_36 : decode b_Pg_addRange 36 = .ok (.iastore, 1) := by decide +kernel
theorem d_Pg_addRange_37 : decode b_Pg_addRange 37 = .ok (.aload_n 0, 1) := by decide +kernel
theorem d_Pg_addRange_38 : decode b_Pg_addRange 38 = .ok (.getfield 18, 3) := by decide +kernel
theorem d_Pg_addRange_41 : decode b_Pg_addRange 41 = .ok (.aload_n 0, 1) := by decide +kernel
theorem d_Pg_addRange_42 : decode b_Pg_addRange 42 = .ok (.getfield 37, 3) := by decide +kernel
theorem d_Pg_addRange_45 : decode b_Pg_addRange 45 = .ok (.iload_n 2, 1) := by decide +kernel
theorem d_Pg_addRange_46 : decode b_Pg_addRange 46 = .ok (.iastore, 1) := by decide +kernel
theorem d_Pg_addRange_47 : decode b_Pg_addRange 47 = .ok (.aload_n 0, 1) := by decide +kernel
theorem d_Pg_addRange_48 : decode b_Pg_addRange 48 = .ok (.getfield 18, 3) := by decide +kernel
theorem d_Pg_addRange_51 : decode b_Pg_addRange 51 = .ok (.aload_n 0, 1) := by decide +kernel
theorem d_Pg_addRange_52 : decode b_Pg_addRange 52 = .ok (.getfield 37, 3) := by decide +kernel
theorem d_Pg_addRange_55 : decode b_Pg_addRange 55 = .ok (.iconst 1, 1) := by decide +kernel
theorem d_Pg_addRange_56 : decode b_Pg_addRange 56 = .ok (.iadd, 1) := by decide +kernel
theorem d_Pg_addRange_57 : decode b_Pg_addRange 57 = .ok (.iload_n 3, 1) := by decide +kernel
theorem d_Pg_addRange_58 : decode b_Pg_addRange 58 = .ok (.iastore, 1) := by decide +kernel
theorem d_Pg_addRange_59 : decode b_Pg_addRange 59 = .ok (.aload_n 0, 1) := by decide +kernel
theorem d_Pg_addRange_60 : decode b_Pg_addRange 60 = .ok (.dup, 1) := by decide +kernel
theorem d_Pg_addRange_61 : decode b_Pg_addRange 61 = .ok (.getfield 37, 3) := by decide +kernel
theorem d_Pg_addRange_64 : decode b_Pg_addRange 64 = .ok (.iconst 2, 1) := by decide +kernel
theorem d_Pg_addRange_65 : decode b_Pg_addRange 65 = .ok (.iadd, 1) := by decide +kernel
theorem d_Pg_addRange_66 : decode b_Pg_addRange 66 = .ok (.putfield 37, 3) := by decide +kernel
theorem d_Pg_addRange_69 : decode b_Pg_addRange 69 = .ok (.return_, 1) := by decide +kernel
theorem d_Pt_readSet_0 : decode b_Pt_readSet 0 = .ok (.aload_n 0, 1) := by decide +kernel
theorem d_Pt_readSet_1 : decode b_Pt_readSet 1 = .ok (.getfield 27, 3) := by decide +kernel
theorem d_Pt_readSet_4 : decode b_Pt_readSet 4 = .ok (.invokevirtual 166, 3) := by decide +kernel
theorem d_Pt_readSet_7 : decode b_Pt_readSet 7 = .ok (.istore_n 1, 1) := by decide +kernel
theorem d_Pt_readSet_8 : decode b_Pt_readSet 8 = .ok (.aload_n 0, 1) := by decide +kernel
theorem d_Pt_readSet_9 : decode b_Pt_readSet 9 = .ok (.iconst 0, 1) := by decide +kernel
theorem d_Pt_readSet_10 : decode b_Pt_readSet 10 = .ok (.invokevirtual 107, 3) := by decide +kernel
theorem d_Pt_readSet_13 : decode b_Pt_readSet 13 = .ok (.bipush 94, 2) := by decide +kernel
theorem d_Pt_readSet_15 : decode b_Pt_readSet 15 = .ok (.if_icmp .ne 23, 3) := by decide +kernel
theorem d_Pt_readSet_18 : decode b_Pt_readSet 18 = .ok (.aload_n 0, 1) := by decide +kernel
theorem d_Pt_readSet_19 : decode b_Pt_readSet 19 = .ok (.getfield 27, 3) := by decide +kernel
theorem d_Pt_readSet_22 : decode b_Pt_readSet 22 = .ok (.iload_n 1, 1) := by decide +kernel
theorem d_Pt_readSet_23 : decode b_Pt_readSet 23 = .ok (.bipush 64, 2) := by decide +kernel
theorem d_Pt_readSet_25 : decode b_Pt_readSet 25 = .ok (.invokevirtual 169, 3) := by decide +kernel
theorem d_Pt_readSet_28 : decode b_Pt_readSet 28 = .ok (.aload_n 0, 1) := by decide +kernel
theorem d_Pt_readSet_29 : decode b_Pt_readSet 29 = .ok (.dup, 1) := by decide +kernel
theorem d_Pt_readSet_30 : decode b_Pt_readSet 30 = .ok (.getfield 53, 3) := by decide +kernel
theorem d_Pt_readSet_33 : decode b_Pt_readSet 33 = .ok (.iconst 1, 1) := by decide +kernel
theorem d_Pt_readSet_34 : decode b_Pt_readSet 34 = .ok (.iadd, 1) := by decide +kernel
theorem d_Pt_readSet_35 : decode b_Pt_readSet 35 = .ok (.putfield 53, 3) := by decide +kernel
theorem d_Pt_readSet_38 : decode b_Pt_readSet 38 = .ok (.iconst 0, 1) := by decide +kernel
theorem d_Pt_readSet_39 : decode b_Pt_readSet 39 = .ok (.istore_n 2, 1) := by decide +kernel
theorem d_Pt_readSet_40 : decode b_Pt_readSet 40 = .ok (.iload_n 2, 1) := by decide +kernel
theorem d_Pt_readSet_41 : decode b_Pt_readSet 41 = .ok (.aload_n 0, 1) := by decide +kernel
theorem d_Pt_readSet_42 : decode b_Pt_readSet 42 = .ok (.getfield 50, 3) := by decide +kernel
theorem d_Pt_readSet_45 : decode b_Pt_readSet 45 = .ok (.if_icmp .ge 152, 3) := by decide +kernel
theorem d_Pt_readSet_48 : decode b_Pt_readSet 48 = .ok (.aload_n 0, 1) := by decide +kernel
theorem d_Pt_readSet_49 : decode b_Pt_readSet 49 = .ok (.iconst 0, 1) := by decide +kernel
theorem d_Pt_readSet_50 : decode b_Pt_readSet 50 = .ok (.invokevirtual 107, 3) := by decide +kernel
theorem d_Pt_readSet_53 : decode b_Pt_readSet 53 = .ok (.istore_n 3, 1) := by decide +kernel
theorem d_Pt_readSet_54 : decode b_Pt_readSet 54 = .ok (.aload_n 0, 1) := by decide +kernel
theorem d_Pt_readSet_55 : decode b_Pt_readSet 55 = .ok (.dup, 1) := by decide +kernel
theorem d_Pt_readSet_56 : decode b_Pt_readSet 56 = .ok (.getfield 53, 3) := by decide +kernel
theorem d_Pt_readSet_59 : decode b_Pt_readSet 59 = .ok (.iconst 1, 1) := by decide +kernel
theorem d_Pt_readSet_60 : decode b_Pt_readSet 60 = .ok (.iadd, 1) := by decide +kernel
theorem d_Pt_readSet_61 : decode b_Pt_readSet 61 = .ok (.putfield 53, 3) := by decide +kernel
theorem d_Pt_readSet_64 : decode b_Pt_readSet 64 = .ok (.iload_n 3, 1) := by decide +kernel
theorem d_Pt_readSet_65 : decode b_Pt_readSet 65 = .ok (.bipush (-93), 2) := by decide +kernel
theorem d_Pt_readSet_67 : decode b_Pt_readSet 67 = .ok (.if_icmp .ne 5, 3) := by decide +kernel
theorem d_Pt_readSet_70 : decode b_Pt_readSet 70 = .ok (.iload_n 1, 1) := by decide +kernel
theorem d_Pt_readSet_71 : decode b_Pt_readSet 71 = .ok (.ireturn, 1) := by decide +kernel
theorem d_Pt_readSet_72 : decode b_Pt_readSet 72 = .ok (.iload_n 3, 1) := by decide +kernel
theorem d_Pt_readSet_73 : decode b_Pt_readSet 73 = .ok (.istore 4, 2) := by decide +kernel
theorem d_Pt_readSet_75 : decode b_Pt_readSet 75 = .ok (.aload_n 0, 1) := by decide +kernel
theorem d_Pt_readSet_76 : decode b_Pt_readSet 76 = .ok (.iconst 0, 1) := by decide +kernel
theorem d_Pt_readSet_77 : decode b_Pt_readSet 77 = .ok (.invokevirtual 107, 3) := by decide +kernel
theorem d_Pt_readSet_80 : decode b_Pt_readSet 80 = .ok (.bipush 45, 2) := by decide +kernel
theorem d_Pt_readSet_82 : decode b_Pt_readSet 82 = .ok (.if_icmp .ne 47, 3) := by decide +kernel
theorem d_Pt_readSet_85 : decode b_Pt_readSet 85 = .ok (.aload_n 0, 1) := by decide +kernel
theorem d_Pt_readSet_86 : decode b_Pt_readSet 86 = .ok (.iconst 1, 1) := by decide +kernel
theorem d_Pt_readSet_87 : decode b_Pt_readSet 87 = .ok (.invokevirtual 107, 3) := by decide +kernel
theorem d_Pt_readSet_90 : decode b_Pt_readSet 90 = .ok (.bipush (-93), 2) := by decide +kernel
theorem d_Pt_readSet_92 : decode b_Pt_readSet 92 = .ok (.if_icmp .eq 37, 3) := by decide +kernel
theorem d_Pt_readSet_95 : decode b_Pt_readSet 95 = .ok (.aload_n 0, 1) := by decide +kernel
theorem d_Pt_readSet_96 : decode b_Pt_readSet 96 = .ok (.iconst 1, 1) := by decide +kernel
theorem d_Pt_readSet_97 : decode b_Pt_readSet 97 = .ok (.invokevirtual 107, 3) := by decide +kernel
theorem d_Pt_readSet_100 : decode b_Pt_readSet 100 = .ok (.istore 4, 2) := by decide +kernel
theorem d_Pt_readSet_102 : decode b_Pt_readSet 102 = .ok (.aload_n 0, 1) := by decide +kernel
theorem d_Pt_readSet_103 : decode b_Pt_readSet 103 = .ok (.dup, 1) := by decide +kernel
theorem d_Pt_readSet_104 : decode b_Pt_readSet 104 = .ok (.getfield 53, 3) := by decide +kernel
theorem d_Pt_readSet_107 : decode b_Pt_readSet 107 = .ok (.iconst 2, 1) := by decide +kernel
theorem d_Pt_readSet_108 : decode b_Pt_readSet 108 = .ok (.iadd, 1) := by decide +kernel
theorem d_Pt_readSet_109 : decode b_Pt_readSet 109 = .ok (.putfield 53, 3) := by decide +kernel
theorem d_Pt_readSet_112 : decode b_Pt_readSet 112 = .ok (.iload_n 3, 1) := by decide +kernel
theorem d_Pt_readSet_113 : decode b_Pt_readSet 113 = .ok (.ldc 87, 2) := by decide +kernel
theorem d_Pt_readSet_115 : decode b_Pt_readSet 115 = .ok (.iand, 1) := by decide +kernel
theorem d_Pt_readSet_116 : decode b_Pt_readSet 116 = .ok (.ifCond .ne 11, 3) := by decide +kernel
theorem d_Pt_readSet_119 : decode b_Pt_readSet 119 = .ok (.iload 4, 2) := by decide +kernel
theorem d_Pt_readSet_121 : decode b_Pt_readSet 121 = .ok (.ldc 87, 2) := by decide +kernel
theorem d_Pt_readSet_123 : decode b_Pt_readSet 123 = .ok (.iand, 1) := by decide +kernel
theorem d_Pt_readSet_124 : decode b_Pt_readSet 124 = .ok (.ifCond .eq 5, 3) := by decide +kernel
theorem d_Pt_readSet_127 : decode b_Pt_readSet 127 = .ok (.iconst (-1), 1) := by decide +kernel
theorem d_Pt_readSet_128 : decode b_Pt_readSet 128 = .ok (.ireturn, 1) := by decide +kernel
theorem d_Pt_readSet_129 : decode b_Pt_readSet 129 = .ok (.iload_n 3, 1) := by decide +kernel
theorem d_Pt_readSet_130 : decode b_Pt_readSet 130 = .ok (.ifCond .lt 20, 3) := by decide +kernel
theorem d_Pt_readSet_133 : decode b_Pt_readSet 133 = .ok (.iload 4, 2) := by decide +kernel
theorem d_Pt_readSet_135 : decode b_Pt_readSet 135 = .ok (.ifCond .lt 15, 3) := by decide +kernel
theorem d_Pt_readSet_138 : decode b_Pt_readSet 138 = .ok (.iload_n 3, 1) := by decide +kernel
theorem d_Pt_readSet_139 : decode b_Pt_readSet 139 = .ok (.ldc 165, 2) := by decide +kernel
theorem d_Pt_readSet_141 : decode b_Pt_readSet 141 = .ok (.iand, 1) := by decide +kernel
theorem d_Pt_readSet_142 : decode b_Pt_readSet 142 = .ok (.iload 4, 2) := by decide +kernel
theorem d_Pt_readSet_144 : decode b_Pt_readSet 144 = .ok (.ldc 165, 2) := by decide +kernel
theorem d_Pt_readSet_146 : decode b_Pt_readSet 146 = .ok (.iand, 1) := by decide +kernel
theorem d_Pt_readSet_147 : decode b_Pt_readSet 147 = .ok (.if_icmp .le 5, 3) := by decide +kernel
theorem d_Pt_readSet_150 : decode b_Pt_readSet 150 = .ok (.iconst (-1), 1) := by decide +kernel
theorem d_Pt_readSet_151 : decode b_Pt_readSet 151 = .ok (.ireturn, 1) := by decide +kernel
theorem d_Pt_readSet_152 : decode b_Pt_readSet 152 = .ok (.iload_n 3, 1) := by decide +kernel
theorem d_Pt_readSet_153 : decode b_Pt_readSet 153 = .ok (.ldc 87, 2) := by decide +kernel
theorem d_Pt_readSet_155 : decode b_Pt_readSet 155 = .ok (.iand, 1) := by decide +kernel
theorem d_Pt_readSet_156 : decode b_Pt_readSet 156 = .ok (.ifCond .eq 18, 3) := by decide +kernel
theorem d_Pt_readSet_159 : decode b_Pt_readSet 159 = .ok (.aload_n 0, 1) := by decide +kernel
theorem d_Pt_readSet_160 : decode b_Pt_readSet 160 = .ok (.getfield 27, 3) := by decide +kernel
theorem d_Pt_readSet_163 : decode b_Pt_readSet 163 = .ok (.iload_n 1, 1) := by decide +kernel
theorem d_Pt_readSet_164 : decode b_Pt_readSet 164 = .ok (.iload_n 3, 1) := by decide +kernel
theorem d_Pt_readSet_165 : decode b_Pt_readSet 165 = .ok (.ldc 164, 2) := by decide +kernel
theorem d_Pt_readSet_167 : decode b_Pt_readSet 167 = .ok (.iand, 1) := by decide +kernel
theorem d_Pt_readSet_168 : decode b_Pt_readSet 168 = .ok (.invokevirtual 169, 3) := by decide +kernel
theorem d_Pt_readSet_171 : decode b_Pt_readSet 171 = .ok (.goto 20, 3) := by decide +kernel
theorem d_Pt_readSet_174 : decode b_Pt_readSet 174 = .ok (.aload_n 0, 1) := by decide +kernel
theorem d_Pt_readSet_175 : decode b_Pt_readSet 175 = .ok (.getfield 27, 3) := by decide +kernel
theorem d_Pt_readSet_178 : decode b_Pt_readSet 178 = .ok (.iload_n 1, 1) := by decide +kernel
theorem d_Pt_readSet_179 : decode b_Pt_readSet 179 = .ok (.iload_n 3, 1) := by decide +kernel
theorem d_Pt_readSet_180 : decode b_Pt_readSet 180 = .ok (.ldc 165, 2) := by decide +kernel
theorem d_Pt_readSet_182 : decode b_Pt_readSet 182 = .ok (.iand, 1) := by decide +kernel
theorem d_Pt_readSet_183 : decode b_Pt_readSet 183 = .ok (.iload 4, 2) := by decide +kernel
theorem d_Pt_readSet_185 : decode b_Pt_readSet 185 = .ok (.ldc 165, 2) := by decide +kernel
theorem d_Pt_readSet_187 : decode b_Pt_readSet 187 = .ok (.iand, 1) := by decide +kernel
theorem d_Pt_readSet_188 : decode b_Pt_readSet 188 = .ok (.invokevirtual 172, 3) := by decide +kernel
theorem d_Pt_readSet_191 : decode b_Pt_readSet 191 = .ok (.iinc 2 1, 3) := by decide +kernel
theorem d_Pt_readSet_194 : decode b_Pt_readSet 194 = .ok (.goto (-154), 3) := by decide +kernel
theorem d_Pt_readSet_197 : decode b_Pt_readSet 197 = .ok (.iconst (-1), 1) := by decide +kernel
theorem d_Pt_readSet_198 : decode b_Pt_readSet 198 = .ok (.ireturn, 1) := by decide +kernel
theorem d_Pt_single_0 : decode b_Pt_single 0 = .ok (.aload_n 0, 1) := by decide +kernel
theorem d_Pt_single_1 : decode b_Pt_single 1 = .ok (.dup, 1) := by decide +kernel
theorem d_Pt_single_2 : decode b_Pt_single 2 = .ok (.getfield 98, 3) := by decide +kernel
theorem d_Pt_single_5 : decode b_Pt_single 5 = .ok (.iconst 1, 1) := by decide +kernel
theorem d_Pt_single_6 : decode b_Pt_single 6 = .ok (.iadd, 1) := by decide +kernel
theorem d_Pt_single_7 : decode b_Pt_single 7 = .ok (.putfield 98, 3) := by decide +kernel
theorem d_Pt_single_10 : decode b_Pt_single 10 = .ok (.iload_n 1, 1) := by decide +kernel
theorem d_Pt_single_11 : decode b_Pt_single 11 = .ok (.lookupswitch 94 #[((-94), 41), ((-91), 74), ((-46), 63), ((-36), 52)], 41) := by decide +kernel
theorem d_Pt_single_52 : decode b_Pt_single 52 = .ok (.aload_n 0, 1) := by decide +kernel
theorem d_Pt_single_53 : decode b_Pt_single 53 = .ok (.getfield 27, 3) := by decide +kernel
theorem d_Pt_single_56 : decode b_Pt_single 56 = .ok (.iconst 4, 1) := by decide +kernel
theorem d_Pt_single_57 : decode b_Pt_single 57 = .ok (.iconst 0, 1) := by decide +kernel
theorem d_Pt_single_58 : decode b_Pt_single 58 = .ok (.invokevirtual 151, 3) := by decide +kernel
theorem d_Pt_single_61 : decode b_Pt_single 61 = .ok (.iconst 1, 1) := by decide +kernel
theorem d_Pt_single_62 : decode b_Pt_single 62 = .ok (.ireturn, 1) := by decide +kernel
theorem d_Pt_single_63 : decode b_Pt_single 63 = .ok (.aload_n 0, 1) := by decide +kernel
theorem d_Pt_single_64 : decode b_Pt_single 64 = .ok (.getfield 27, 3) := by decide +kernel
theorem d_Pt_single_67 : decode b_Pt_single 67 = .ok (.iconst 5, 1) := by decide +kernel
theorem d_Pt_single_68 : decode b_Pt_single 68 = .ok (.iconst 0, 1) := by decide +kernel
theorem d_Pt_single_69 : decode b_Pt_single 69 = .ok (.invokevirtual 151, 3) := by decide +kernel
theorem d_Pt_single_72 : decode b_Pt_single 72 = .ok (.iconst 1, 1) := by decide +kernel
theorem d_Pt_single_73 : decode b_Pt_single 73 = .ok (.ireturn, 1) := by decide +kernel
theorem d_Pt_single_74 : decode b_Pt_single 74 = .ok (.aload_n 0, 1) := by decide +kernel
theorem d_Pt_single_75 : decode b_Pt_single 75 = .ok (.getfield 27, 3) := by decide +kernel
theorem d_Pt_single_78 : decode b_Pt_single 78 = .ok (.iconst 1, 1) := by decide +kernel
theorem d_Pt_single_79 : decode b_Pt_single 79 = .ok (.iconst 0, 1) := by decide +kernel
theorem d_Pt_single_80 : decode b_Pt_single 80 = .ok (.invokevirtual 151, 3) := by decide +kernel
theorem d_Pt_single_83 : decode b_Pt_single 83 = .ok (.iconst 1, 1) := by decide +kernel
theorem d_Pt_single_84 : decode b_Pt_single 84 = .ok (.ireturn, 1) := by decide +kernel
theorem d_Pt_single_85 : decode b_Pt_single 85 = .ok (.aload_n 0, 1) := by decide +kernel
theorem d_Pt_single_86 : decode b_Pt_single 86 = .ok (.getfield 27, 3) := by decide +kernel
theorem d_Pt_single_89 : decode b_Pt_single 89 = .ok (.iconst 3, 1) := by decide +kernel
theorem d_Pt_single_90 : decode b_Pt_single 90 = .ok (.iload_n 2, 1) := by decide +kernel
theorem d_Pt_single_91 : decode b_Pt_single 91 = .ok (.invokevirtual 151, 3) := by decide +kernel
theorem d_Pt_single_94 : decode b_Pt_single 94 = .ok (.iload_n 2, 1) := by decide +kernel
theorem d_Pt_single_95 : decode b_Pt_single 95 = .ok (.iconst (-1), 1) := by decide +kernel
theorem d_Pt_single_96 : decode b_Pt_single 96 = .ok (.if_icmp .eq 7, 3) := by decide +kernel
theorem d_Pt_single_99 : decode b_Pt_single 99 = .ok (.iconst 1, 1) := by decide +kernel
theorem d_Pt_single_100 : decode b_Pt_single 100 = .ok (.goto 4, 3) := by decide +kernel
theorem d_Pt_single_103 : decode b_Pt_single 103 = .ok (.iconst 0, 1) := by decide +kernel
theorem d_Pt_single_104 : decode b_Pt_single 104 = .ok (.ireturn, 1) := by decide +kernel
theorem d_Pt_single_105 : decode b_Pt_single 105 = .ok (.iload_n 1, 1) := by decide +kernel
theorem d_Pt_single_106 : decode b_Pt_single 106 = .ok (.ldc 87, 2) := by decide +kernel
theorem d_Pt_single_108 : decode b_Pt_single 108 = .ok (.iand, 1) := by decide +kernel
theorem d_Pt_single_109 : decode b_Pt_single 109 = .ok (.ifCond .eq 18, 3) := by decide +kernel
theorem d_Pt_single_112 : decode b_Pt_single 112 = .ok (.aload_n 0, 1) := by decide +kernel
theorem d_Pt_single_113 : decode b_Pt_single 113 = .ok (.getfield 27, 3) := by decide +kernel
theorem d_Pt_single_116 : decode b_Pt_single 116 = .ok (.iconst 2, 1) := by decide +kernel
theorem d_Pt_single_117 : decode b_Pt_single 117 = .ok (.iload_n 1, 1) := by decide +kernel
theorem d_Pt_single_118 : decode b_Pt_single 118 = .ok (.ldc 164, 2) := by decide +kernel
theorem d_Pt_single_120 : decode b_Pt_single 120 = .ok (.iand, 1) := by decide +kernel
theorem d_Pt_single_121 : decode b_Pt_single 121 = .ok (.invokevirtual 151, 3) := by decide +kernel
theorem d_Pt_single_124 : decode b_Pt_single 124 = .ok (.goto 15, 3) := by decide +kernel
theorem d_Pt_single_127 : decode b_Pt_single 127 = .ok (.aload_n 0, 1) := by decide +kernel
theorem d_Pt_single_128 : decode b_Pt_single 128 = .ok (.getfield 27, 3) := by decide +kernel
theorem d_Pt_single_131 : decode b_Pt_single 131 = .ok (.iconst 0, 1) := by decide +kernel
theorem d_Pt_single_132 : decode b_Pt_single 132 = .ok (.iload_n 1, 1) := by decide +kernel
theorem d_Pt_single_133 : decode b_Pt_single 133 = .ok (.ldc 165, 2) := by decide +kernel
theorem d_Pt_single_135 : decode b_Pt_single 135 = .ok (.iand, 1) := by decide +kernel
theorem d_Pt_single_136 : decode b_Pt_single 136 = .ok (.invokevirtual 151, 3) := by decide +kernel
theorem d_Pt_single_139 : decode b_Pt_single 139 = .ok (.iload_n 1, 1) := by decide +kernel
theorem d_Pt_single_140 : decode b_Pt_single 140 = .ok (.ifCond .lt 7, 3) := by decide +kernel
theorem d_Pt_single_143 : decode b_Pt_single 143 = .ok (.iconst 1, 1) := by decide +kernel
theorem d_Pt_single_144 : decode b_Pt_single 144 = .ok (.goto 4, 3) := by decide +kernel
theorem d_Pt_single_147 : decode b_Pt_single 147 = .ok (.iconst 0, 1) := by decide +kernel
theorem d_Pt_single_148 : decode b_Pt_single 148 = .ok (.ireturn, 1) := by decide +kernel
theorem d_Pt_isQuantifier_0 : decode b_Pt_isQuantifier 0 = .ok (.iload_n 0, 1) := by decide +kernel
theorem d_Pt_isQuantifier_1 : decode b_Pt_isQuantifier 1 = .ok (.bipush (-42), 2) := by decide +kernel
theorem d_Pt_isQuantifier_3 : decode b_Pt_isQuantifier 3 = .ok (.if_icmp .eq 21, 3) := by decide +kernel
theorem d_Pt_isQuantifier_6 : decode b_Pt_isQuantifier 6 = .ok (.iload_n 0, 1) := by decide +kernel
theorem d_Pt_isQuantifier_7 : decode b_Pt_isQuantifier 7 = .ok (.bipush (-43), 2) := by decide +kernel
theorem d_Pt_isQuantifier_9 : decode b_Pt_isQuantifier 9 = .ok (.if_icmp .eq 15, 3) := by decide +kernel
theorem d_Pt_isQuantifier_12 : decode b_Pt_isQuantifier 12 = .ok (.iload_n 0, 1) := by decide +kernel
theorem d_Pt_isQuantifier_13 : decode b_Pt_isQuantifier 13 = .ok (.bipush (-63), 2) := by decide +kernel
theorem d_Pt_isQuantifier_15 : decode b_Pt_isQuantifier 15 = .ok (.if_icmp .eq 9, 3) := by decide +kernel
theorem d_Pt_isQuantifier_18 : decode b_Pt_isQuantifier 18 = .ok (.iload_n 0, 1) := by decide +kernel
theorem d_Pt_isQuantifier_19 : decode b_Pt_isQuantifier 19 = .ok (.bipush (-123), 2) := by decide +kernel
theorem d_Pt_isQuantifier_21 : decode b_Pt_isQuantifier 21 = .ok (.if_icmp .ne 7, 3) := by decide +kernel
theorem d_Pt_isQuantifier_24 : decode b_Pt_isQuantifier 24 = .ok (.iconst 1, 1) := by decide +kernel
theorem d_Pt_isQuantifier_25 : decode b_Pt_isQuantifier 25 = .ok (.goto 4, 3) := by decide +kernel
theorem d_Pt_isQuantifier_28 : decode b_Pt_isQuantifier 28 = .ok (.iconst 0, 1) := by decide +kernel
theorem d_Pt_isQuantifier_29 : decode b_Pt_isQuantifier 29 = .ok (.ireturn, 1) := by decide +kernel
theorem d_Pt_readNumber_0 : decode b_Pt_readNumber 0 = .ok (.iconst (-1), 1) := by decide +kernel
theorem d_Pt_readNumber_1 : decode b_Pt_readNumber 1 = .ok (.istore_n 1, 1) := by decide +kernel
theorem d_Pt_readNumber_2 : decode b_Pt_readNumber 2 = .ok (.iconst 0, 1) := by decide +kernel
theorem d_Pt_readNumber_3 : decode b_Pt_readNumber 3 = .ok (.istore_n 2, 1) := by decide +kernel
theorem d_Pt_readNumber_4 : decode b_Pt_readNumber 4 = .ok (.iload_n 2, 1) := by decide +kernel
theorem d_Pt_readNumber_5 : decode b_Pt_readNumber 5 = .ok (.iconst 3, 1) := by decide +kernel
theorem d_Pt_readNumber_6 : decode b_Pt_readNumber 6 = .ok (.if_icmp .ge 72, 3) := by decide +kernel
theorem d_Pt_readNumber_9 : decode b_Pt_readNumber 9 = .ok (.aload_n 0, 1) := by decide +kernel
theorem d_Pt_readNumber_10 : decode b_Pt_readNumber 10 = .ok (.getfield 53, 3) := by decide +kernel
theorem d_Pt_readNumber_13 : decode b_Pt_readNumber 13 = .ok (.aload_n 0, 1) := by decide +kernel
theorem d_Pt_readNumber_14 : decode b_Pt_readNumber 14 = .ok (.getfield 50, 3) := by decide +kernel
theorem d_Pt_readNumber_17 : decode b_Pt_readNumber 17 = .ok (.if_icmp .ge 15, 3) := by decide +kernel
theorem d_Pt_readNumber_20 : decode b_Pt_readNumber 20 = .ok (.aload_n 0, 1) := by decide +kernel
theorem d_Pt_readNumber_21 : decode b_Pt_readNumber 21 = .ok (.getfield 11, 3) := by decide +kernel
theorem d_Pt_readNumber_24 : decode b_Pt_readNumber 24 = .ok (.aload_n 0, 1) := by decide +kernel
theorem d_Pt_readNumber_25 : decode b_Pt_readNumber 25 = .ok (.getfield 53, 3) := by decide +kernel
theorem d_Pt_readNumber_28 : decode b_Pt_readNumber 28 = .ok (.iaload, 1) := by decide +kernel
theorem d_Pt_readNumber_29 : decode b_Pt_readNumber 29 = .ok (.goto 4, 3) := by decide +kernel
theorem d_Pt_readNumber_32 : decode b_Pt_readNumber 32 = .ok (.iconst (-1), 1) := by decide +kernel
theorem d_Pt_readNumber_33 : decode b_Pt_readNumber 33 = .ok (.istore_n 3, 1) := by decide +kernel
theorem d_Pt_readNumber_34 : decode b_Pt_readNumber 34 = .ok (.iload_n 3, 1) := by decide +kernel
theorem d_Pt_readNumber_35 : decode b_Pt_readNumber 35 = .ok (.bipush 48, 2) := by decide +kernel
theorem d_Pt_readNumber_37 : decode b_Pt_readNumber 37 = .ok (.if_icmp .lt 9, 3) := by decide +kernel
theorem d_Pt_readNumber_40 : decode b_Pt_readNumber 40 = .ok (.iload_n 3, 1) := by decide +kernel
theorem d_Pt_readNumber_41 : decode b_Pt_readNumber 41 = .ok (.bipush 57, 2) := by decide +kernel
theorem d_Pt_readNumber_43 : decode b_Pt_readNumber 43 = .ok (.if_icmp .le 5, 3) := by decide +kernel
theorem d_Pt_readNumber_46 : decode b_Pt_readNumber 46 = .ok (.iload_n 1, 1) := by decide +kernel
theorem d_Pt_readNumber_47 : decode b_Pt_readNumber 47 = .ok (.ireturn, 1) := by decide +kernel
theorem d_Pt_readNumber_48 : decode b_Pt_readNumber 48 = .ok (.iload_n 1, 1) := by decide +kernel
theorem d_Pt_readNumber_49 : decode b_Pt_readNumber 49 = .ok (.iconst 0, 1) := by decide +kernel
theorem d_Pt_readNumber_50 : decode b_Pt_readNumber 50 = .ok (.invokestatic 143, 3) := by decide +kernel
theorem d_Pt_readNumber_53 : decode b_Pt_readNumber 53 = .ok (.bipush 10, 2) := by decide +kernel
theorem d_Pt_readNumber_55 : decode b_Pt_readNumber 55 = .ok (.imul, 1) := by decide +kernel
theorem d_Pt_readNumber_56 : decode b_Pt_readNumber 56 = .ok (.iload_n 3, 1) := by decide +kernel
theorem d_Pt_readNumber_57 : decode b_Pt_readNumber 57 = .ok (.iadd, 1) := by decide +kernel
theorem d_Pt_readNumber_58 : decode b_Pt_readNumber 58 = .ok (.bipush 48, 2) := by decide +kernel
theorem d_Pt_readNumber_60 : decode b_Pt_readNumber 60 = .ok (.isub, 1) := by decide +kernel
theorem d_Pt_readNumber_61 : decode b_Pt_readNumber 61 = .ok (.istore_n 1, 1) := by decide +kernel
theorem d_Pt_readNumber_62 : decode b_Pt_readNumber 62 = .ok (.aload_n 0, 1) := by decide +kernel
theorem d_Pt_readNumber_63 : decode b_Pt_readNumber 63 = .ok (.dup, 1) := by decide +kernel
theorem d_Pt_readNumber_64 : decode b_Pt_readNumber 64 = .ok (.getfield 53, 3) := by decide +kernel
theorem d_Pt_readNumber_67 : decode b_Pt_readNumber 67 = .ok (.iconst 1, 1) := by decide +kernel
theorem d_Pt_readNumber_68 : decode b_Pt_readNumber 68 = .ok (.iadd, 1) := by decide +kernel
theorem d_Pt_readNumber_69 : decode b_Pt_readNumber 69 = .ok (.putfield 53, 3) := by decide +kernel
theorem d_Pt_readNumber_72 : decode b_Pt_readNumber 72 = .ok (.iinc 2 1, 3) := by decide +kernel
theorem d_Pt_readNumber_75 : decode b_Pt_readNumber 75 = .ok (.goto (-71), 3) := by decide +kernel
theorem d_Pt_readNumber_78 : decode b_Pt_readNumber 78 = .ok (.iload_n 1, 1) := by decide +kernel
theorem d_Pt_readNumber_79 : decode b_Pt_readNumber 79 = .ok (.ireturn, 1) := by decide +kernel
theorem d_Pt_readQuantifier_0 : decode b_Pt_readQuantifier 0 = .ok (.aload_n 0, 1) := by decide +kernel
theorem d_Pt_readQuantifier_1 : decode b_Pt_readQuantifier 1 = .ok (.iconst 0, 1) := by decide +kernel
theorem d_Pt_readQuantifier_2 : decode b_Pt_readQuantifier 2 = .ok (.invokevirtual 107, 3) := by decide +kernel
theorem d_Pt_readQuantifier_5 : decode b_Pt_readQuantifier 5 = .ok (.istore_n 1, 1) := by decide +kernel
theorem d_Pt_readQuantifier_6 : decode b_Pt_readQuantifier 6 = .ok (.aload_n 0, 1) := by decide +kernel
theorem d_Pt_readQuantifier_7 : decode b_Pt_readQuantifier 7 = .ok (.dup, 1) := by decide +kernel
theorem d_Pt_readQuantifier_8 : decode b_Pt_readQuantifier 8 = .ok (.getfield 53, 3) := by decide +kernel
theorem d_Pt_readQuantifier_11 : decode b_Pt_readQuantifier 11 = .ok (.iconst 1, 1) := by decide +kernel
theorem d_Pt_readQuantifier_12 : decode b_Pt_readQuantifier 12 = .ok (.iadd, 1) := by decide +kernel
theorem d_Pt_readQuantifier_13 : decode b_Pt_readQuantifier 13 = .ok (.putfield 53, 3) := by decide +kernel
theorem d_Pt_readQuantifier_16 : decode b_Pt_readQuantifier 16 = .ok (.aload_n 0, 1) := by decide +kernel
theorem d_Pt_readQuantifier_17 : decode b_Pt_readQuantifier 17 = .ok (.iload_n 1, 1) := by decide +kernel
theorem d_Pt_readQuantifier_18 : decode b_Pt_readQuantifier 18 = .ok (.bipush (-43), 2) := by decide +kernel
theorem d_Pt_readQuantifier_20 : decode b_Pt_readQuantifier 20 = .ok (.if_icmp .ne 7, 3) := by decide +kernel
theorem d_Pt_readQuantifier_23 : decode b_Pt_readQuantifier 23 = .ok (.iconst 1, 1) := by decide +kernel
theorem d_Pt_readQuantifier_24 : decode b_Pt_readQuantifier 24 = .ok (.goto 4, 3) := by decide +kernel
theorem d_Pt_readQuantifier_27 : decode b_Pt_readQuantifier 27 = .ok (.iconst 0, 1) := by decide +kernel
theorem d_Pt_readQuantifier_28 : decode b_Pt_readQuantifier 28 = .ok (.putfield 140, 3) := by decide +kernel
theorem d_Pt_readQuantifier_31 : decode b_Pt_readQuantifier 31 = .ok (.aload_n 0, 1) := by decide +kernel
theorem d_Pt_readQuantifier_32 : decode b_Pt_readQuantifier 32 = .ok (.iload_n 1, 1) := by decide +kernel
theorem d_Pt_readQuantifier_33 : decode b_Pt_readQuantifier 33 = .ok (.bipush (-63), 2) := by decide +kernel
theorem d_Pt_readQuantifier_35 : decode b_Pt_readQuantifier 35 = .ok (.if_icmp .ne 7, 3) := by decide +kernel
theorem d_Pt_readQuantifier_38 : decode b_Pt_readQuantifier 38 = .ok (.iconst 1, 1) := by decide +kernel
theorem d_Pt_readQuantifier_39 : decode b_Pt_readQuantifier 39 = .ok (.goto 4, 3) := by decide +kernel
theorem d_Pt_readQuantifier_42 : decode b_Pt_readQuantifier 42 = .ok (.iconst (-1), 1) := by decide +kernel
theorem d_Pt_readQuantifier_43 : decode b_Pt_readQuantifier 43 = .ok (.putfield 137, 3) := by decide +kernel
theorem d_Pt_readQuantifier_46 : decode b_Pt_readQuantifier 46 = .ok (.iconst 1, 1) := by decide +kernel
theorem d_Pt_readQuantifier_47 : decode b_Pt_readQuantifier 47 = .ok (.istore_n 2, 1) := by decide +kernel
theorem d_Pt_readQuantifier_48 : decode b_Pt_readQuantifier 48 = .ok (.iload_n 1, 1) := by decide +kernel
theorem d_Pt_readQuantifier_49 : decode b_Pt_readQuantifier 49 = .ok (.bipush (-123), 2) := by decide +kernel
theorem d_Pt_readQuantifier_51 : decode b_Pt_readQuantifier 51 = .ok (.if_icmp .ne 110, 3) := by decide +kernel
theorem d_Pt_readQuantifier_54 : decode b_Pt_readQuantifier 54 = .ok (.aload_n 0, 1) := by decide +kernel
theorem d_Pt_readQuantifier_55 : decode b_Pt_readQuantifier 55 = .ok (.aload_n 0, 1) := by decide +kernel
theorem d_Pt_readQuantifier_56 : decode b_Pt_readQuantifier 56 = .ok (.invokevirtual 175, 3) := by decide +kernel
theorem d_Pt_readQuantifier_59 : decode b_Pt_readQuantifier 59 = .ok (.putfield 140, 3) := by decide +kernel
theorem d_Pt_readQuantifier_62 : decode b_Pt_readQuantifier 62 = .ok (.aload_n 0, 1) := by decide +kernel
theorem d_Pt_readQuantifier_63 : decode b_Pt_readQuantifier 63 = .ok (.aload_n 0, 1) := by decide +kernel
theorem d_Pt_readQuantifier_64 : decode b_Pt_readQuantifier 64 = .ok (.getfield 140, 3) := by decide +kernel
theorem d_Pt_readQuantifier_67 : decode b_Pt_readQuantifier 67 = .ok (.putfield 137, 3) := by decide +kernel
theorem d_Pt_readQuantifier_70 : decode b_Pt_readQuantifier 70 = .ok (.aload_n 0, 1) := by decide +kernel
theorem d_Pt_readQuantifier_71 : decode b_Pt_readQuantifier 71 = .ok (.getfield 140, 3) := by decide +kernel
theorem d_Pt_readQuantifier_74 : decode b_Pt_readQuantifier 74 = .ok (.iconst (-1), 1) := by decide +kernel
theorem d_Pt_readQuantifier_75 : decode b_Pt_readQuantifier 75 = .ok (.if_icmp .eq 7, 3) := by decide +kernel
theorem d_Pt_readQuantifier_78 : decode b_Pt_readQuantifier 78 = .ok (.iconst 1, 1) := by decide +kernel
theorem d_Pt_readQuantifier_79 : decode b_Pt_readQuantifier 79 = .ok (.goto 4, 3) := by decide +kernel
theorem d_Pt_readQuantifier_82 : decode b_Pt_readQuantifier 82 = .ok (.iconst 0, 1) := by decide +kernel
theorem d_Pt_readQuantifier_83 : decode b_Pt_readQuantifier 83 = .ok (.istore_n 2, 1) := by decide +kernel
theorem d_Pt_readQuantifier_84 : decode b_Pt_readQuantifier 84 = .ok (.aload_n 0, 1) := by decide +kernel
theorem d_Pt_readQuantifier_85 : decode b_Pt_readQuantifier 85 = .ok (.iconst 0, 1) := by decide +kernel
theorem d_Pt_readQuantifier_86 : decode b_Pt_readQuantifier 86 = .ok (.invokevirtual 107, 3) := by decide +kernel
theorem d_Pt_readQuantifier_89 : decode b_Pt_readQuantifier 89 = .ok (.bipush 44, 2) := by decide +kernel
theorem d_Pt_readQuantifier_91 : decode b_Pt_readQuantifier 91 = .ok (.if_icmp .ne 21, 3) := by decide +kernel
theorem d_Pt_readQuantifier_94 : decode b_Pt_readQuantifier 94 = .ok (.aload_n 0, 1) := by decide +kernel
theorem d_Pt_readQuantifier_95 : decode b_Pt_readQuantifier 95 = .ok (.dup, 1) := by decide +kernel
theorem d_Pt_readQuantifier_96 : decode b_Pt_readQuantifier 96 = .ok (.getfield 53, 3) := by decide +kernel
theorem d_Pt_readQuantifier_99 : decode b_Pt_readQuantifier 99 = .ok (.iconst 1, 1) := by decide +kernel
theorem d_Pt_readQuantifier_100 : decode b_Pt_readQuantifier 100 = .ok (.iadd, 1) := by decide +kernel
theorem d_Pt_readQuantifier_101 : decode b_Pt_readQuantifier 101 = .ok (.putfield 53, 3) := by decide +kernel
theorem d_Pt_readQuantifier_104 : decode b_Pt_readQuantifier 104 = .ok (.aload_n 0, 1) := by decide +kernel
theorem d_Pt_readQuantifier_105 : decode b_Pt_readQuantifier 105 = .ok (.aload_n 0, 1) := by decide +kernel
theorem d_Pt_readQuantifier_106 : decode b_Pt_readQuantifier 106 = .ok (.invokevirtual 175, 3) := by decide +kernel
theorem d_Pt_readQuantifier_109 : decode b_Pt_readQuantifier 109 = .ok (.putfield 137, 3) := by decide +kernel
theorem d_Pt_readQuantifier_112 : decode b_Pt_readQuantifier 112 = .ok (.iload_n 2, 1) := by decide +kernel
theorem d_Pt_readQuantifier_113 : decode b_Pt_readQuantifier 113 = .ok (.ifCond .eq 36, 3) := by decide +kernel
theorem d_Pt_readQuantifier_116 : decode b_Pt_readQuantifier 116 = .ok (.aload_n 0, 1) := by decide +kernel
theorem d_Pt_readQuantifier_117 : decode b_Pt_readQuantifier 117 = .ok (.iconst 0, 1) := by decide +kernel
theorem d_Pt_readQuantifier_118 : decode b_Pt_readQuantifier 118 = .ok (.invokevirtual 107, 3) := by decide +kernel
theorem d_Pt_readQuantifier_121 : decode b_Pt_readQuantifier 121 = .ok (.bipush (-125), 2) := by decide +kernel
theorem d_Pt_readQuantifier_123 : decode b_Pt_readQuantifier 123 = .ok (.if_icmp .ne 26, 3) := by decide +kernel
theorem d_Pt_readQuantifier_126 : decode b_Pt_readQuantifier 126 = .ok (.aload_n 0, 1) := by decide +kernel
theorem d_Pt_readQuantifier_127 : decode b_Pt_readQuantifier 127 = .ok (.getfield 137, 3) := by decide +kernel
theorem d_Pt_readQuantifier_130 : decode b_Pt_readQuantifier 130 = .ok (.iconst (-1), 1) := by decide +kernel
theorem d_Pt_readQuantifier_131 : decode b_Pt_readQuantifier 131 = .ok (.if_icmp .eq 14, 3) := by decide +kernel
theorem d_Pt_readQuantifier_134 : decode b_Pt_readQuantifier 134 = .ok (.aload_n 0, 1) := by decide +kernel
theorem d_Pt_readQuantifier_135 : decode b_Pt_readQuantifier 135 = .ok (.getfield 140, 3) := by decide +kernel
theorem d_Pt_readQuantifier_138 : decode b_Pt_readQuantifier 138 = .ok (.aload_n 0, 1) := by decide +kernel
theorem d_Pt_readQuantifier_139 : decode b_Pt_readQuantifier 139 = .ok (.getfield 137, 3) := by decide +kernel
theorem d_Pt_readQuantifier_142 : decode b_Pt_readQuantifier 142 = .ok (.if_icmp .gt 7, 3) := by decide +kernel
theorem d_Pt_readQuantifier_145 : decode b_Pt_readQuantifier 145 = .ok (.iconst 1, 1) := by decide +kernel
theorem d_Pt_readQuantifier_146 : decode b_Pt_readQuantifier 146 = .ok (.goto 4, 3) := by decide +kernel
theorem d_Pt_readQuantifier_149 : decode b_Pt_readQuantifier 149 = .ok (.iconst 0, 1) := by decide +kernel
theorem d_Pt_readQuantifier_150 : decode b_Pt_readQuantifier 150 = .ok (.istore_n 2, 1) := by decide +kernel
theorem d_Pt_readQuantifier_151 : decode b_Pt_readQuantifier 151 = .ok (.aload_n 0, 1) := by decide +kernel
theorem d_Pt_readQuantifier_152 : decode b_Pt_readQuantifier 152 = .ok (.dup, 1) := by decide +kernel
theorem d_Pt_readQuantifier_153 : decode b_Pt_readQuantifier 153 = .ok (.getfield 53, 3) := by decide +kernel
theorem d_Pt_readQuantifier_156 : decode b_Pt_readQuantifier 156 = .ok (.iconst 1, 1) := by decide +kernel
theorem d_Pt_readQuantifier_157 : decode b_Pt_readQuantifier 157 = .ok (.iadd, 1) := by decide +kernel
theorem d_Pt_readQuantifier_158 : decode b_Pt_readQuantifier 158 = .ok (.putfield 53, 3) := by decide +kernel
theorem d_Pt_readQuantifier_161 : decode b_Pt_readQuantifier 161 = .ok (.aload_n 0, 1) := by decide +kernel
theorem d_Pt_readQuantifier_162 : decode b_Pt_readQuantifier 162 = .ok (.iconst 0, 1) := by decide +kernel
theorem d_Pt_readQuantifier_163 : decode b_Pt_readQuantifier 163 = .ok (.invokevirtual 107, 3) := by decide +kernel
theorem d_Pt_readQuantifier_166 : decode b_Pt_readQuantifier 166 = .ok (.bipush (-63), 2) := by decide +kernel
theorem d_Pt_readQuantifier_168 : decode b_Pt_readQuantifier 168 = .ok (.if_icmp .ne 13, 3) := by decide +kernel
theorem d_Pt_readQuantifier_171 : decode b_Pt_readQuantifier 171 = .ok (.aload_n 0, 1) := by decide +kernel
theorem d_Pt_readQuantifier_172 : decode b_Pt_readQuantifier 172 = .ok (.dup, 1) := by decide +kernel
theorem d_Pt_readQuantifier_173 : decode b_Pt_readQuantifier 173 = .ok (.getfield 53, 3) := by decide +kernel
theorem d_Pt_readQuantifier_176 : decode b_Pt_readQuantifier 176 = .ok (.iconst 1, 1) := by decide +kernel
theorem d_Pt_readQuantifier_177 : decode b_Pt_readQuantifier 177 = .ok (.iadd, 1) := by decide +kernel
theorem d_Pt_readQuantifier_178 : decode b_Pt_readQuantifier 178 = .ok (.putfield 53, 3) := by decide +kernel
theorem d_Pt_readQuantifier_181 : decode b_Pt_readQuantifier 181 = .ok (.iload_n 2, 1) := by decide +kernel
theorem d_Pt_readQuantifier_182 : decode b_Pt_readQuantifier 182 = .ok (.ifCond .eq 25, 3) := by decide +kernel
theorem d_Pt_readQuantifier_185 : decode b_Pt_readQuantifier 185 = .ok (.aload_n 0, 1) := by decide +kernel
theorem d_Pt_readQuantifier_186 : decode b_Pt_readQuantifier 186 = .ok (.getfield 140, 3) := by decide +kernel
theorem d_Pt_readQuantifier_189 : decode b_Pt_readQuantifier 189 = .ok (.bipush 50, 2) := by decide +kernel
theorem d_Pt_readQuantifier_191 : decode b_Pt_readQuantifier 191 = .ok (.if_icmp .gt 16, 3) := by decide +kernel
theorem d_Pt_readQuantifier_194 : decode b_Pt_readQuantifier 194 = .ok (.aload_n 0, 1) := by decide +kernel
theorem d_Pt_readQuantifier_195 : decode b_Pt_readQuantifier 195 = .ok (.getfield 137, 3) := by decide +kernel
theorem d_Pt_readQuantifier_198 : decode b_Pt_readQuantifier 198 = .ok (.bipush 50, 2) := by decide +kernel
theorem d_Pt_readQuantifier_200 : decode b_Pt_readQuantifier 200 = .ok (.if_icmp .gt 7, 3) := by decide +kernel
theorem d_Pt_readQuantifier_203 : decode b_Pt_readQuantifier 203 = .ok (.iconst 1, 1) := by decide +kernel
theorem d_Pt_readQuantifier_204 : decode b_Pt_readQuantifier 204 = .ok (.goto 4, 3) := by decide +kernel
theorem d_Pt_readQuantifier_207 : decode b_Pt_readQuantifier 207 = .ok (.iconst 0, 1) := by decide +kernel
theorem d_Pt_readQuantifier_208 : decode b_Pt_readQuantifier 208 = .ok (.ireturn, 1) := by decide +kernel
theorem d_Tx_cell_0 : decode b_Tx_cell 0 = .ok (.iload_n 1, 1) := by decide +kernel
theorem d_Tx_cell_1 : decode b_Tx_cell 1 = .ok (.ifCond .lt 25, 3) := by decide +kernel
theorem d_Tx_cell_4 : decode b_Tx_cell 4 = .ok (.iload_n 1, 1) := by decide +kernel
theorem d_Tx_cell_5 : decode b_Tx_cell 5 = .ok (.aload_n 0, 1) := by decide +kernel
theorem d_Tx_cell_6 : decode b_Tx_cell 6 = .ok (.getfield 43, 3) := by decide +kernel
theorem d_Tx_cell_9 : decode b_Tx_cell 9 = .ok (.if_icmp .ge 17, 3) := by decide +kernel
theorem d_Tx_cell_12 : decode b_Tx_cell 12 = .ok (.iload_n 2, 1) := by decide +kernel
theorem d_Tx_cell_13 : decode b_Tx_cell 13 = .ok (.ifCond .lt 13, 3) := by decide +kernel
theorem d_Tx_cell_16 : decode b_Tx_cell 16 = .ok (.iload_n 2, 1) := by decide +kernel
theorem d_Tx_cell_17 : decode b_Tx_cell 17 = .ok (.aload_n 0, 1) := by decide +kernel
theorem d_Tx_cell_18 : decode b_Tx_cell 18 = .ok (.getfield 18, 3) := by decide +kernel
theorem d_Tx_cell_21 : decode b_Tx_cell 21 = .ok (.iload_n 1, 1) := by decide +kernel
theorem d_Tx_cell_22 : decode b_Tx_cell 22 = .ok (.iaload, 1) := by decide +kernel
theorem d_Tx_cell_23 : decode b_Tx_cell 23 = .ok (.if_icmp .lt 5, 3) := by decide +kernel
theorem d_Tx_cell_26 : decode b_Tx_cell 26 = .ok (.iconst 0, 1) := by decide +kernel
theorem d_Tx_cell_27 : decode b_Tx_cell 27 = .ok (.ireturn, 1) := by decide +kernel
theorem d_Tx_cell_28 : decode b_Tx_cell 28 = .ok (.aload_n 0, 1) := by decide +kernel
theorem d_Tx_cell_29 : decode b_Tx_cell 29 = .ok (.getfield 27, 3) := by decide +kernel
theorem d_Tx_cell_32 : decode b_Tx_cell 32 = .ok (.iload_n 1, 1) := by decide +kernel
theorem d_Tx_cell_33 : decode b_Tx_cell 33 = .ok (.iaload, 1) := by decide +kernel
theorem d_Tx_cell_34 : decode b_Tx_cell 34 = .ok (.iload_n 2, 1) := by decide +kernel
theorem d_Tx_cell_35 : decode b_Tx_cell 35 = .ok (.iadd, 1) := by decide +kernel
theorem d_Tx_cell_36 : decode b_Tx_cell 36 = .ok (.istore_n 3, 1) := by decide +kernel
theorem d_Tx_cell_37 : decode b_Tx_cell 37 = .ok (.iload_n 3, 1) := by decide +kernel
theorem d_Tx_cell_38 : decode b_Tx_cell 38 = .ok (.ifCond .lt 21, 3) := by decide +kernel
theorem d_Tx_cell_41 : decode b_Tx_cell 41 = .ok (.iload_n 3, 1) := by decide +kernel
theorem d_Tx_cell_42 : decode b_Tx_cell 42 = .ok (.aload_n 0, 1) := by decide +kernel
theorem d_Tx_cell_43 : decode b_Tx_cell 43 = .ok (.getfield 40, 3) := by decide +kernel
theorem d_Tx_cell_46 : decode b_Tx_cell 46 = .ok (.arraylength, 1) := by decide +kernel
theorem d_Tx_cell_47 : decode b_Tx_cell 47 = .ok (.if_icmp .ge 12, 3) := by decide +kernel
theorem d_Tx_cell_50 : decode b_Tx_cell 50 = .ok (.aload_n 0, 1) := by decide +kernel
theorem d_Tx_cell_51 : decode b_Tx_cell 51 = .ok (.getfield 40, 3) := by decide +kernel
theorem d_Tx_cell_54 : decode b_Tx_cell 54 = .ok (.iload_n 3, 1) := by decide +kernel
theorem d_Tx_cell_55 : decode b_Tx_cell 55 = .ok (.iaload, 1) := by decide +kernel
theorem d_Tx_cell_56 : decode b_Tx_cell 56 = .ok (.goto 4, 3) := by decide +kernel
theorem d_Tx_cell_59 : decode b_Tx_cell 59 = .ok (.iconst 0, 1) := by decide +kernel
theorem d_Tx_cell_60 : decode b_Tx_cell 60 = .ok (.ireturn, 1) := by decide +kernel
theorem d_SJ_isLetter_0 : decode b_SJ_isLetter 0 = .ok (.iload_n 0, 1) := by decide +kernel
theorem d_SJ_isLetter_1 : decode b_SJ_isLetter 1 = .ok (.bipush 97, 2) := by decide +kernel
theorem d_SJ_isLetter_3 : decode b_SJ_isLetter 3 = .ok (.if_icmp .lt 9, 3) := by decide +kernel
theorem d_SJ_isLetter_6 : decode b_SJ_isLetter 6 = .ok (.iload_n 0, 1) := by decide +kernel
theorem d_SJ_isLetter_7 : decode b_SJ_isLetter 7 = .ok (.bipush 122, 2) := by decide +kernel
theorem d_SJ_isLetter_9 : decode b_SJ_isLetter 9 = .ok (.if_icmp .le 21, 3) := by decide +kernel
theorem d_SJ_isLetter_12 : decode b_SJ_isLetter 12 = .ok (.iload_n 0, 1) := by decide +kernel
theorem d_SJ_isLetter_13 : decode b_SJ_isLetter 13 = .ok (.bipush 65, 2) := by decide +kernel
theorem d_SJ_isLetter_15 : decode b_SJ_isLetter 15 = .ok (.if_icmp .lt 9, 3) := by decide +kernel
theorem d_SJ_isLetter_18 : decode b_SJ_isLetter 18 = .ok (.iload_n 0, 1) := by decide +kernel
theorem d_SJ_isLetter_19 : decode b_SJ_isLetter 19 = .ok (.bipush 90, 2) := by decide +kernel
theorem d_SJ_isLetter_21 : decode b_SJ_isLetter 21 = .ok (.if_icmp .le 9, 3) := by decide +kernel
theorem d_SJ_isLetter_24 : decode b_SJ_isLetter 24 = .ok (.iload_n 0, 1) := by decide +kernel
theorem d_SJ_isLetter_25 : decode b_SJ_isLetter 25 = .ok (.bipush 95, 2) := by decide +kernel
theorem d_SJ_isLetter_27 : decode b_SJ_isLetter 27 = .ok (.if_icmp .ne 7, 3) := by decide +kernel
theorem d_SJ_isLetter_30 : decode b_SJ_isLetter 30 = .ok (.iconst 1, 1) := by decide +kernel
theorem d_SJ_isLetter_31 : decode b_SJ_isLetter 31 = .ok (.goto 4, 3) := by decide +kernel
theorem d_SJ_isLetter_34 : decode b_SJ_isLetter 34 = .ok (.iconst 0, 1) := by decide +kernel
theorem d_SJ_isLetter_35 : decode b_SJ_isLetter 35 = .ok (.ireturn, 1) := by decide +kernel
theorem d_Ck_isAnchor_0 : decode b_Ck_isAnchor 0 = .ok (.iconst 0, 1) := by decide +kernel
theorem d_Ck_isAnchor_1 : decode b_Ck_isAnchor 1 = .ok (.istore_n 2, 1) := by decide +kernel
theorem d_Ck_isAnchor_2 : decode b_Ck_isAnchor 2 = .ok (.iload_n 2, 1) := by decide +kernel
theorem d_Ck_isAnchor_3 : decode b_Ck_isAnchor 3 = .ok (.aload_n 0, 1) := by decide +kernel
theorem d_Ck_isAnchor_4 : decode b_Ck_isAnchor 4 = .ok (.getfield 22, 3) := by decide +kernel
theorem d_Ck_isAnchor_7 : decode b_Ck_isAnchor 7 = .ok (.iload_n 1, 1) := by decide +kernel
theorem d_Ck_isAnchor_8 : decode b_Ck_isAnchor 8 = .ok (.invokevirtual 96, 3) := by decide +kernel
theorem d_Ck_isAnchor_11 : decode b_Ck_isAnchor 11 = .ok (.if_icmp .ge 63, 3) := by decide +kernel
theorem d_Ck_isAnchor_14 : decode b_Ck_isAnchor 14 = .ok (.aload_n 0, 1) := by decide +kernel
theorem d_Ck_isAnchor_15 : decode b_Ck_isAnchor 15 = .ok (.getfield 22, 3) := by decide +kernel
theorem d_Ck_isAnchor_18 : decode b_Ck_isAnchor 18 = .ok (.iload_n 1, 1) := by decide +kernel
theorem d_Ck_isAnchor_19 : decode b_Ck_isAnchor 19 = .ok (.iload_n 2, 1) := by decide +kernel
theorem d_Ck_isAnchor_20 : decode b_Ck_isAnchor 20 = .ok (.invokevirtual 158, 3) := by decide +kernel
theorem d_Ck_isAnchor_23 : decode b_Ck_isAnchor 23 = .ok (.istore_n 3, 1) := by decide +kernel
theorem d_Ck_isAnchor_24 : decode b_Ck_isAnchor 24 = .ok (.iload_n 2, 1) := by decide +kernel
theorem d_Ck_isAnchor_25 : decode b_Ck_isAnchor 25 = .ok (.ifCond .le 26, 3) := by decide +kernel
theorem d_Ck_isAnchor_28 : decode b_Ck_isAnchor 28 = .ok (.iload_n 3, 1) := by decide +kernel
theorem d_Ck_isAnchor_29 : decode b_Ck_isAnchor 29 = .ok (.invokestatic 162, 3) := by decide +kernel
theorem d_Ck_isAnchor_32 : decode b_Ck_isAnchor 32 = .ok (.ifCond .ne 15, 3) := by decide +kernel
theorem d_Ck_isAnchor_35 : decode b_Ck_isAnchor 35 = .ok (.iload_n 3, 1) := by decide +kernel
theorem d_Ck_isAnchor_36 : decode b_Ck_isAnchor 36 = .ok (.bipush 45, 2) := by decide +kernel
theorem d_Ck_isAnchor_38 : decode b_Ck_isAnchor 38 = .ok (.if_icmp .eq 9, 3) := by decide +kernel
theorem d_Ck_isAnchor_41 : decode b_Ck_isAnchor 41 = .ok (.iload_n 3, 1) := by decide +kernel
theorem d_Ck_isAnchor_42 : decode b_Ck_isAnchor 42 = .ok (.bipush 46, 2) := by decide +kernel
theorem d_Ck_isAnchor_44 : decode b_Ck_isAnchor 44 = .ok (.if_icmp .ne 7, 3) := by decide +kernel
theorem d_Ck_isAnchor_47 : decode b_Ck_isAnchor 47 = .ok (.iconst 1, 1) := by decide +kernel
theorem d_Ck_isAnchor_48 : decode b_Ck_isAnchor 48 = .ok (.goto 4, 3) := by decide +kernel
theorem d_Ck_isAnchor_51 : decode b_Ck_isAnchor 51 = .ok (.iconst 0, 1) := by decide +kernel
theorem d_Ck_isAnchor_52 : decode b_Ck_isAnchor 52 = .ok (.istore 4, 2) := by decide +kernel
theorem d_Ck_isAnchor_54 : decode b_Ck_isAnchor 54 = .ok (.iload_n 3, 1) := by decide +kernel
theorem d_Ck_isAnchor_55 : decode b_Ck_isAnchor 55 = .ok (.invokestatic 165, 3) := by decide +kernel
theorem d_Ck_isAnchor_58 : decode b_Ck_isAnchor 58 = .ok (.ifCond .ne 10, 3) := by decide +kernel
theorem d_Ck_isAnchor_61 : decode b_Ck_isAnchor 61 = .ok (.iload 4, 2) := by decide +kernel
theorem d_Ck_isAnchor_63 : decode b_Ck_isAnchor 63 = .ok (.ifCond .ne 5, 3) := by decide +kernel
theorem d_Ck_isAnchor_66 : decode b_Ck_isAnchor 66 = .ok (.iconst 0, 1) := by decide +kernel
theorem d_Ck_isAnchor_67 : decode b_Ck_isAnchor 67 = .ok (.ireturn, 1) := by decide +kernel
theorem d_Ck_isAnchor_68 : decode b_Ck_isAnchor 68 = .ok (.iinc 2 1, 3) := by decide +kernel
theorem d_Ck_isAnchor_71 : decode b_Ck_isAnchor 71 = .ok (.goto (-69), 3) := by decide +kernel
theorem d_Ck_isAnchor_74 : decode b_Ck_isAnchor 74 = .ok (.aload_n 0, 1) := by decide +kernel
theorem d_Ck_isAnchor_75 : decode b_Ck_isAnchor 75 = .ok (.getfield 22, 3) := by decide +kernel
theorem d_Ck_isAnchor_78 : decode b_Ck_isAnchor 78 = .ok (.iload_n 1, 1) := by decide +kernel
theorem d_Ck_isAnchor_79 : decode b_Ck_isAnchor 79 = .ok (.invokevirtual 96, 3) := by decide +kernel
theorem d_Ck_isAnchor_82 : decode b_Ck_isAnchor 82 = .ok (.ifCond .le 7, 3) := by decide +kernel
theorem d_Ck_isAnchor_85 : decode b_Ck_isAnchor 85 = .ok (.iconst 1, 1) := by decide +kernel
theorem d_Ck_isAnchor_86 : decode b_Ck_isAnchor 86 = .ok (.goto 4, 3) := by decide +kernel
theorem d_Ck_isAnchor_89 : decode b_Ck_isAnchor 89 = .ok (.iconst 0, 1) := by decide +kernel
theorem d_Ck_isAnchor_90 : decode b_Ck_isAnchor 90 = .ok (.ireturn, 1) := by decide +kernel
theorem d_Tx_slot_0 : decode b_Tx_slot 0 = .ok (.iload_n 1, 1) := by decide +kernel
theorem d_Tx_slot_1 : decode b_Tx_slot 1 = .ok (.ifCond .lt 20, 3) := by decide +kernel
theorem d_Tx_slot_4 : decode b_Tx_slot 4 = .ok (.iload_n 1, 1) := by decide +kernel
theorem d_Tx_slot_5 : decode b_Tx_slot 5 = .ok (.aload_n 0, 1) := by decide +kernel
theorem d_Tx_slot_6 : decode b_Tx_slot 6 = .ok (.getfield 43, 3) := by decide +kernel
theorem d_Tx_slot_9 : decode b_Tx_slot 9 = .ok (.if_icmp .ge 12, 3) := by decide +kernel
theorem d_Tx_slot_12 : decode b_Tx_slot 12 = .ok (.aload_n 0, 1) := by decide +kernel
theorem d_Tx_slot_13 : decode b_Tx_slot 13 = .ok (.getfield 33, 3) := by decide +kernel
theorem d_Tx_slot_16 : decode b_Tx_slot 16 = .ok (.iload_n 1, 1) := by decide +kernel
theorem d_Tx_slot_17 : decode b_Tx_slot 17 = .ok (.iaload, 1) := by decide +kernel
theorem d_Tx_slot_18 : decode b_Tx_slot 18 = .ok (.goto 4, 3) := by decide +kernel
theorem d_Tx_slot_21 : decode b_Tx_slot 21 = .ok (.iconst 0, 1) := by decide +kernel
theorem d_Tx_slot_22 : decode b_Tx_slot 22 = .ok (.ireturn, 1) := by decide +kernel
theorem d_Tx_sameString_0 : decode b_Tx_sameString 0 = .ok (.iload_n 1, 1) := by decide +kernel
theorem d_Tx_sameString_1 : decode b_Tx_sameString 1 = .ok (.ifCond .lt 38, 3) := by decide +kernel
theorem d_Tx_sameString_4 : decode b_Tx_sameString 4 = .ok (.iload_n 1, 1) := by decide +kernel
theorem d_Tx_sameString_5 : decode b_Tx_sameString 5 = .ok (.aload_n 0, 1) := by decide +kernel
theorem d_Tx_sameString_6 : decode b_Tx_sameString 6 = .ok (.getfield 43, 3) := by decide +kernel
theorem d_Tx_sameString_9 : decode b_Tx_sameString 9 = .ok (.if_icmp .ge 30, 3) := by decide +kernel
theorem d_Tx_sameString_12 : decode b_Tx_sameString 12 = .ok (.iload_n 3, 1) := by decide +kernel
theorem d_Tx_sameString_13 : decode b_Tx_sameString 13 = .ok (.ifCond .lt 26, 3) := by decide +kernel
theorem d_Tx_sameString_16 : decode b_Tx_sameString 16 = .ok (.iload_n 3, 1) := by decide +kernel
theorem d_Tx_sameString_17 : decode b_Tx_sameString 17 = .ok (.aload_n 2, 1) := by decide +kernel
theorem d_Tx_sameString_18 : decode b_Tx_sameString 18 = .ok (.getfield 43, 3) := by decide +kernel
theorem d_Tx_sameString_21 : decode b_Tx_sameString 21 = .ok (.if_icmp .ge 18, 3) := by decide +kernel
theorem d_Tx_sameString_24 : decode b_Tx_sameString 24 = .ok (.aload_n 0, 1) := by decide +kernel
theorem d_Tx_sameString_25 : decode b_Tx_sameString 25 = .ok (.getfield 18, 3) := by decide +kernel
theorem d_Tx_sameString_28 : decode b_Tx_sameString 28 = .ok (.iload_n 1, 1) := by decide +kernel
theorem d_Tx_sameString_29 : decode b_Tx_sameString 29 = .ok (.iaload, 1) := by decide +kernel
theorem d_Tx_sameString_30 : decode b_Tx_sameString 30 = .ok (.aload_n 2, 1) := by decide +kernel
theorem d_Tx_sameString_31 : decode b_Tx_sameString 31 = .ok (.getfield 18, 3) := by decide +kernel
theorem d_Tx_sameString_34 : decode b_Tx_sameString 34 = .ok (.iload_n 3, 1) := by decide +kernel
theorem d_Tx_sameString_35 : decode b_Tx_sameString 35 = .ok (.iaload, 1) := by decide +kernel
theorem d_Tx_sameString_36 : decode b_Tx_sameString 36 = .ok (.if_icmp .eq 5, 3) := by decide +kernel
theorem d_Tx_sameString_39 : decode b_Tx_sameString 39 = .ok (.iconst 0, 1) := by decide +kernel
theorem d_Tx_sameString_40 : decode b_Tx_sameString 40 = .ok (.ireturn, 1) := by decide +kernel
theorem d_Tx_sameString_41 : decode b_Tx_sameString 41 = .ok (.aload_n 0, 1) := by decide +kernel
theorem d_Tx_sameString_42 : decode b_Tx_sameString 42 = .ok (.getfield 27, 3) := by decide +kernel
theorem d_Tx_sameString_45 : decode b_Tx_sameString 45 = .ok (.iload_n 1, 1) := by decide +kernel
theorem d_Tx_sameString_46 : decode b_Tx_sameString 46 = .ok (.iaload, 1) := by decide +kernel
theorem d_Tx_sameString_47 : decode b_Tx_sameString 47 = .ok (.istore 4, 2) := by decide +kernel
theorem d_Tx_sameString_49 : decode b_Tx_sameString 49 = .ok (.aload_n 2, 1) := by decide +kernel
theorem d_Tx_sameString_50 : decode b_Tx_sameString 50 = .ok (.getfield 27, 3) := by decide +kernel
theorem d_Tx_sameString_53 : decode b_Tx_sameString 53 = .ok (.iload_n 3, 1) := by decide +kernel
theorem d_Tx_sameString_54 : decode b_Tx_sameString 54 = .ok (.iaload, 1) := by decide +kernel
theorem d_Tx_sameString_55 : decode b_Tx_sameString 55 = .ok (.istore 5, 2) := by decide +kernel
theorem d_Tx_sameString_57 : decode b_Tx_sameString 57 = .ok (.aload_n 0, 1) := by decide +kernel
theorem d_Tx_sameString_58 : decode b_Tx_sameString 58 = .ok (.getfield 18, 3) := by decide +kernel
theorem d_Tx_sameString_61 : decode b_Tx_sameString 61 = .ok (.iload_n 1, 1) := by decide +kernel
theorem d_Tx_sameString_62 : decode b_Tx_sameString 62 = .ok (.iaload, 1) := by decide +kernel
theorem d_Tx_sameString_63 : decode b_Tx_sameString 63 = .ok (.istore 6, 2) := by decide +kernel
theorem d_Tx_sameString_65 : decode b_Tx_sameString 65 = .ok (.iload 4, 2) := by decide +kernel
theorem d_Tx_sameString_67 : decode b_Tx_sameString 67 = .ok (.ifCond .lt 30, 3) := by decide +kernel
theorem d_Tx_sameString_70 : decode b_Tx_sameString 70 = .ok (.iload 4, 2) := by decide +kernel
theorem d_Tx_sameString_72 : decode b_Tx_sameString 72 = .ok (.iload 6, 2) := by decide +kernel
theorem d_Tx_sameString_74 : decode b_Tx_sameString 74 = .ok (.iadd, 1) := by decide +kernel
theorem d_Tx_sameString_75 : decode b_Tx_sameString 75 = .ok (.sipush 8192, 3) := by decide +kernel
theorem d_Tx_sameString_78 : decode b_Tx_sameString 78 = .ok (.if_icmp .gt 19, 3) := by decide +kernel
theorem d_Tx_sameString_81 : decode b_Tx_sameString 81 = .ok (.iload 5, 2) := by decide +kernel
theorem d_Tx_sameString_83 : decode b_Tx_sameString 83 = .ok (.ifCond .lt 14, 3) := by decide +kernel
theorem d_Tx_sameString_86 : decode b_Tx_sameString 86 = .ok (.iload 5, 2) := by decide +kernel
theorem d_Tx_sameString_88 : decode b_Tx_sameString 88 = .ok (.iload 6, 2) := by decide +kernel
theorem d_Tx_sameString_90 : decode b_Tx_sameString 90 = .ok (.iadd, 1) := by decide +kernel
theorem d_Tx_sameString_91 : decode b_Tx_sameString 91 = .ok (.sipush 8192, 3) := by decide +kernel
theorem d_Tx_sameString_94 : decode b_Tx_sameString 94 = .ok (.if_icmp .le 5, 3) := by decide +kernel
theorem d_Tx_sameString_97 : decode b_Tx_sameString 97 = .ok (.iconst 0, 1) := by decide +kernel
theorem d_Tx_sameString_98 : decode b_Tx_sameString 98 = .ok (.ireturn, 1) := by decide +kernel
theorem d_Tx_sameString_99 : decode b_Tx_sameString 99 = .ok (.iconst 0, 1) := by decide +kernel
theorem d_Tx_sameString_100 : decode b_Tx_sameString 100 = .ok (.istore 7, 2) := by decide +kernel
theorem d_Tx_sameString_102 : decode b_Tx_sameString 102 = .ok (.iload 7, 2) := by decide +kernel
theorem d_Tx_sameString_104 : decode b_Tx_sameString 104 = .ok (.iload 6, 2) := by decide +kernel
theorem d_Tx_sameString_106 : decode b_Tx_sameString 106 = .ok (.if_icmp .ge 34, 3) := by decide +kernel
theorem d_Tx_sameString_109 : decode b_Tx_sameString 109 = .ok (.aload_n 0, 1) := by decide +kernel
theorem d_Tx_sameString_110 : decode b_Tx_sameString 110 = .ok (.getfield 40, 3) := by decide +kernel
theorem d_Tx_sameString_113 : decode b_Tx_sameString 113 = .ok (.iload 4, 2) := by decide +kernel
theorem d_Tx_sameString_115 : decode b_Tx_sameString 115 = .ok (.iload 7, 2) := by decide +kernel
theorem d_Tx_sameString_117 : decode b_Tx_sameString 117 = .ok (.iadd, 1) := by decide +kernel
theorem d_Tx_sameString_118 : decode b_Tx_sameString 118 = .ok (.iaload, 1) := by decide +kernel
theorem d_Tx_sameString_119 : decode b_Tx_sameString 119 = .ok (.aload_n 2, 1) := by decide +kernel
theorem d_Tx_sameString_120 : decode b_Tx_sameString 120 = .ok (.getfield 40, 3) := by decide +kernel
theorem d_Tx_sameString_123 : decode b_Tx_sameString 123 = .ok (.iload 5, 2) := by decide +kernel
theorem d_Tx_sameString_125 : decode b_Tx_sameString 125 = .ok (.iload 7, 2) := by decide +kernel
theorem d_Tx_sameString_127 : decode b_Tx_sameString 127 = .ok (.iadd, 1) := by decide +kernel
theorem d_Tx_sameString_128 : decode b_Tx_sameString 128 = .ok (.iaload, 1) := by decide +kernel
theorem d_Tx_sameString_129 : decode b_Tx_sameString 129 = .ok (.if_icmp .eq 5, 3) := by decide +kernel
theorem d_Tx_sameString_132 : decode b_Tx_sameString 132 = .ok (.iconst 0, 1) := by decide +kernel
theorem d_Tx_sameString_133 : decode b_Tx_sameString 133 = .ok (.ireturn, 1) := by decide +kernel
theorem d_Tx_sameString_134 : decode b_Tx_sameString 134 = .ok (.iinc 7 1, 3) := by decide +kernel
theorem d_Tx_sameString_137 : decode b_Tx_sameString 137 = .ok (.goto (-35), 3) := by decide +kernel
theorem d_Tx_sameString_140 : decode b_Tx_sameString 140 = .ok (.iconst 1, 1) := by decide +kernel
theorem d_Tx_sameString_141 : decode b_Tx_sameString 141 = .ok (.ireturn, 1) := by decide +kernel
theorem d_Ck_isNew_0 : decode b_Ck_isNew 0 = .ok (.aload_n 0, 1) := by decide +kernel
theorem d_Ck_isNew_1 : decode b_Ck_isNew 1 = .ok (.getfield 22, 3) := by decide +kernel
theorem d_Ck_isNew_4 : decode b_Ck_isNew 4 = .ok (.iload_n 1, 1) := by decide +kernel
theorem d_Ck_isNew_5 : decode b_Ck_isNew 5 = .ok (.invokevirtual 92, 3) := by decide +kernel
theorem d_Ck_isNew_8 : decode b_Ck_isNew 8 = .ok (.istore_n 3, 1) := by decide +kernel
theorem d_Ck_isNew_9 : decode b_Ck_isNew 9 = .ok (.iconst 0, 1) := by decide +kernel
theorem d_Ck_isNew_10 : decode b_Ck_isNew 10 = .ok (.istore 4, 2) := by decide +kernel
theorem d_Ck_isNew_12 : decode b_Ck_isNew 12 = .ok (.iload 4, 2) := by decide +kernel
theorem d_Ck_isNew_14 : decode b_Ck_isNew 14 = .ok (.aload_n 0, 1) := by decide +kernel
theorem d_Ck_isNew_15 : decode b_Ck_isNew 15 = .ok (.getfield 22, 3) := by decide +kernel
theorem d_Ck_isNew_18 : decode b_Ck_isNew 18 = .ok (.iload_n 2, 1) := by decide +kernel
theorem d_Ck_isNew_19 : decode b_Ck_isNew 19 = .ok (.invokevirtual 193, 3) := by decide +kernel
theorem d_Ck_isNew_22 : decode b_Ck_isNew 22 = .ok (.if_icmp .ge 48, 3) := by decide +kernel
theorem d_Ck_isNew_25 : decode b_Ck_isNew 25 = .ok (.aload_n 0, 1) := by decide +kernel
theorem d_Ck_isNew_26 : decode b_Ck_isNew 26 = .ok (.getfield 22, 3) := by decide +kernel
theorem d_Ck_isNew_29 : decode b_Ck_isNew 29 = .ok (.iload_n 3, 1) := by decide +kernel
theorem d_Ck_isNew_30 : decode b_Ck_isNew 30 = .ok (.invokevirtual 110, 3) := by decide +kernel
theorem d_Ck_isNew_33 : decode b_Ck_isNew 33 = .ok (.iconst 4, 1) := by decide +kernel
theorem d_Ck_isNew_34 : decode b_Ck_isNew 34 = .ok (.if_icmp .ne 21, 3) := by decide +kernel
theorem d_Ck_isNew_37 : decode b_Ck_isNew 37 = .ok (.aload_n 0, 1) := by decide +kernel
theorem d_Ck_isNew_38 : decode b_Ck_isNew 38 = .ok (.getfield 22, 3) := by decide +kernel
theorem d_Ck_isNew_41 : decode b_Ck_isNew 41 = .ok (.iload_n 3, 1) := by decide +kernel
theorem d_Ck_isNew_42 : decode b_Ck_isNew 42 = .ok (.aload_n 0, 1) := by decide +kernel
theorem d_Ck_isNew_43 : decode b_Ck_isNew 43 = .ok (.getfield 22, 3) := by decide +kernel
theorem d_Ck_isNew_46 : decode b_Ck_isNew 46 = .ok (.iload_n 2, 1) := by decide +kernel
theorem d_Ck_isNew_47 : decode b_Ck_isNew 47 = .ok (.invokestatic 196, 3) := by decide +kernel
theorem d_Ck_isNew_50 : decode b_Ck_isNew 50 = .ok (.ifCond .eq 5, 3) := by decide +kernel
theorem d_Ck_isNew_53 : decode b_Ck_isNew 53 = .ok (.iconst 0, 1) := by decide +kernel
theorem d_Ck_isNew_54 : decode b_Ck_isNew 54 = .ok (.ireturn, 1) := by decide +kernel
theorem d_Ck_isNew_55 : decode b_Ck_isNew 55 = .ok (.aload_n 0, 1) := by decide +kernel
theorem d_Ck_isNew_56 : decode b_Ck_isNew 56 = .ok (.getfield 22, 3) := by decide +kernel
theorem d_Ck_isNew_59 : decode b_Ck_isNew 59 = .ok (.iload_n 3, 1) := by decide +kernel
theorem d_Ck_isNew_60 : decode b_Ck_isNew 60 = .ok (.invokevirtual 107, 3) := by decide +kernel
theorem d_Ck_isNew_63 : decode b_Ck_isNew 63 = .ok (.istore_n 3, 1) := by decide +kernel
theorem d_Ck_isNew_64 : decode b_Ck_isNew 64 = .ok (.iinc 4 1, 3) := by decide +kernel
theorem d_Ck_isNew_67 : decode b_Ck_isNew 67 = .ok (.goto (-55), 3) := by decide +kernel
theorem d_Ck_isNew_70 : decode b_Ck_isNew 70 = .ok (.iconst 1, 1) := by decide +kernel
theorem d_Ck_isNew_71 : decode b_Ck_isNew 71 = .ok (.ireturn, 1) := by decide +kernel
theorem d_Ck_inspectNames_0 : decode b_Ck_inspectNames 0 = .ok (.aload_n 0, 1) := by decide +kernel
theorem d_Ck_inspectNames_1 : decode b_Ck_inspectNames 1 = .ok (.getfield 22, 3) := by decide +kernel
theorem d_Ck_inspectNames_4 : decode b_Ck_inspectNames 4 = .ok (.iload_n 1, 1) := by decide +kernel
theorem d_Ck_inspectNames_5 : decode b_Ck_inspectNames 5 = .ok (.invokevirtual 110, 3) := by decide +kernel
theorem d_Ck_inspectNames_8 : decode b_Ck_inspectNames 8 = .ok (.iconst 5, 1) := by decide +kernel
theorem d_Ck_inspectNames_9 : decode b_Ck_inspectNames 9 = .ok (.if_icmp .ne 7, 3) := by decide +kernel
theorem d_Ck_inspectNames_12 : decode b_Ck_inspectNames 12 = .ok (.iconst 1, 1) := by decide +kernel
theorem d_Ck_inspectNames_13 : decode b_Ck_inspectNames 13 = .ok (.goto 4, 3) := by decide +kernel
theorem d_Ck_inspectNames_16 : decode b_Ck_inspectNames 16 = .ok (.iconst 0, 1) := by decide +kernel
theorem d_Ck_inspectNames_17 : decode b_Ck_inspectNames 17 = .ok (.istore_n 2, 1) := by decide +kernel
theorem d_Ck_inspectNames_18 : decode b_Ck_inspectNames 18 = .ok (.aload_n 0, 1) := by decide +kernel
theorem d_Ck_inspectNames_19 : decode b_Ck_inspectNames 19 = .ok (.iload_n 2, 1) := by decide +kernel
theorem d_Ck_inspectNames_20 : decode b_Ck_inspectNames 20 = .ok (.iload_n 1, 1) := by decide +kernel
theorem d_Ck_inspectNames_21 : decode b_Ck_inspectNames 21 = .ok (.invokevirtual 88, 3) := by decide +kernel
theorem d_Ck_inspectNames_24 : decode b_Ck_inspectNames 24 = .ok (.iload_n 2, 1) := by decide +kernel
theorem d_Ck_inspectNames_25 : decode b_Ck_inspectNames 25 = .ok (.ifCond .eq 14, 3) := by decide +kernel
theorem d_Ck_inspectNames_28 : decode b_Ck_inspectNames 28 = .ok (.aload_n 0, 1) := by decide +kernel
theorem d_Ck_inspectNames_29 : decode b_Ck_inspectNames 29 = .ok (.getfield 22, 3) := by decide +kernel
theorem d_Ck_inspectNames_32 : decode b_Ck_inspectNames 32 = .ok (.iload_n 1, 1) := by decide +kernel
theorem d_Ck_inspectNames_33 : decode b_Ck_inspectNames 33 = .ok (.invokevirtual 92, 3) := by decide +kernel
theorem d_Ck_inspectNames_36 : decode b_Ck_inspectNames 36 = .ok (.goto 4, 3) := by decide +kernel
theorem d_Ck_inspectNames_39 : decode b_Ck_inspectNames 39 = .ok (.iconst (-1), 1) := by decide +kernel
theorem d_Ck_inspectNames_40 : decode b_Ck_inspectNames 40 = .ok (.istore_n 3, 1) := by decide +kernel
theorem d_Ck_inspectNames_41 : decode b_Ck_inspectNames 41 = .ok (.iconst 0, 1) := by decide +kernel
theorem d_Ck_inspectNames_42 : decode b_Ck_inspectNames 42 = .ok (.istore 4, 2) := by decide +kernel
theorem d_Ck_inspectNames_44 : decode b_Ck_inspectNames 44 = .ok (.iload 4, 2) := by decide +kernel
theorem d_Ck_inspectNames_46 : decode b_Ck_inspectNames 46 = .ok (.aload_n 0, 1) := by decide +kernel
theorem d_Ck_inspectNames_47 : decode b_Ck_inspectNames 47 = .ok (.getfield 22, 3) := by decide +kernel
theorem d_Ck_inspectNames_50 : decode b_Ck_inspectNames 50 = .ok (.iload_n 1, 1) := by decide +kernel
theorem d_Ck_inspectNames_51 : decode b_Ck_inspectNames 51 = .ok (.invokevirtual 96, 3) := by decide +kernel
theorem d_Ck_inspectNames_54 : decode b_Ck_inspectNames 54 = .ok (.if_icmp .ge 54, 3) := by decide +kernel
theorem d_Ck_inspectNames_57 : decode b_Ck_inspectNames 57 = .ok (.iload_n 3, 1) := by decide +kernel
theorem d_Ck_inspectNames_58 : decode b_Ck_inspectNames 58 = .ok (.iconst (-1), 1) := by decide +kernel
theorem d_Ck_inspectNames_59 : decode b_Ck_inspectNames 59 = .ok (.if_icmp .eq 49, 3) := by decide +kernel
theorem d_Ck_inspectNames_62 : decode b_Ck_inspectNames 62 = .ok (.aload_n 0, 1) := by decide +kernel
theorem d_Ck_inspectNames_63 : decode b_Ck_inspectNames 63 = .ok (.aload_n 0, 1) := by decide +kernel
theorem d_Ck_inspectNames_64 : decode b_Ck_inspectNames 64 = .ok (.getfield 22, 3) := by decide +kernel
theorem d_Ck_inspectNames_67 : decode b_Ck_inspectNames 67 = .ok (.iload_n 3, 1) := by decide +kernel
theorem d_Ck_inspectNames_68 : decode b_Ck_inspectNames 68 = .ok (.invokevirtual 110, 3) := by decide +kernel
theorem d_Ck_inspectNames_71 : decode b_Ck_inspectNames 71 = .ok (.iconst 4, 1) := by decide +kernel
theorem d_Ck_inspectNames_72 : decode b_Ck_inspectNames 72 = .ok (.if_icmp .ne 16, 3) := by decide +kernel
theorem d_Ck_inspectNames_75 : decode b_Ck_inspectNames 75 = .ok (.aload_n 0, 1) := by decide +kernel
theorem d_Ck_inspectNames_76 : decode b_Ck_inspectNames 76 = .ok (.iload_n 1, 1) := by decide +kernel
theorem d_Ck_inspectNames_77 : decode b_Ck_inspectNames 77 = .ok (.iload_n 3, 1) := by decide +kernel
theorem d_Ck_inspectNames_78 : decode b_Ck_inspectNames 78 = .ok (.invokevirtual 189, 3) := by decide +kernel
theorem d_Ck_inspectNames_81 : decode b_Ck_inspectNames 81 = .ok (.ifCond .eq 7, 3) := by decide +kernel
theorem d_Ck_inspectNames_84 : decode b_Ck_inspectNames 84 = .ok (.iconst 1, 1) := by decide +kernel
theorem d_Ck_inspectNames_85 : decode b_Ck_inspectNames 85 = .ok (.goto 4, 3) := by decide +kernel
theorem d_Ck_inspectNames_88 : decode b_Ck_inspectNames 88 = .ok (.iconst 0, 1) := by decide +kernel
theorem d_Ck_inspectNames_89 : decode b_Ck_inspectNames 89 = .ok (.iload_n 3, 1) := by decide +kernel
theorem d_Ck_inspectNames_90 : decode b_Ck_inspectNames 90 = .ok (.invokevirtual 88, 3) := by decide +kernel
theorem d_Ck_inspectNames_93 : decode b_Ck_inspectNames 93 = .ok (.aload_n 0, 1) := by decide +kernel
theorem d_Ck_inspectNames_94 : decode b_Ck_inspectNames 94 = .ok (.getfield 22, 3) := by decide +kernel
theorem d_Ck_inspectNames_97 : decode b_Ck_inspectNames 97 = .ok (.iload_n 3, 1) := by decide +kernel
theorem d_Ck_inspectNames_98 : decode b_Ck_inspectNames 98 = .ok (.invokevirtual 107, 3) := by decide +kernel
theorem d_Ck_inspectNames_101 : decode b_Ck_inspectNames 101 = .ok (.istore_n 3, 1) := by decide +kernel
theorem d_Ck_inspectNames_102 : decode b_Ck_inspectNames 102 = .ok (.iinc 4 1, 3) := by decide +kernel
theorem d_Ck_inspectNames_105 : decode b_Ck_inspectNames 105 = .ok (.goto (-61), 3) := by decide +kernel
theorem d_Ck_inspectNames_108 : decode b_Ck_inspectNames 108 = .ok (.return_, 1) := by decide +kernel
theorem d_Tx_total_0 : decode b_Tx_total 0 = .ok (.aload_n 0, 1) := by decide +kernel
theorem d_Tx_total_1 : decode b_Tx_total 1 = .ok (.getfield 43, 3) := by decide +kernel
theorem d_Tx_total_4 : decode b_Tx_total 4 = .ok (.ireturn, 1) := by decide +kernel
theorem d_Lk_octetAt_0 : decode b_Lk_octetAt 0 = .ok (.aload_n 0, 1) := by decide +kernel
theorem d_Lk_octetAt_1 : decode b_Lk_octetAt 1 = .ok (.getfield 15, 3) := by decide +kernel
theorem d_Lk_octetAt_4 : decode b_Lk_octetAt 4 = .ok (.iload_n 1, 1) := by decide +kernel
theorem d_Lk_octetAt_5 : decode b_Lk_octetAt 5 = .ok (.aload_n 0, 1) := by decide +kernel
theorem d_Lk_octetAt_6 : decode b_Lk_octetAt 6 = .ok (.getfield 49, 3) := by decide +kernel
theorem d_Lk_octetAt_9 : decode b_Lk_octetAt 9 = .ok (.iconst 1, 1) := by decide +kernel
theorem d_Lk_octetAt_10 : decode b_Lk_octetAt 10 = .ok (.iadd, 1) := by decide +kernel
theorem d_Lk_octetAt_11 : decode b_Lk_octetAt 11 = .ok (.invokevirtual 55, 3) := by decide +kernel
theorem d_Lk_octetAt_14 : decode b_Lk_octetAt 14 = .ok (.invokestatic 62, 3) := by decide +kernel
theorem d_Lk_octetAt_17 : decode b_Lk_octetAt 17 = .ok (.istore_n 2, 1) := by decide +kernel
theorem d_Lk_octetAt_18 : decode b_Lk_octetAt 18 = .ok (.aload_n 0, 1) := by decide +kernel
theorem d_Lk_octetAt_19 : decode b_Lk_octetAt 19 = .ok (.getfield 15, 3) := by decide +kernel
theorem d_Lk_octetAt_22 : decode b_Lk_octetAt 22 = .ok (.iload_n 1, 1) := by decide +kernel
theorem d_Lk_octetAt_23 : decode b_Lk_octetAt 23 = .ok (.aload_n 0, 1) := by decide +kernel
theorem d_Lk_octetAt_24 : decode b_Lk_octetAt 24 = .ok (.getfield 49, 3) := by decide +kernel
theorem d_Lk_octetAt_27 : decode b_Lk_octetAt 27 = .ok (.iconst 2, 1) := by decide +kernel
theorem d_Lk_octetAt_28 : decode b_Lk_octetAt 28 = .ok (.iadd, 1) := by decide +kernel
theorem d_Lk_octetAt_29 : decode b_Lk_octetAt 29 = .ok (.invokevirtual 55, 3) := by decide +kernel
theorem d_Lk_octetAt_32 : decode b_Lk_octetAt 32 = .ok (.invokestatic 62, 3) := by decide +kernel
theorem d_Lk_octetAt_35 : decode b_Lk_octetAt 35 = .ok (.istore_n 3, 1) := by decide +kernel
theorem d_Lk_octetAt_36 : decode b_Lk_octetAt 36 = .ok (.aload_n 0, 1) := by decide +kernel
theorem d_Lk_octetAt_37 : decode b_Lk_octetAt 37 = .ok (.getfield 15, 3) := by decide +kernel
theorem d_Lk_octetAt_40 : decode b_Lk_octetAt 40 = .ok (.iload_n 1, 1) := by decide +kernel
theorem d_Lk_octetAt_41 : decode b_Lk_octetAt 41 = .ok (.aload_n 0, 1) := by decide +kernel
theorem d_Lk_octetAt_42 : decode b_Lk_octetAt 42 = .ok (.getfield 49, 3) := by decide +kernel
theorem d_Lk_octetAt_45 : decode b_Lk_octetAt 45 = .ok (.invokevirtual 55, 3) := by decide +kernel
theorem d_Lk_octetAt_48 : decode b_Lk_octetAt 48 = .ok (.bipush 37, 2) := by decide +kernel
theorem d_Lk_octetAt_50 : decode b_Lk_octetAt 50 = .ok (.if_icmp .ne 13, 3) := by decide +kernel
theorem d_Lk_octetAt_53 : decode b_Lk_octetAt 53 = .ok (.iload_n 2, 1) := by decide +kernel
theorem d_Lk_octetAt_54 : decode b_Lk_octetAt 54 = .ok (.iconst (-1), 1) := by decide +kernel
theorem d_Lk_octetAt_55 : decode b_Lk_octetAt 55 = .ok (.if_icmp .eq 8, 3) := by decide +kernel
theorem d_Lk_octetAt_58 : decode b_Lk_octetAt 58 = .ok (.iload_n 3, 1) := by decide +kernel
theorem d_Lk_octetAt_59 : decode b_Lk_octetAt 59 = .ok (.iconst (-1), 1) := by decide +kernel
theorem d_Lk_octetAt_60 : decode b_Lk_octetAt 60 = .ok (.if_icmp .ne 7, 3) := by decide +kernel
theorem d_Lk_octetAt_63 : decode b_Lk_octetAt 63 = .ok (.iconst (-1), 1) := by decide +kernel
theorem d_Lk_octetAt_64 : decode b_Lk_octetAt 64 = .ok (.goto 9, 3) := by decide +kernel
theorem d_Lk_octetAt_67 : decode b_Lk_octetAt 67 = .ok (.iload_n 2, 1) := by decide +kernel
theorem d_Lk_octetAt_68 : decode b_Lk_octetAt 68 = .ok (.bipush 16, 2) := by decide +kernel
theorem d_Lk_octetAt_70 : decode b_Lk_octetAt 70 = .ok (.imul, 1) := by decide +kernel
theorem d_Lk_octetAt_71 : decode b_Lk_octetAt 71 = .ok (.iload_n 3, 1) := by decide +kernel
theorem d_Lk_octetAt_72 : decode b_Lk_octetAt 72 = .ok (.iadd, 1) := by decide +kernel
theorem d_Lk_octetAt_73 : decode b_Lk_octetAt 73 = .ok (.ireturn, 1) := by decide +kernel
theorem d_Lk_decodeOctets_0 : decode b_Lk_decodeOctets 0 = .ok (.iload_n 2, 1) := by decide +kernel
theorem d_Lk_decodeOctets_1 : decode b_Lk_decodeOctets 1 = .ok (.invokestatic 65, 3) := by decide +kernel
theorem d_Lk_decodeOctets_4 : decode b_Lk_decodeOctets 4 = .ok (.istore_n 3, 1) := by decide +kernel
theorem d_Lk_decodeOctets_5 : decode b_Lk_decodeOctets 5 = .ok (.iload_n 3, 1) := by decide +kernel
theorem d_Lk_decodeOctets_6 : decode b_Lk_decodeOctets 6 = .ok (.iconst (-1), 1) := by decide +kernel
theorem d_Lk_decodeOctets_7 : decode b_Lk_decodeOctets 7 = .ok (.if_icmp .ne 5, 3) := by decide +kernel
theorem d_Lk_decodeOctets_10 : decode b_Lk_decodeOctets 10 = .ok (.iconst (-1), 1) := by decide +kernel
theorem d_Lk_decodeOctets_11 : decode b_Lk_decodeOctets 11 = .ok (.ireturn, 1) := by decide +kernel
theorem d_Lk_decodeOctets_12 : decode b_Lk_decodeOctets 12 = .ok (.iload_n 2, 1) := by decide +kernel
theorem d_Lk_decodeOctets_13 : decode b_Lk_decodeOctets 13 = .ok (.iload_n 3, 1) := by decide +kernel
theorem d_Lk_decodeOctets_14 : decode b_Lk_decodeOctets 14 = .ok (.invokestatic 68, 3) := by decide +kernel
theorem d_Lk_decodeOctets_17 : decode b_Lk_decodeOctets 17 = .ok (.istore 4, 2) := by decide +kernel
theorem d_Lk_decodeOctets_19 : decode b_Lk_decodeOctets 19 = .ok (.iconst 0, 1) := by decide +kernel
theorem d_Lk_decodeOctets_20 : decode b_Lk_decodeOctets 20 = .ok (.istore 5, 2) := by decide +kernel
theorem d_Lk_decodeOctets_22 : decode b_Lk_decodeOctets 22 = .ok (.iload 5, 2) := by decide +kernel
theorem d_Lk_decodeOctets_24 : decode b_Lk_decodeOctets 24 = .ok (.iload_n 3, 1) := by decide +kernel
theorem d_Lk_decodeOctets_25 : decode b_Lk_decodeOctets 25 = .ok (.if_icmp .ge 49, 3) := by decide +kernel
theorem d_Lk_decodeOctets_28 : decode b_Lk_decodeOctets 28 = .ok (.aload_n 0, 1) := by decide +kernel
theorem d_Lk_decodeOctets_29 : decode b_Lk_decodeOctets 29 = .ok (.dup, 1) := by decide +kernel
theorem d_Lk_decodeOctets_30 : decode b_Lk_decodeOctets 30 = .ok (.getfield 49, 3) := by decide +kernel
theorem d_Lk_decodeOctets_33 : decode b_Lk_decodeOctets 33 = .ok (.iconst 3, 1) := by decide +kernel
theorem d_Lk_decodeOctets_34 : decode b_Lk_decodeOctets 34 = .ok (.iadd, 1) := by decide +kernel
theorem d_Lk_decodeOctets_35 : decode b_Lk_decodeOctets 35 = .ok (.putfield 49, 3) := by decide +kernel
theorem d_Lk_decodeOctets_38 : decode b_Lk_decodeOctets 38 = .ok (.aload_n 0, 1) := by decide +kernel
theorem d_Lk_decodeOctets_39 : decode b_Lk_decodeOctets 39 = .ok (.iload_n 1, 1) := by decide +kernel
theorem d_Lk_decodeOctets_40 : decode b_Lk_decodeOctets 40 = .ok (.invokevirtual 52, 3) := by decide +kernel
theorem d_Lk_decodeOctets_43 : decode b_Lk_decodeOctets 43 = .ok (.istore 6, 2) := by decide +kernel
theorem d_Lk_decodeOctets_45 : decode b_Lk_decodeOctets 45 = .ok (.iload 6, 2) := by decide +kernel
theorem d_Lk_decodeOctets_47 : decode b_Lk_decodeOctets 47 = .ok (.invokestatic 71, 3) := by decide +kernel
theorem d_Lk_decodeOctets_50 : decode b_Lk_decodeOctets 50 = .ok (.ifCond .ne 5, 3) := by decide +kernel
theorem d_Lk_decodeOctets_53 : decode b_Lk_decodeOctets 53 = .ok (.iconst (-1), 1) := by decide +kernel
theorem d_Lk_decodeOctets_54 : decode b_Lk_decodeOctets 54 = .ok (.ireturn, 1) := by decide +kernel
theorem d_Lk_decodeOctets_55 : decode b_Lk_decodeOctets 55 = .ok (.iload 4, 2) := by decide +kernel
theorem d_Lk_decodeOctets_57 : decode b_Lk_decodeOctets 57 = .ok (.bipush 6, 2) := by decide +kernel
theorem d_Lk_decodeOctets_59 : decode b_Lk_decodeOctets 59 = .ok (.ishl, 1) := by decide +kernel
theorem d_Lk_decodeOctets_60 : decode b_Lk_decodeOctets 60 = .ok (.iload 6, 2) := by decide +kernel
theorem d_Lk_decodeOctets_62 : decode b_Lk_decodeOctets 62 = .ok (.bipush 63, 2) := by decide +kernel
theorem d_Lk_decodeOctets_64 : decode b_Lk_decodeOctets 64 = .ok (.iand, 1) := by decide +kernel
theorem d_Lk_decodeOctets_65 : decode b_Lk_decodeOctets 65 = .ok (.ior, 1) := by decide +kernel
theorem d_Lk_decodeOctets_66 : decode b_Lk_decodeOctets 66 = .ok (.istore 4, 2) := by decide +kernel
theorem d_Lk_decodeOctets_68 : decode b_Lk_decodeOctets 68 = .ok (.iinc 5 1, 3) := by decide +kernel
theorem d_Lk_decodeOctets_71 : decode b_Lk_decodeOctets 71 = .ok (.goto (-49), 3) := by decide +kernel
theorem d_Lk_decodeOctets_74 : decode b_Lk_decodeOctets 74 = .ok (.iload 4, 2) := by decide +kernel
theorem d_Lk_decodeOctets_76 : decode b_Lk_decodeOctets 76 = .ok (.iload_n 3, 1) := by decide +kernel
theorem d_Lk_decodeOctets_77 : decode b_Lk_decodeOctets 77 = .ok (.invokestatic 74, 3) := by decide +kernel
theorem d_Lk_decodeOctets_80 : decode b_Lk_decodeOctets 80 = .ok (.ifCond .eq 8, 3) := by decide +kernel
theorem d_Lk_decodeOctets_83 : decode b_Lk_decodeOctets 83 = .ok (.iload 4, 2) := by decide +kernel
theorem d_Lk_decodeOctets_85 : decode b_Lk_decodeOctets 85 = .ok (.goto 4, 3) := by decide +kernel
theorem d_Lk_decodeOctets_88 : decode b_Lk_decodeOctets 88 = .ok (.iconst (-1), 1) := by decide +kernel
theorem d_Lk_decodeOctets_89 : decode b_Lk_decodeOctets 89 = .ok (.ireturn, 1) := by decide +kernel
theorem d_Lk_decode_0 : decode b_Lk_decode 0 = .ok (.aload_n 0, 1) := by decide +kernel
theorem d_Lk_decode_1 : decode b_Lk_decode 1 = .ok (.getfield 15, 3) := by decide +kernel
theorem d_Lk_decode_4 : decode b_Lk_decode 4 = .ok (.iload_n 1, 1) := by decide +kernel
theorem d_Lk_decode_5 : decode b_Lk_decode 5 = .ok (.invokevirtual 43, 3) := by decide +kernel
theorem d_Lk_decode_8 : decode b_Lk_decode 8 = .ok (.istore_n 2, 1) := by decide +kernel
theorem d_Lk_decode_9 : decode b_Lk_decode 9 = .ok (.aload_n 0, 1) := by decide +kernel
theorem d_Lk_decode_10 : decode b_Lk_decode 10 = .ok (.iconst 0, 1) := by decide +kernel
theorem d_Lk_decode_11 : decode b_Lk_decode 11 = .ok (.putfield 27, 3) := by decide +kernel
theorem d_Lk_decode_14 : decode b_Lk_decode 14 = .ok (.aload_n 0, 1) := by decide +kernel
theorem d_Lk_decode_15 : decode b_Lk_decode 15 = .ok (.iconst 0, 1) := by decide +kernel
theorem d_Lk_decode_16 : decode b_Lk_decode 16 = .ok (.putfield 49, 3) := by decide +kernel
theorem d_Lk_decode_19 : decode b_Lk_decode 19 = .ok (.iconst 0, 1) := by decide +kernel
theorem d_Lk_decode_20 : decode b_Lk_decode 20 = .ok (.istore_n 3, 1) := by decide +kernel
theorem d_Lk_decode_21 : decode b_Lk_decode 21 = .ok (.iload_n 3, 1) := by decide +kernel
theorem d_Lk_decode_22 : decode b_Lk_decode 22 = .ok (.iload_n 2, 1) := by decide +kernel
theorem d_Lk_decode_23 : decode b_Lk_decode 23 = .ok (.if_icmp .ge 115, 3) := by decide +kernel
theorem d_Lk_decode_26 : decode b_Lk_decode 26 = .ok (.aload_n 0, 1) := by decide +kernel
theorem d_Lk_decode_27 : decode b_Lk_decode 27 = .ok (.getfield 49, 3) := by decide +kernel
theorem d_Lk_decode_30 : decode b_Lk_decode 30 = .ok (.iload_n 2, 1) := by decide +kernel
theorem d_Lk_decode_31 : decode b_Lk_decode 31 = .ok (.if_icmp .ge 107, 3) := by decide +kernel
theorem d_Lk_decode_34 : decode b_Lk_decode 34 = .ok (.aload_n 0, 1) := by decide +kernel
theorem d_Lk_decode_35 : decode b_Lk_decode 35 = .ok (.getfield 27, 3) := by decide +kernel
theorem d_Lk_decode_38 : decode b_Lk_decode 38 = .ok (.aload_n 0, 1) := by decide +kernel
theorem d_Lk_decode_39 : decode b_Lk_decode 39 = .ok (.getfield 9, 3) := by decide +kernel
theorem d_Lk_decode_42 : decode b_Lk_decode 42 = .ok (.arraylength, 1) := by decide +kernel
theorem d_Lk_decode_43 : decode b_Lk_decode 43 = .ok (.if_icmp .ge 95, 3) := by decide +kernel
theorem d_Lk_decode_46 : decode b_Lk_decode 46 = .ok (.aload_n 0, 1) := by decide +kernel
theorem d_Lk_decode_47 : decode b_Lk_decode 47 = .ok (.iload_n 1, 1) := by decide +kernel
theorem d_Lk_decode_48 : decode b_Lk_decode 48 = .ok (.invokevirtual 52, 3) := by decide +kernel
theorem d_Lk_decode_51 : decode b_Lk_decode 51 = .ok (.istore 4, 2) := by decide +kernel
theorem d_Lk_decode_53 : decode b_Lk_decode 53 = .ok (.iload 4, 2) := by decide +kernel
theorem d_Lk_decode_55 : decode b_Lk_decode 55 = .ok (.iconst (-1), 1) := by decide +kernel
theorem d_Lk_decode_56 : decode b_Lk_decode 56 = .ok (.if_icmp .ne 18, 3) := by decide +kernel
theorem d_Lk_decode_59 : decode b_Lk_decode 59 = .ok (.aload_n 0, 1) := by decide +kernel
theorem d_Lk_decode_60 : decode b_Lk_decode 60 = .ok (.getfield 15, 3) := by decide +kernel
theorem d_Lk_decode_63 : decode b_Lk_decode 63 = .ok (.iload_n 1, 1) := by decide +kernel
theorem d_Lk_decode_64 : decode b_Lk_decode 64 = .ok (.aload_n 0, 1) := by decide +kernel
theorem d_Lk_decode_65 : decode b_Lk_decode 65 = .ok (.getfield 49, 3) := by decide +kernel
theorem d_Lk_decode_68 : decode b_Lk_decode 68 = .ok (.invokevirtual 55, 3) := by decide +kernel
theorem d_Lk_decode_71 : decode b_Lk_decode 71 = .ok (.goto 10, 3) := by decide +kernel
theorem d_Lk_decode_74 : decode b_Lk_decode 74 = .ok (.aload_n 0, 1) := by decide +kernel
theorem d_Lk_decode_75 : decode b_Lk_decode 75 = .ok (.iload_n 1, 1) := by decide +kernel
theorem d_Lk_decode_76 : decode b_Lk_decode 76 = .ok (.iload 4, 2) := by decide +kernel
theorem d_Lk_decode_78 : decode b_Lk_decode 78 = .ok (.invokevirtual 59, 3) := by decide +kernel
theorem d_Lk_decode_81 : decode b_Lk_decode 81 = .ok (.istore 5, 2) := by decide +kernel
theorem d_Lk_decode_83 : decode b_Lk_decode 83 = .ok (.iload 5, 2) := by decide +kernel
theorem d_Lk_decode_85 : decode b_Lk_decode 85 = .ok (.iconst (-1), 1) := by decide +kernel
theorem d_Lk_decode_86 : decode b_Lk_decode 86 = .ok (.if_icmp .ne 5, 3) := by decide +kernel
theorem d_Lk_decode_89 : decode b_Lk_decode 89 = .ok (.iconst 0, 1) := by decide +kernel
theorem d_Lk_decode_90 : decode b_Lk_decode 90 = .ok (.ireturn, 1) := by decide +kernel
theorem d_Lk_decode_91 : decode b_Lk_decode 91 = .ok (.aload_n 0, 1) := by decide +kernel
theorem d_Lk_decode_92 : decode b_Lk_decode 92 = .ok (.dup, 1) := by decide +kernel
theorem d_Lk_decode_93 : decode b_Lk_decode 93 = .ok (.getfield 49, 3) := by decide +kernel
theorem d_Lk_decode_96 : decode b_Lk_decode 96 = .ok (.iload 4, 2) := by decide +kernel
theorem d_Lk_decode_98 : decode b_Lk_decode 98 = .ok (.iconst (-1), 1) := by decide +kernel
theorem d_Lk_decode_99 : decode b_Lk_decode 99 = .ok (.if_icmp .ne 7, 3) := by decide +kernel
theorem d_Lk_decode_102 : decode b_Lk_decode 102 = .ok (.iconst 1, 1) := by decide +kernel
theorem d_Lk_decode_103 : decode b_Lk_decode 103 = .ok (.goto 4, 3) := by decide +kernel
theorem d_Lk_decode_106 : decode b_Lk_decode 106 = .ok (.iconst 3, 1) := by decide +kernel
theorem d_Lk_decode_107 : decode b_Lk_decode 107 = .ok (.iadd, 1) := by decide +kernel
theorem d_Lk_decode_108 : decode b_Lk_decode 108 = .ok (.putfield 49, 3) := by decide +kernel
theorem d_Lk_decode_111 : decode b_Lk_decode 111 = .ok (.aload_n 0, 1) := by decide +kernel
theorem d_Lk_decode_112 : decode b_Lk_decode 112 = .ok (.getfield 9, 3) := by decide +kernel
theorem d_Lk_decode_115 : decode b_Lk_decode 115 = .ok (.aload_n 0, 1) := by decide +kernel
theorem d_Lk_decode_116 : decode b_Lk_decode 116 = .ok (.getfield 27, 3) := by decide +kernel
theorem d_Lk_decode_119 : decode b_Lk_decode 119 = .ok (.iload 5, 2) := by decide +kernel
theorem d_Lk_decode_121 : decode b_Lk_decode 121 = .ok (.iastore, 1) := by decide +kernel
theorem d_Lk_decode_122 : decode b_Lk_decode 122 = .ok (.aload_n 0, 1) := by decide +kernel
theorem d_Lk_decode_123 : decode b_Lk_decode 123 = .ok (.dup, 1) := by decide +kernel
theorem d_Lk_decode_124 : decode b_Lk_decode 124 = .ok (.getfield 27, 3) := by decide +kernel
theorem d_Lk_decode_127 : decode b_Lk_decode 127 = .ok (.iconst 1, 1) := by decide +kernel
theorem d_Lk_decode_128 : decode b_Lk_decode 128 = .ok (.iadd, 1) := by decide +kernel
theorem d_Lk_decode_129 : decode b_Lk_decode 129 = .ok (.putfield 27, 3) := by decide +kernel
theorem d_Lk_decode_132 : decode b_Lk_decode 132 = .ok (.iinc 3 1, 3) := by decide +kernel
theorem d_Lk_decode_135 : decode b_Lk_decode 135 = .ok (.goto (-114), 3) := by decide +kernel
theorem d_Lk_decode_138 : decode b_Lk_decode 138 = .ok (.iconst 1, 1) := by decide +kernel
theorem d_Lk_decode_139 : decode b_Lk_decode 139 = .ok (.ireturn, 1) := by decide +kernel
