theorem d_Lk_step_0 : decode b_Lk_step 0 = .ok (.aload_n 0, 1) := by decide +kernel
theorem d_Lk_step_1 : decode b_Lk_step 1 = .ok (.getfield 15, 3) := by decide +kernel
theorem d_Lk_step_4 : decode b_Lk_step 4 = .ok (.iload_n 1, 1) := by decide +kernel
theorem d_Lk_step_5 : decode b_Lk_step 5 = .ok (.invokevirtual 102, 3) := by decide +kernel
theorem d_Lk_step_8 : decode b_Lk_step 8 = .ok (.iconst 5, 1) := by decide +kernel
theorem d_Lk_step_9 : decode b_Lk_step 9 = .ok (.if_icmp .ne 32, 3) := by decide +kernel
theorem d_Lk_step_12 : decode b_Lk_step 12 = .ok (.aload_n 0, 1) := by decide +kernel
theorem d_Lk_step_13 : decode b_Lk_step 13 = .ok (.iload_n 2, 1) := by decide +kernel
theorem d_Lk_step_14 : decode b_Lk_step 14 = .ok (.iload_n 3, 1) := by decide +kernel
theorem d_Lk_step_15 : decode b_Lk_step 15 = .ok (.invokevirtual 105, 3) := by decide +kernel
theorem d_Lk_step_18 : decode b_Lk_step 18 = .ok (.istore 4, 2) := by decide +kernel
theorem d_Lk_step_20 : decode b_Lk_step 20 = .ok (.iload 4, 2) := by decide +kernel
theorem d_Lk_step_22 : decode b_Lk_step 22 = .ok (.iconst (-1), 1) := by decide +kernel
theorem d_Lk_step_23 : decode b_Lk_step 23 = .ok (.if_icmp .ne 7, 3) := by decide +kernel
theorem d_Lk_step_26 : decode b_Lk_step 26 = .ok (.iconst (-1), 1) := by decide +kernel
theorem d_Lk_step_27 : decode b_Lk_step 27 = .ok (.goto 13, 3) := by decide +kernel
theorem d_Lk_step_30 : decode b_Lk_step 30 = .ok (.aload_n 0, 1) := by decide +kernel
theorem d_Lk_step_31 : decode b_Lk_step 31 = .ok (.getfield 15, 3) := by decide +kernel
theorem d_Lk_step_34 : decode b_Lk_step 34 = .ok (.iload_n 1, 1) := by decide +kernel
theorem d_Lk_step_35 : decode b_Lk_step 35 = .ok (.iload 4, 2) := by decide +kernel
theorem d_Lk_step_37 : decode b_Lk_step 37 = .ok (.invokevirtual 108, 3) := by decide +kernel
theorem d_Lk_step_40 : decode b_Lk_step 40 = .ok (.ireturn, 1) := by decide +kernel
theorem d_Lk_step_41 : decode b_Lk_step 41 = .ok (.aload_n 0, 1) := by decide +kernel
theorem d_Lk_step_42 : decode b_Lk_step 42 = .ok (.getfield 15, 3) := by decide +kernel
theorem d_Lk_step_45 : decode b_Lk_step 45 = .ok (.iload_n 1, 1) := by decide +kernel
theorem d_Lk_step_46 : decode b_Lk_step 46 = .ok (.invokevirtual 102, 3) := by decide +kernel
theorem d_Lk_step_49 : decode b_Lk_step 49 = .ok (.bipush 6, 2) := by decide +kernel
theorem d_Lk_step_51 : decode b_Lk_step 51 = .ok (.if_icmp .eq 5, 3) := by decide +kernel
theorem d_Lk_step_54 : decode b_Lk_step 54 = .ok (.iconst (-1), 1) := by decide +kernel
theorem d_Lk_step_55 : decode b_Lk_step 55 = .ok (.ireturn, 1) := by decide +kernel
theorem d_Lk_step_56 : decode b_Lk_step 56 = .ok (.aload_n 0, 1) := by decide +kernel
theorem d_Lk_step_57 : decode b_Lk_step 57 = .ok (.getfield 15, 3) := by decide +kernel
theorem d_Lk_step_60 : decode b_Lk_step 60 = .ok (.iload_n 1, 1) := by decide +kernel
theorem d_Lk_step_61 : decode b_Lk_step 61 = .ok (.invokevirtual 111, 3) := by decide +kernel
theorem d_Lk_step_64 : decode b_Lk_step 64 = .ok (.istore 4, 2) := by decide +kernel
theorem d_Lk_step_66 : decode b_Lk_step 66 = .ok (.iconst 0, 1) := by decide +kernel
theorem d_Lk_step_67 : decode b_Lk_step 67 = .ok (.istore 5, 2) := by decide +kernel
theorem d_Lk_step_69 : decode b_Lk_step 69 = .ok (.iload 5, 2) := by decide +kernel
theorem d_Lk_step_71 : decode b_Lk_step 71 = .ok (.aload_n 0, 1) := by decide +kernel
theorem d_Lk_step_72 : decode b_Lk_step 72 = .ok (.getfield 15, 3) := by decide +kernel
theorem d_Lk_step_75 : decode b_Lk_step 75 = .ok (.iload_n 1, 1) := by decide +kernel
theorem d_Lk_step_76 : decode b_Lk_step 76 = .ok (.invokevirtual 43, 3) := by decide +kernel
theorem d_Lk_step_79 : decode b_Lk_step 79 = .ok (.if_icmp .ge 36, 3) := by decide +kernel
theorem d_Lk_step_82 : decode b_Lk_step 82 = .ok (.aload_n 0, 1) := by decide +kernel
theorem d_Lk_step_83 : decode b_Lk_step 83 = .ok (.iload 4, 2) := by decide +kernel
theorem d_Lk_step_85 : decode b_Lk_step 85 = .ok (.iconst 1, 1) := by decide +kernel
theorem d_Lk_step_86 : decode b_Lk_step 86 = .ok (.isub, 1) := by decide +kernel
theorem d_Lk_step_87 : decode b_Lk_step 87 = .ok (.iload_n 2, 1) := by decide +kernel
theorem d_Lk_step_88 : decode b_Lk_step 88 = .ok (.iload_n 3, 1) := by decide +kernel
theorem d_Lk_step_89 : decode b_Lk_step 89 = .ok (.invokevirtual 91, 3) := by decide +kernel
theorem d_Lk_step_92 : decode b_Lk_step 92 = .ok (.ifCond .eq 6, 3) := by decide +kernel
theorem d_Lk_step_95 : decode b_Lk_step 95 = .ok (.iload 4, 2) := by decide +kernel
theorem d_Lk_step_97 : decode b_Lk_step 97 = .ok (.ireturn, 1) := by decide +kernel
theorem d_Lk_step_98 : decode b_Lk_step 98 = .ok (.aload_n 0, 1) := by decide +kernel
theorem d_Lk_step_99 : decode b_Lk_step 99 = .ok (.getfield 15, 3) := by decide +kernel
theorem d_Lk_step_102 : decode b_Lk_step 102 = .ok (.iload 4, 2) := by decide +kernel
theorem d_Lk_step_104 : decode b_Lk_step 104 = .ok (.invokevirtual 114, 3) := by decide +kernel
theorem d_Lk_step_107 : decode b_Lk_step 107 = .ok (.istore 4, 2) := by decide +kernel
theorem d_Lk_step_109 : decode b_Lk_step 109 = .ok (.iinc 5 1, 3) := by decide +kernel
theorem d_Lk_step_112 : decode b_Lk_step 112 = .ok (.goto (-43), 3) := by decide +kernel
theorem d_Lk_step_115 : decode b_Lk_step 115 = .ok (.iconst (-1), 1) := by decide +kernel
theorem d_Lk_step_116 : decode b_Lk_step 116 = .ok (.ireturn, 1) := by decide +kernel
theorem d_Lk_walk_0 : decode b_Lk_walk 0 = .ok (.iconst 0, 1) := by decide +kernel
theorem d_Lk_walk_1 : decode b_Lk_walk 1 = .ok (.istore_n 1, 1) := by decide +kernel
theorem d_Lk_walk_2 : decode b_Lk_walk 2 = .ok (.iconst 2, 1) := by decide +kernel
theorem d_Lk_walk_3 : decode b_Lk_walk 3 = .ok (.istore_n 2, 1) := by decide +kernel
theorem d_Lk_walk_4 : decode b_Lk_walk 4 = .ok (.iconst 2, 1) := by decide +kernel
theorem d_Lk_walk_5 : decode b_Lk_walk 5 = .ok (.istore_n 3, 1) := by decide +kernel
theorem d_Lk_walk_6 : decode b_Lk_walk 6 = .ok (.iload_n 3, 1) := by decide +kernel
theorem d_Lk_walk_7 : decode b_Lk_walk 7 = .ok (.aload_n 0, 1) := by decide +kernel
theorem d_Lk_walk_8 : decode b_Lk_walk 8 = .ok (.getfield 27, 3) := by decide +kernel
theorem d_Lk_walk_11 : decode b_Lk_walk 11 = .ok (.if_icmp .gt 40, 3) := by decide +kernel
theorem d_Lk_walk_14 : decode b_Lk_walk 14 = .ok (.iload_n 3, 1) := by decide +kernel
theorem d_Lk_walk_15 : decode b_Lk_walk 15 = .ok (.aload_n 0, 1) := by decide +kernel
theorem d_Lk_walk_16 : decode b_Lk_walk 16 = .ok (.getfield 27, 3) := by decide +kernel
theorem d_Lk_walk_19 : decode b_Lk_walk 19 = .ok (.if_icmp .eq 14, 3) := by decide +kernel
theorem d_Lk_walk_22 : decode b_Lk_walk 22 = .ok (.aload_n 0, 1) := by decide +kernel
theorem d_Lk_walk_23 : decode b_Lk_walk 23 = .ok (.getfield 9, 3) := by decide +kernel
theorem d_Lk_walk_26 : decode b_Lk_walk 26 = .ok (.iload_n 3, 1) := by decide +kernel
theorem d_Lk_walk_27 : decode b_Lk_walk 27 = .ok (.iaload, 1) := by decide +kernel
theorem d_Lk_walk_28 : decode b_Lk_walk 28 = .ok (.bipush 47, 2) := by decide +kernel
theorem d_Lk_walk_30 : decode b_Lk_walk 30 = .ok (.if_icmp .ne 15, 3) := by decide +kernel
theorem d_Lk_walk_33 : decode b_Lk_walk 33 = .ok (.aload_n 0, 1) := by decide +kernel
theorem d_Lk_walk_34 : decode b_Lk_walk 34 = .ok (.iload_n 1, 1) := by decide +kernel
theorem d_Lk_walk_35 : decode b_Lk_walk 35 = .ok (.iload_n 2, 1) := by decide +kernel
theorem d_Lk_walk_36 : decode b_Lk_walk 36 = .ok (.iload_n 3, 1) := by decide +kernel
theorem d_Lk_walk_37 : decode b_Lk_walk 37 = .ok (.invokevirtual 98, 3) := by decide +kernel
theorem d_Lk_walk_40 : decode b_Lk_walk 40 = .ok (.istore_n 1, 1) := by decide +kernel
theorem d_Lk_walk_41 : decode b_Lk_walk 41 = .ok (.iload_n 3, 1) := by decide +kernel
theorem d_Lk_walk_42 : decode b_Lk_walk 42 = .ok (.iconst 1, 1) := by decide +kernel
theorem d_Lk_walk_43 : decode b_Lk_walk 43 = .ok (.iadd, 1) := by decide +kernel
theorem d_Lk_walk_44 : decode b_Lk_walk 44 = .ok (.istore_n 2, 1) := by decide +kernel
theorem d_Lk_walk_45 : decode b_Lk_walk 45 = .ok (.iinc 3 1, 3) := by decide +kernel
theorem d_Lk_walk_48 : decode b_Lk_walk 48 = .ok (.goto (-42), 3) := by decide +kernel
theorem d_Lk_walk_51 : decode b_Lk_walk 51 = .ok (.iload_n 1, 1) := by decide +kernel
theorem d_Lk_walk_52 : decode b_Lk_walk 52 = .ok (.ireturn, 1) := by decide +kernel
theorem d_Tx_parent_0 : decode b_Tx_parent 0 = .ok (.iload_n 1, 1) := by decide +kernel
theorem d_Tx_parent_1 : decode b_Tx_parent 1 = .ok (.ifCond .lt 20, 3) := by decide +kernel
theorem d_Tx_parent_4 : decode b_Tx_parent 4 = .ok (.iload_n 1, 1) := by decide +kernel
theorem d_Tx_parent_5 : decode b_Tx_parent 5 = .ok (.aload_n 0, 1) := by decide +kernel
theorem d_Tx_parent_6 : decode b_Tx_parent 6 = .ok (.getfield 43, 3) := by decide +kernel
theorem d_Tx_parent_9 : decode b_Tx_parent 9 = .ok (.if_icmp .ge 12, 3) := by decide +kernel
theorem d_Tx_parent_12 : decode b_Tx_parent 12 = .ok (.aload_n 0, 1) := by decide +kernel
theorem d_Tx_parent_13 : decode b_Tx_parent 13 = .ok (.getfield 21, 3) := by decide +kernel
theorem d_Tx_parent_16 : decode b_Tx_parent 16 = .ok (.iload_n 1, 1) := by decide +kernel
theorem d_Tx_parent_17 : decode b_Tx_parent 17 = .ok (.iaload, 1) := by decide +kernel
theorem d_Tx_parent_18 : decode b_Tx_parent 18 = .ok (.goto 4, 3) := by decide +kernel
theorem d_Tx_parent_21 : decode b_Tx_parent 21 = .ok (.iconst (-1), 1) := by decide +kernel
theorem d_Tx_parent_22 : decode b_Tx_parent 22 = .ok (.ireturn, 1) := by decide +kernel
theorem d_Lk_anchored_0 : decode b_Lk_anchored 0 = .ok (.iconst 0, 1) := by decide +kernel
theorem d_Lk_anchored_1 : decode b_Lk_anchored 1 = .ok (.istore_n 1, 1) := by decide +kernel
theorem d_Lk_anchored_2 : decode b_Lk_anchored 2 = .ok (.iload_n 1, 1) := by decide +kernel
theorem d_Lk_anchored_3 : decode b_Lk_anchored 3 = .ok (.aload_n 0, 1) := by decide +kernel
theorem d_Lk_anchored_4 : decode b_Lk_anchored 4 = .ok (.getfield 15, 3) := by decide +kernel
theorem d_Lk_anchored_7 : decode b_Lk_anchored 7 = .ok (.invokevirtual 78, 3) := by decide +kernel
theorem d_Lk_anchored_10 : decode b_Lk_anchored 10 = .ok (.if_icmp .ge 45, 3) := by decide +kernel
theorem d_Lk_anchored_13 : decode b_Lk_anchored 13 = .ok (.aload_n 0, 1) := by decide +kernel
theorem d_Lk_anchored_14 : decode b_Lk_anchored 14 = .ok (.getfield 19, 3) := by decide +kernel
theorem d_Lk_anchored_17 : decode b_Lk_anchored 17 = .ok (.iload_n 1, 1) := by decide +kernel
theorem d_Lk_anchored_18 : decode b_Lk_anchored 18 = .ok (.invokevirtual 81, 3) := by decide +kernel
theorem d_Lk_anchored_21 : decode b_Lk_anchored 21 = .ok (.getstatic 85, 3) := by decide +kernel
theorem d_Lk_anchored_24 : decode b_Lk_anchored 24 = .ok (.if_acmp .ne 25, 3) := by decide +kernel
theorem d_Lk_anchored_27 : decode b_Lk_anchored 27 = .ok (.aload_n 0, 1) := by decide +kernel
theorem d_Lk_anchored_28 : decode b_Lk_anchored 28 = .ok (.iload_n 1, 1) := by decide +kernel
theorem d_Lk_anchored_29 : decode b_Lk_anchored 29 = .ok (.iconst 1, 1) := by decide +kernel
theorem d_Lk_anchored_30 : decode b_Lk_anchored 30 = .ok (.aload_n 0, 1) := by decide +kernel
theorem d_Lk_anchored_31 : decode b_Lk_anchored 31 = .ok (.getfield 27, 3) := by decide +kernel
theorem d_Lk_anchored_34 : decode b_Lk_anchored 34 = .ok (.invokevirtual 91, 3) := by decide +kernel
theorem d_Lk_anchored_37 : decode b_Lk_anchored 37 = .ok (.ifCond .eq 12, 3) := by decide +kernel
theorem d_Lk_anchored_40 : decode b_Lk_anchored 40 = .ok (.aload_n 0, 1) := by decide +kernel
theorem d_Lk_anchored_41 : decode b_Lk_anchored 41 = .ok (.getfield 15, 3) := by decide +kernel
theorem d_Lk_anchored_44 : decode b_Lk_anchored 44 = .ok (.iload_n 1, 1) := by decide +kernel
theorem d_Lk_anchored_45 : decode b_Lk_anchored 45 = .ok (.invokevirtual 95, 3) := by decide +kernel
theorem d_Lk_anchored_48 : decode b_Lk_anchored 48 = .ok (.ireturn, 1) := by decide +kernel
theorem d_Lk_anchored_49 : decode b_Lk_anchored 49 = .ok (.iinc 1 1, 3) := by decide +kernel
theorem d_Lk_anchored_52 : decode b_Lk_anchored 52 = .ok (.goto (-50), 3) := by decide +kernel
theorem d_Lk_anchored_55 : decode b_Lk_anchored 55 = .ok (.iconst (-1), 1) := by decide +kernel
theorem d_Lk_anchored_56 : decode b_Lk_anchored 56 = .ok (.ireturn, 1) := by decide +kernel
theorem d_Lk_resolve_0 : decode b_Lk_resolve 0 = .ok (.aload_n 0, 1) := by decide +kernel
theorem d_Lk_resolve_1 : decode b_Lk_resolve 1 = .ok (.iload_n 1, 1) := by decide +kernel
theorem d_Lk_resolve_2 : decode b_Lk_resolve 2 = .ok (.invokevirtual 23, 3) := by decide +kernel
theorem d_Lk_resolve_5 : decode b_Lk_resolve 5 = .ok (.ifCond .eq 21, 3) := by decide +kernel
theorem d_Lk_resolve_8 : decode b_Lk_resolve 8 = .ok (.aload_n 0, 1) := by decide +kernel
theorem d_Lk_resolve_9 : decode b_Lk_resolve 9 = .ok (.getfield 27, 3) := by decide +kernel
theorem d_Lk_resolve_12 : decode b_Lk_resolve 12 = .ok (.ifCond .eq 14, 3) := by decide +kernel
theorem d_Lk_resolve_15 : decode b_Lk_resolve 15 = .ok (.aload_n 0, 1) := by decide +kernel
theorem d_Lk_resolve_16 : decode b_Lk_resolve 16 = .ok (.getfield 9, 3) := by decide +kernel
theorem d_Lk_resolve_19 : decode b_Lk_resolve 19 = .ok (.iconst 0, 1) := by decide +kernel
theorem d_Lk_resolve_20 : decode b_Lk_resolve 20 = .ok (.iaload, 1) := by decide +kernel
theorem d_Lk_resolve_21 : decode b_Lk_resolve 21 = .ok (.bipush 35, 2) := by decide +kernel
theorem d_Lk_resolve_23 : decode b_Lk_resolve 23 = .ok (.if_icmp .eq 5, 3) := by decide +kernel
theorem d_Lk_resolve_26 : decode b_Lk_resolve 26 = .ok (.iconst (-1), 1) := by decide +kernel
theorem d_Lk_resolve_27 : decode b_Lk_resolve 27 = .ok (.ireturn, 1) := by decide +kernel
theorem d_Lk_resolve_28 : decode b_Lk_resolve 28 = .ok (.aload_n 0, 1) := by decide +kernel
theorem d_Lk_resolve_29 : decode b_Lk_resolve 29 = .ok (.getfield 27, 3) := by decide +kernel
theorem d_Lk_resolve_32 : decode b_Lk_resolve 32 = .ok (.iconst 1, 1) := by decide +kernel
theorem d_Lk_resolve_33 : decode b_Lk_resolve 33 = .ok (.if_icmp .ne 5, 3) := by decide +kernel
theorem d_Lk_resolve_36 : decode b_Lk_resolve 36 = .ok (.iconst 0, 1) := by decide +kernel
theorem d_Lk_resolve_37 : decode b_Lk_resolve 37 = .ok (.ireturn, 1) := by decide +kernel
theorem d_Lk_resolve_38 : decode b_Lk_resolve 38 = .ok (.aload_n 0, 1) := by decide +kernel
theorem d_Lk_resolve_39 : decode b_Lk_resolve 39 = .ok (.getfield 9, 3) := by decide +kernel
theorem d_Lk_resolve_42 : decode b_Lk_resolve 42 = .ok (.iconst 1, 1) := by decide +kernel
theorem d_Lk_resolve_43 : decode b_Lk_resolve 43 = .ok (.iaload, 1) := by decide +kernel
theorem d_Lk_resolve_44 : decode b_Lk_resolve 44 = .ok (.bipush 47, 2) := by decide +kernel
theorem d_Lk_resolve_46 : decode b_Lk_resolve 46 = .ok (.if_icmp .ne 10, 3) := by decide +kernel
theorem d_Lk_resolve_49 : decode b_Lk_resolve 49 = .ok (.aload_n 0, 1) := by decide +kernel
theorem d_Lk_resolve_50 : decode b_Lk_resolve 50 = .ok (.invokevirtual 31, 3) := by decide +kernel
theorem d_Lk_resolve_53 : decode b_Lk_resolve 53 = .ok (.goto 7, 3) := by decide +kernel
theorem d_Lk_resolve_56 : decode b_Lk_resolve 56 = .ok (.aload_n 0, 1) := by decide +kernel
theorem d_Lk_resolve_57 : decode b_Lk_resolve 57 = .ok (.invokevirtual 35, 3) := by decide +kernel
theorem d_Lk_resolve_60 : decode b_Lk_resolve 60 = .ok (.istore_n 2, 1) := by decide +kernel
theorem d_Lk_resolve_61 : decode b_Lk_resolve 61 = .ok (.aload_n 0, 1) := by decide +kernel
theorem d_Lk_resolve_62 : decode b_Lk_resolve 62 = .ok (.getfield 19, 3) := by decide +kernel
theorem d_Lk_resolve_65 : decode b_Lk_resolve 65 = .ok (.iload_n 2, 1) := by decide +kernel
theorem d_Lk_resolve_66 : decode b_Lk_resolve 66 = .ok (.invokevirtual 38, 3) := by decide +kernel
theorem d_Lk_resolve_69 : decode b_Lk_resolve 69 = .ok (.ifCond .eq 7, 3) := by decide +kernel
theorem d_Lk_resolve_72 : decode b_Lk_resolve 72 = .ok (.iload_n 2, 1) := by decide +kernel
theorem d_Lk_resolve_73 : decode b_Lk_resolve 73 = .ok (.goto 4, 3) := by decide +kernel
theorem d_Lk_resolve_76 : decode b_Lk_resolve 76 = .ok (.iconst (-1), 1) := by decide +kernel
theorem d_Lk_resolve_77 : decode b_Lk_resolve 77 = .ok (.ireturn, 1) := by decide +kernel
theorem d_Mk_setTarget_0 : decode b_Mk_setTarget 0 = .ok (.iload_n 1, 1) := by decide +kernel
theorem d_Mk_setTarget_1 : decode b_Mk_setTarget 1 = .ok (.ifCond .lt 17, 3) := by decide +kernel
theorem d_Mk_setTarget_4 : decode b_Mk_setTarget 4 = .ok (.iload_n 1, 1) := by decide +kernel
theorem d_Mk_setTarget_5 : decode b_Mk_setTarget 5 = .ok (.sipush 1000, 3) := by decide +kernel
theorem d_Mk_setTarget_8 : decode b_Mk_setTarget 8 = .ok (.if_icmp .ge 10, 3) := by decide +kernel
theorem d_Mk_setTarget_11 : decode b_Mk_setTarget 11 = .ok (.aload_n 0, 1) := by decide +kernel
theorem d_Mk_setTarget_12 : decode b_Mk_setTarget 12 = .ok (.getfield 19, 3) := by decide +kernel
theorem d_Mk_setTarget_15 : decode b_Mk_setTarget 15 = .ok (.iload_n 1, 1) := by decide +kernel
theorem d_Mk_setTarget_16 : decode b_Mk_setTarget 16 = .ok (.iload_n 2, 1) := by decide +kernel
theorem d_Mk_setTarget_17 : decode b_Mk_setTarget 17 = .ok (.iastore, 1) := by decide +kernel
theorem d_Mk_setTarget_18 : decode b_Mk_setTarget 18 = .ok (.return_, 1) := by decide +kernel
theorem d_Ck_followReferences_0 : decode b_Ck_followReferences 0 = .ok (.aload_n 0, 1) := by decide +kernel
theorem d_Ck_followReferences_1 : decode b_Ck_followReferences 1 = .ok (.getfield 19, 3) := by decide +kernel
theorem d_Ck_followReferences_4 : decode b_Ck_followReferences 4 = .ok (.iconst (-1), 1) := by decide +kernel
theorem d_Ck_followReferences_5 : decode b_Ck_followReferences 5 = .ok (.invokestatic 212, 3) := by decide +kernel
theorem d_Ck_followReferences_8 : decode b_Ck_followReferences 8 = .ok (.iconst 0, 1) := by decide +kernel
theorem d_Ck_followReferences_9 : decode b_Ck_followReferences 9 = .ok (.istore_n 1, 1) := by decide +kernel
theorem d_Ck_followReferences_10 : decode b_Ck_followReferences 10 = .ok (.iload_n 1, 1) := by decide +kernel
theorem d_Ck_followReferences_11 : decode b_Ck_followReferences 11 = .ok (.sipush 1000, 3) := by decide +kernel
theorem d_Ck_followReferences_14 : decode b_Ck_followReferences 14 = .ok (.if_icmp .ge 16, 3) := by decide +kernel
theorem d_Ck_followReferences_17 : decode b_Ck_followReferences 17 = .ok (.aload_n 0, 1) := by decide +kernel
theorem d_Ck_followReferences_18 : decode b_Ck_followReferences 18 = .ok (.getfield 9, 3) := by decide +kernel
theorem d_Ck_followReferences_21 : decode b_Ck_followReferences 21 = .ok (.iload_n 1, 1) := by decide +kernel
theorem d_Ck_followReferences_22 : decode b_Ck_followReferences 22 = .ok (.iconst 0, 1) := by decide +kernel
theorem d_Ck_followReferences_23 : decode b_Ck_followReferences 23 = .ok (.bastore, 1) := by decide +kernel
theorem d_Ck_followReferences_24 : decode b_Ck_followReferences 24 = .ok (.iinc 1 1, 3) := by decide +kernel
theorem d_Ck_followReferences_27 : decode b_Ck_followReferences 27 = .ok (.goto (-17), 3) := by decide +kernel
theorem d_Ck_followReferences_30 : decode b_Ck_followReferences 30 = .ok (.iconst 0, 1) := by decide +kernel
theorem d_Ck_followReferences_31 : decode b_Ck_followReferences 31 = .ok (.istore_n 1, 1) := by decide +kernel
theorem d_Ck_followReferences_32 : decode b_Ck_followReferences 32 = .ok (.iload_n 1, 1) := by decide +kernel
theorem d_Ck_followReferences_33 : decode b_Ck_followReferences 33 = .ok (.aload_n 0, 1) := by decide +kernel
theorem d_Ck_followReferences_34 : decode b_Ck_followReferences 34 = .ok (.getfield 22, 3) := by decide +kernel
theorem d_Ck_followReferences_37 : decode b_Ck_followReferences 37 = .ok (.invokevirtual 59, 3) := by decide +kernel
theorem d_Ck_followReferences_40 : decode b_Ck_followReferences 40 = .ok (.if_icmp .ge 69, 3) := by decide +kernel
theorem d_Ck_followReferences_43 : decode b_Ck_followReferences 43 = .ok (.aload_n 0, 1) := by decide +kernel
theorem d_Ck_followReferences_44 : decode b_Ck_followReferences 44 = .ok (.getfield 26, 3) := by decide +kernel
theorem d_Ck_followReferences_47 : decode b_Ck_followReferences 47 = .ok (.iload_n 1, 1) := by decide +kernel
theorem d_Ck_followReferences_48 : decode b_Ck_followReferences 48 = .ok (.invokevirtual 206, 3) := by decide +kernel
theorem d_Ck_followReferences_51 : decode b_Ck_followReferences 51 = .ok (.getstatic 218, 3) := by decide +kernel
theorem d_Ck_followReferences_54 : decode b_Ck_followReferences 54 = .ok (.if_acmp .ne 49, 3) := by decide +kernel
theorem d_Ck_followReferences_57 : decode b_Ck_followReferences 57 = .ok (.aload_n 0, 1) := by decide +kernel
theorem d_Ck_followReferences_58 : decode b_Ck_followReferences 58 = .ok (.getfield 39, 3) := by decide +kernel
theorem d_Ck_followReferences_61 : decode b_Ck_followReferences 61 = .ok (.iload_n 1, 1) := by decide +kernel
theorem d_Ck_followReferences_62 : decode b_Ck_followReferences 62 = .ok (.invokevirtual 221, 3) := by decide +kernel
theorem d_Ck_followReferences_65 : decode b_Ck_followReferences 65 = .ok (.istore_n 2, 1) := by decide +kernel
theorem d_Ck_followReferences_66 : decode b_Ck_followReferences 66 = .ok (.aload_n 0, 1) := by decide +kernel
theorem d_Ck_followReferences_67 : decode b_Ck_followReferences 67 = .ok (.getfield 26, 3) := by decide +kernel
theorem d_Ck_followReferences_70 : decode b_Ck_followReferences 70 = .ok (.iload_n 1, 1) := by decide +kernel
theorem d_Ck_followReferences_71 : decode b_Ck_followReferences 71 = .ok (.iload_n 2, 1) := by decide +kernel
theorem d_Ck_followReferences_72 : decode b_Ck_followReferences 72 = .ok (.invokevirtual 224, 3) := by decide +kernel
theorem d_Ck_followReferences_75 : decode b_Ck_followReferences 75 = .ok (.iload_n 2, 1) := by decide +kernel
theorem d_Ck_followReferences_76 : decode b_Ck_followReferences 76 = .ok (.iconst (-1), 1) := by decide +kernel
theorem d_Ck_followReferences_77 : decode b_Ck_followReferences 77 = .ok (.if_icmp .ne 12, 3) := by decide +kernel
theorem d_Ck_followReferences_80 : decode b_Ck_followReferences 80 = .ok (.aload_n 0, 1) := by decide +kernel
theorem d_Ck_followReferences_81 : decode b_Ck_followReferences 81 = .ok (.iconst 5, 1) := by decide +kernel
theorem d_Ck_followReferences_82 : decode b_Ck_followReferences 82 = .ok (.iload_n 1, 1) := by decide +kernel
theorem d_Ck_followReferences_83 : decode b_Ck_followReferences 83 = .ok (.invokevirtual 81, 3) := by decide +kernel
theorem d_Ck_followReferences_86 : decode b_Ck_followReferences 86 = .ok (.goto 17, 3) := by decide +kernel
theorem d_Ck_followReferences_89 : decode b_Ck_followReferences 89 = .ok (.iload_n 2, 1) := by decide +kernel
theorem d_Ck_followReferences_90 : decode b_Ck_followReferences 90 = .ok (.sipush 1000, 3) := by decide +kernel
theorem d_Ck_followReferences_93 : decode b_Ck_followReferences 93 = .ok (.if_icmp .ge 10, 3) := by decide +kernel
theorem d_Ck_followReferences_96 : decode b_Ck_followReferences 96 = .ok (.aload_n 0, 1) := by decide +kernel
theorem d_Ck_followReferences_97 : decode b_Ck_followReferences 97 = .ok (.getfield 9, 3) := by decide +kernel
theorem d_Ck_followReferences_100 : decode b_Ck_followReferences 100 = .ok (.iload_n 2, 1) := by decide +kernel
theorem d_Ck_followReferences_101 : decode b_Ck_followReferences 101 = .ok (.iconst 1, 1) := by decide +kernel
theorem d_Ck_followReferences_102 : decode b_Ck_followReferences 102 = .ok (.bastore, 1) := by decide +kernel
theorem d_Ck_followReferences_103 : decode b_Ck_followReferences 103 = .ok (.iinc 1 1, 3) := by decide +kernel
theorem d_Ck_followReferences_106 : decode b_Ck_followReferences 106 = .ok (.goto (-74), 3) := by decide +kernel
theorem d_Ck_followReferences_109 : decode b_Ck_followReferences 109 = .ok (.return_, 1) := by decide +kernel
theorem d_Mk_schemaCount_0 : decode b_Mk_schemaCount 0 = .ok (.aload_n 1, 1) := by decide +kernel
theorem d_Mk_schemaCount_1 : decode b_Mk_schemaCount 1 = .ok (.getfield 54, 3) := by decide +kernel
theorem d_Mk_schemaCount_4 : decode b_Mk_schemaCount 4 = .ok (.iconst 2, 1) := by decide +kernel
theorem d_Mk_schemaCount_5 : decode b_Mk_schemaCount 5 = .ok (.if_icmp .eq 11, 3) := by decide +kernel
theorem d_Mk_schemaCount_8 : decode b_Mk_schemaCount 8 = .ok (.aload_n 1, 1) := by decide +kernel
theorem d_Mk_schemaCount_9 : decode b_Mk_schemaCount 9 = .ok (.getfield 54, 3) := by decide +kernel
theorem d_Mk_schemaCount_12 : decode b_Mk_schemaCount 12 = .ok (.iconst 3, 1) := by decide +kernel
theorem d_Mk_schemaCount_13 : decode b_Mk_schemaCount 13 = .ok (.if_icmp .ne 14, 3) := by decide +kernel
theorem d_Mk_schemaCount_16 : decode b_Mk_schemaCount 16 = .ok (.aload_n 0, 1) := by decide +kernel
theorem d_Mk_schemaCount_17 : decode b_Mk_schemaCount 17 = .ok (.getfield 22, 3) := by decide +kernel
theorem d_Mk_schemaCount_20 : decode b_Mk_schemaCount 20 = .ok (.iload_n 2, 1) := by decide +kernel
theorem d_Mk_schemaCount_21 : decode b_Mk_schemaCount 21 = .ok (.invokevirtual 45, 3) := by decide +kernel
theorem d_Mk_schemaCount_24 : decode b_Mk_schemaCount 24 = .ok (.goto 4, 3) := by decide +kernel
theorem d_Mk_schemaCount_27 : decode b_Mk_schemaCount 27 = .ok (.iconst 1, 1) := by decide +kernel
theorem d_Mk_schemaCount_28 : decode b_Mk_schemaCount 28 = .ok (.ireturn, 1) := by decide +kernel
theorem d_Mk_firstSchema_0 : decode b_Mk_firstSchema 0 = .ok (.aload_n 1, 1) := by decide +kernel
theorem d_Mk_firstSchema_1 : decode b_Mk_firstSchema 1 = .ok (.getfield 54, 3) := by decide +kernel
theorem d_Mk_firstSchema_4 : decode b_Mk_firstSchema 4 = .ok (.iconst 2, 1) := by decide +kernel
theorem d_Mk_firstSchema_5 : decode b_Mk_firstSchema 5 = .ok (.if_icmp .eq 11, 3) := by decide +kernel
theorem d_Mk_firstSchema_8 : decode b_Mk_firstSchema 8 = .ok (.aload_n 1, 1) := by decide +kernel
theorem d_Mk_firstSchema_9 : decode b_Mk_firstSchema 9 = .ok (.getfield 54, 3) := by decide +kernel
theorem d_Mk_firstSchema_12 : decode b_Mk_firstSchema 12 = .ok (.iconst 3, 1) := by decide +kernel
theorem d_Mk_firstSchema_13 : decode b_Mk_firstSchema 13 = .ok (.if_icmp .ne 12, 3) := by decide +kernel
theorem d_Mk_firstSchema_16 : decode b_Mk_firstSchema 16 = .ok (.aload_n 0, 1) := by decide +kernel
theorem d_Mk_firstSchema_17 : decode b_Mk_firstSchema 17 = .ok (.getfield 22, 3) := by decide +kernel
theorem d_Mk_firstSchema_20 : decode b_Mk_firstSchema 20 = .ok (.iload_n 2, 1) := by decide +kernel
theorem d_Mk_firstSchema_21 : decode b_Mk_firstSchema 21 = .ok (.invokevirtual 42, 3) := by decide +kernel
theorem d_Mk_firstSchema_24 : decode b_Mk_firstSchema 24 = .ok (.ireturn, 1) := by decide +kernel
theorem d_Mk_firstSchema_25 : decode b_Mk_firstSchema 25 = .ok (.aload_n 1, 1) := by decide +kernel
theorem d_Mk_firstSchema_26 : decode b_Mk_firstSchema 26 = .ok (.getfield 54, 3) := by decide +kernel
theorem d_Mk_firstSchema_29 : decode b_Mk_firstSchema 29 = .ok (.bipush 8, 2) := by decide +kernel
theorem d_Mk_firstSchema_31 : decode b_Mk_firstSchema 31 = .ok (.if_icmp .ne 25, 3) := by decide +kernel
theorem d_Mk_firstSchema_34 : decode b_Mk_firstSchema 34 = .ok (.iload_n 2, 1) := by decide +kernel
theorem d_Mk_firstSchema_35 : decode b_Mk_firstSchema 35 = .ok (.ifCond .lt 19, 3) := by decide +kernel
theorem d_Mk_firstSchema_38 : decode b_Mk_firstSchema 38 = .ok (.iload_n 2, 1) := by decide +kernel
theorem d_Mk_firstSchema_39 : decode b_Mk_firstSchema 39 = .ok (.sipush 1000, 3) := by decide +kernel
theorem d_Mk_firstSchema_42 : decode b_Mk_firstSchema 42 = .ok (.if_icmp .ge 12, 3) := by decide +kernel
theorem d_Mk_firstSchema_45 : decode b_Mk_firstSchema 45 = .ok (.aload_n 0, 1) := by decide +kernel
theorem d_Mk_firstSchema_46 : decode b_Mk_firstSchema 46 = .ok (.getfield 19, 3) := by decide +kernel
theorem d_Mk_firstSchema_49 : decode b_Mk_firstSchema 49 = .ok (.iload_n 2, 1) := by decide +kernel
theorem d_Mk_firstSchema_50 : decode b_Mk_firstSchema 50 = .ok (.iaload, 1) := by decide +kernel
theorem d_Mk_firstSchema_51 : decode b_Mk_firstSchema 51 = .ok (.goto 4, 3) := by decide +kernel
theorem d_Mk_firstSchema_54 : decode b_Mk_firstSchema 54 = .ok (.iconst (-1), 1) := by decide +kernel
theorem d_Mk_firstSchema_55 : decode b_Mk_firstSchema 55 = .ok (.ireturn, 1) := by decide +kernel
theorem d_Mk_firstSchema_56 : decode b_Mk_firstSchema 56 = .ok (.iload_n 2, 1) := by decide +kernel
theorem d_Mk_firstSchema_57 : decode b_Mk_firstSchema 57 = .ok (.ireturn, 1) := by decide +kernel
theorem d_Ck_spread_0 : decode b_Ck_spread 0 = .ok (.aload_n 0, 1) := by decide +kernel
theorem d_Ck_spread_1 : decode b_Ck_spread 1 = .ok (.getfield 22, 3) := by decide +kernel
theorem d_Ck_spread_4 : decode b_Ck_spread 4 = .ok (.iload_n 1, 1) := by decide +kernel
theorem d_Ck_spread_5 : decode b_Ck_spread 5 = .ok (.invokevirtual 92, 3) := by decide +kernel
theorem d_Ck_spread_8 : decode b_Ck_spread 8 = .ok (.istore_n 3, 1) := by decide +kernel
theorem d_Ck_spread_9 : decode b_Ck_spread 9 = .ok (.iconst 0, 1) := by decide +kernel
theorem d_Ck_spread_10 : decode b_Ck_spread 10 = .ok (.istore 4, 2) := by decide +kernel
theorem d_Ck_spread_12 : decode b_Ck_spread 12 = .ok (.iload 4, 2) := by decide +kernel
theorem d_Ck_spread_14 : decode b_Ck_spread 14 = .ok (.aload_n 0, 1) := by decide +kernel
theorem d_Ck_spread_15 : decode b_Ck_spread 15 = .ok (.getfield 22, 3) := by decide +kernel
theorem d_Ck_spread_18 : decode b_Ck_spread 18 = .ok (.iload_n 1, 1) := by decide +kernel
theorem d_Ck_spread_19 : decode b_Ck_spread 19 = .ok (.invokevirtual 96, 3) := by decide +kernel
theorem d_Ck_spread_22 : decode b_Ck_spread 22 = .ok (.if_icmp .ge 155, 3) := by decide +kernel
theorem d_Ck_spread_25 : decode b_Ck_spread 25 = .ok (.aload_n 0, 1) := by decide +kernel
theorem d_Ck_spread_26 : decode b_Ck_spread 26 = .ok (.getfield 26, 3) := by decide +kernel
theorem d_Ck_spread_29 : decode b_Ck_spread 29 = .ok (.iload_n 3, 1) := by decide +kernel
theorem d_Ck_spread_30 : decode b_Ck_spread 30 = .ok (.invokevirtual 206, 3) := by decide +kernel
theorem d_Ck_spread_33 : decode b_Ck_spread 33 = .ok (.astore 5, 2) := by decide +kernel
theorem d_Ck_spread_35 : decode b_Ck_spread 35 = .ok (.aload 5, 2) := by decide +kernel
theorem d_Ck_spread_37 : decode b_Ck_spread 37 = .ok (.getfield 236, 3) := by decide +kernel
theorem d_Ck_spread_40 : decode b_Ck_spread 40 = .ok (.iconst 2, 1) := by decide +kernel
theorem d_Ck_spread_41 : decode b_Ck_spread 41 = .ok (.if_icmp .ne 16, 3) := by decide +kernel
theorem d_Ck_spread_44 : decode b_Ck_spread 44 = .ok (.aload_n 0, 1) := by decide +kernel
theorem d_Ck_spread_45 : decode b_Ck_spread 45 = .ok (.getfield 26, 3) := by decide +kernel
theorem d_Ck_spread_48 : decode b_Ck_spread 48 = .ok (.aload 5, 2) := by decide +kernel
theorem d_Ck_spread_50 : decode b_Ck_spread 50 = .ok (.iload_n 3, 1) := by decide +kernel
theorem d_Ck_spread_51 : decode b_Ck_spread 51 = .ok (.invokevirtual 239, 3) := by decide +kernel
theorem d_Ck_spread_54 : decode b_Ck_spread 54 = .ok (.goto 4, 3) := by decide +kernel
theorem d_Ck_spread_57 : decode b_Ck_spread 57 = .ok (.iconst 0, 1) := by decide +kernel
theorem d_Ck_spread_58 : decode b_Ck_spread 58 = .ok (.istore 6, 2) := by decide +kernel
theorem d_Ck_spread_60 : decode b_Ck_spread 60 = .ok (.aload_n 0, 1) := by decide +kernel
theorem d_Ck_spread_61 : decode b_Ck_spread 61 = .ok (.getfield 26, 3) := by decide +kernel
theorem d_Ck_spread_64 : decode b_Ck_spread 64 = .ok (.aload 5, 2) := by decide +kernel
theorem d_Ck_spread_66 : decode b_Ck_spread 66 = .ok (.iload_n 3, 1) := by decide +kernel
theorem d_Ck_spread_67 : decode b_Ck_spread 67 = .ok (.invokevirtual 243, 3) := by decide +kernel
theorem d_Ck_spread_70 : decode b_Ck_spread 70 = .ok (.istore 7, 2) := by decide +kernel
theorem d_Ck_spread_72 : decode b_Ck_spread 72 = .ok (.iconst 0, 1) := by decide +kernel
theorem d_Ck_spread_73 : decode b_Ck_spread 73 = .ok (.istore 8, 2) := by decide +kernel
theorem d_Ck_spread_75 : decode b_Ck_spread 75 = .ok (.iload 8, 2) := by decide +kernel
theorem d_Ck_spread_77 : decode b_Ck_spread 77 = .ok (.iload 6, 2) := by decide +kernel
theorem d_Ck_spread_79 : decode b_Ck_spread 79 = .ok (.if_icmp .ge 83, 3) := by decide +kernel
theorem d_Ck_spread_82 : decode b_Ck_spread 82 = .ok (.iload 7, 2) := by decide +kernel
theorem d_Ck_spread_84 : decode b_Ck_spread 84 = .ok (.ifCond .lt 61, 3) := by decide +kernel
theorem d_Ck_spread_87 : decode b_Ck_spread 87 = .ok (.iload 7, 2) := by decide +kernel
theorem d_Ck_spread_89 : decode b_Ck_spread 89 = .ok (.sipush 1000, 3) := by decide +kernel
theorem d_Ck_spread_92 : decode b_Ck_spread 92 = .ok (.if_icmp .ge 53, 3) := by decide +kernel
theorem d_Ck_spread_95 : decode b_Ck_spread 95 = .ok (.aload_n 0, 1) := by decide +kernel
theorem d_Ck_spread_96 : decode b_Ck_spread 96 = .ok (.getfield 19, 3) := by decide +kernel
theorem d_Ck_spread_99 : decode b_Ck_spread 99 = .ok (.iload 7, 2) := by decide +kernel
theorem d_Ck_spread_101 : decode b_Ck_spread 101 = .ok (.iaload, 1) := by decide +kernel
theorem d_Ck_spread_102 : decode b_Ck_spread 102 = .ok (.iload_n 2, 1) := by decide +kernel
theorem d_Ck_spread_103 : decode b_Ck_spread 103 = .ok (.if_icmp .eq 42, 3) := by decide +kernel
theorem d_Ck_spread_106 : decode b_Ck_spread 106 = .ok (.aload_n 0, 1) := by decide +kernel
theorem d_Ck_spread_107 : decode b_Ck_spread 107 = .ok (.getfield 230, 3) := by decide +kernel
theorem d_Ck_spread_110 : decode b_Ck_spread 110 = .ok (.sipush 1000, 3) := by decide +kernel
theorem d_Ck_spread_113 : decode b_Ck_spread 113 = .ok (.if_icmp .ge 32, 3) := by decide +kernel
theorem d_Ck_spread_116 : decode b_Ck_spread 116 = .ok (.aload_n 0, 1) := by decide +kernel
theorem d_Ck_spread_117 : decode b_Ck_spread 117 = .ok (.getfield 19, 3) := by decide +kernel
theorem d_Ck_spread_120 : decode b_Ck_spread 120 = .ok (.iload 7, 2) := by decide +kernel
theorem d_Ck_spread_122 : decode b_Ck_spread 122 = .ok (.iload_n 2, 1) := by decide +kernel
theorem d_Ck_spread_123 : decode b_Ck_spread 123 = .ok (.iastore, 1) := by decide +kernel
theorem d_Ck_spread_124 : decode b_Ck_spread 124 = .ok (.aload_n 0, 1) := by decide +kernel
theorem d_Ck_spread_125 : decode b_Ck_spread 125 = .ok (.getfield 15, 3) := by decide +kernel
theorem d_Ck_spread_128 : decode b_Ck_spread 128 = .ok (.aload_n 0, 1) := by decide +kernel
theorem d_Ck_spread_129 : decode b_Ck_spread 129 = .ok (.getfield 230, 3) := by decide +kernel
theorem d_Ck_spread_132 : decode b_Ck_spread 132 = .ok (.iload 7, 2) := by decide +kernel
theorem d_Ck_spread_134 : decode b_Ck_spread 134 = .ok (.iastore, 1) := by decide +kernel
theorem d_Ck_spread_135 : decode b_Ck_spread 135 = .ok (.aload_n 0, 1) := by decide +kernel
theorem d_Ck_spread_136 : decode b_Ck_spread 136 = .ok (.dup, 1) := by decide +kernel
theorem d_Ck_spread_137 : decode b_Ck_spread 137 = .ok (.getfield 230, 3) := by decide +kernel
theorem d_Ck_spread_140 : decode b_Ck_spread 140 = .ok (.iconst 1, 1) := by decide +kernel
theorem d_Ck_spread_141 : decode b_Ck_spread 141 = .ok (.iadd, 1) := by decide +kernel
theorem d_Ck_spread_142 : decode b_Ck_spread 142 = .ok (.putfield 230, 3) := by decide +kernel
theorem d_Ck_spread_145 : decode b_Ck_spread 145 = .ok (.aload_n 0, 1) := by decide +kernel
theorem d_Ck_spread_146 : decode b_Ck_spread 146 = .ok (.getfield 22, 3) := by decide +kernel
theorem d_Ck_spread_149 : decode b_Ck_spread 149 = .ok (.iload 7, 2) := by decide +kernel
theorem d_Ck_spread_151 : decode b_Ck_spread 151 = .ok (.invokevirtual 107, 3) := by decide +kernel
theorem d_Ck_spread_154 : decode b_Ck_spread 154 = .ok (.istore 7, 2) := by decide +kernel
theorem d_Ck_spread_156 : decode b_Ck_spread 156 = .ok (.iinc 8 1, 3) := by decide +kernel
theorem d_Ck_spread_159 : decode b_Ck_spread 159 = .ok (.goto (-84), 3) := by decide +kernel
theorem d_Ck_spread_162 : decode b_Ck_spread 162 = .ok (.aload_n 0, 1) := by decide +kernel
theorem d_Ck_spread_163 : decode b_Ck_spread 163 = .ok (.getfield 22, 3) := by decide +kernel
theorem d_Ck_spread_166 : decode b_Ck_spread 166 = .ok (.iload_n 3, 1) := by decide +kernel
theorem d_Ck_spread_167 : decode b_Ck_spread 167 = .ok (.invokevirtual 107, 3) := by decide +kernel
theorem d_Ck_spread_170 : decode b_Ck_spread 170 = .ok (.istore_n 3, 1) := by decide +kernel
theorem d_Ck_spread_171 : decode b_Ck_spread 171 = .ok (.iinc 4 1, 3) := by decide +kernel
theorem d_Ck_spread_174 : decode b_Ck_spread 174 = .ok (.goto (-162), 3) := by decide +kernel
theorem d_Ck_spread_177 : decode b_Ck_spread 177 = .ok (.return_, 1) := by decide +kernel
theorem d_Ck_leadsBack_0 : decode b_Ck_leadsBack 0 = .ok (.aload_n 0, 1) := by decide +kernel
theorem d_Ck_leadsBack_1 : decode b_Ck_leadsBack 1 = .ok (.iconst 0, 1) := by decide +kernel
theorem d_Ck_leadsBack_2 : decode b_Ck_leadsBack 2 = .ok (.putfield 230, 3) := by decide +kernel
theorem d_Ck_leadsBack_5 : decode b_Ck_leadsBack 5 = .ok (.aload_n 0, 1) := by decide +kernel
theorem d_Ck_leadsBack_6 : decode b_Ck_leadsBack 6 = .ok (.iload_n 1, 1) := by decide +kernel
theorem d_Ck_leadsBack_7 : decode b_Ck_leadsBack 7 = .ok (.iload_n 1, 1) := by decide +kernel
theorem d_Ck_leadsBack_8 : decode b_Ck_leadsBack 8 = .ok (.invokevirtual 233, 3) := by decide +kernel
theorem d_Ck_leadsBack_11 : decode b_Ck_leadsBack 11 = .ok (.iconst 0, 1) := by decide +kernel
theorem d_Ck_leadsBack_12 : decode b_Ck_leadsBack 12 = .ok (.istore_n 2, 1) := by decide +kernel
theorem d_Ck_leadsBack_13 : decode b_Ck_leadsBack 13 = .ok (.iload_n 2, 1) := by decide +kernel
theorem d_Ck_leadsBack_14 : decode b_Ck_leadsBack 14 = .ok (.aload_n 0, 1) := by decide +kernel
theorem d_Ck_leadsBack_15 : decode b_Ck_leadsBack 15 = .ok (.getfield 230, 3) := by decide +kernel
theorem d_Ck_leadsBack_18 : decode b_Ck_leadsBack 18 = .ok (.if_icmp .ge 32, 3) := by decide +kernel
theorem d_Ck_leadsBack_21 : decode b_Ck_leadsBack 21 = .ok (.aload_n 0, 1) := by decide +kernel
theorem d_Ck_leadsBack_22 : decode b_Ck_leadsBack 22 = .ok (.getfield 15, 3) := by decide +kernel
theorem d_Ck_leadsBack_25 : decode b_Ck_leadsBack 25 = .ok (.iload_n 2, 1) := by decide +kernel
theorem d_Ck_leadsBack_26 : decode b_Ck_leadsBack 26 = .ok (.iaload, 1) := by decide +kernel
theorem d_Ck_leadsBack_27 : decode b_Ck_leadsBack 27 = .ok (.iload_n 1, 1) := by decide +kernel
theorem d_Ck_leadsBack_28 : decode b_Ck_leadsBack 28 = .ok (.if_icmp .ne 5, 3) := by decide +kernel
theorem d_Ck_leadsBack_31 : decode b_Ck_leadsBack 31 = .ok (.iconst 1, 1) := by decide +kernel
theorem d_Ck_leadsBack_32 : decode b_Ck_leadsBack 32 = .ok (.ireturn, 1) := by decide +kernel
theorem d_Ck_leadsBack_33 : decode b_Ck_leadsBack 33 = .ok (.aload_n 0, 1) := by decide +kernel
theorem d_Ck_leadsBack_34 : decode b_Ck_leadsBack 34 = .ok (.aload_n 0, 1) := by decide +kernel
theorem d_Ck_leadsBack_35 : decode b_Ck_leadsBack 35 = .ok (.getfield 15, 3) := by decide +kernel
theorem d_Ck_leadsBack_38 : decode b_Ck_leadsBack 38 = .ok (.iload_n 2, 1) := by decide +kernel
theorem d_Ck_leadsBack_39 : decode b_Ck_leadsBack 39 = .ok (.iaload, 1) := by decide +kernel
theorem d_Ck_leadsBack_40 : decode b_Ck_leadsBack 40 = .ok (.iload_n 1, 1) := by decide +kernel
theorem d_Ck_leadsBack_41 : decode b_Ck_leadsBack 41 = .ok (.invokevirtual 233, 3) := by decide +kernel
theorem d_Ck_leadsBack_44 : decode b_Ck_leadsBack 44 = .ok (.iinc 2 1, 3) := by decide +kernel
theorem d_Ck_leadsBack_47 : decode b_Ck_leadsBack 47 = .ok (.goto (-34), 3) := by decide +kernel
theorem d_Ck_leadsBack_50 : decode b_Ck_leadsBack 50 = .ok (.iconst 0, 1) := by decide +kernel
theorem d_Ck_leadsBack_51 : decode b_Ck_leadsBack 51 = .ok (.ireturn, 1) := by decide +kernel
theorem d_Ck_findCircle_0 : decode b_Ck_findCircle 0 = .ok (.iconst 0, 1) := by decide +kernel
theorem d_Ck_findCircle_1 : decode b_Ck_findCircle 1 = .ok (.istore_n 1, 1) := by decide +kernel
theorem d_Ck_findCircle_2 : decode b_Ck_findCircle 2 = .ok (.iload_n 1, 1) := by decide +kernel
theorem d_Ck_findCircle_3 : decode b_Ck_findCircle 3 = .ok (.aload_n 0, 1) := by decide +kernel
theorem d_Ck_findCircle_4 : decode b_Ck_findCircle 4 = .ok (.getfield 22, 3) := by decide +kernel
theorem d_Ck_findCircle_7 : decode b_Ck_findCircle 7 = .ok (.invokevirtual 59, 3) := by decide +kernel
theorem d_Ck_findCircle_10 : decode b_Ck_findCircle 10 = .ok (.if_icmp .ge 40, 3) := by decide +kernel
theorem d_Ck_findCircle_13 : decode b_Ck_findCircle 13 = .ok (.aload_n 0, 1) := by decide +kernel
theorem d_Ck_findCircle_14 : decode b_Ck_findCircle 14 = .ok (.getfield 43, 3) := by decide +kernel
theorem d_Ck_findCircle_17 : decode b_Ck_findCircle 17 = .ok (.ifCond .ne 33, 3) := by decide +kernel
theorem d_Ck_findCircle_20 : decode b_Ck_findCircle 20 = .ok (.aload_n 0, 1) := by decide +kernel
theorem d_Ck_findCircle_21 : decode b_Ck_findCircle 21 = .ok (.getfield 9, 3) := by decide +kernel
theorem d_Ck_findCircle_24 : decode b_Ck_findCircle 24 = .ok (.iload_n 1, 1) := by decide +kernel
theorem d_Ck_findCircle_25 : decode b_Ck_findCircle 25 = .ok (.baload, 1) := by decide +kernel
theorem d_Ck_findCircle_26 : decode b_Ck_findCircle 26 = .ok (.ifCond .eq 18, 3) := by decide +kernel
theorem d_Ck_findCircle_29 : decode b_Ck_findCircle 29 = .ok (.aload_n 0, 1) := by decide +kernel
theorem d_Ck_findCircle_30 : decode b_Ck_findCircle 30 = .ok (.iload_n 1, 1) := by decide +kernel
theorem d_Ck_findCircle_31 : decode b_Ck_findCircle 31 = .ok (.invokevirtual 227, 3) := by decide +kernel
theorem d_Ck_findCircle_34 : decode b_Ck_findCircle 34 = .ok (.ifCond .eq 10, 3) := by decide +kernel
theorem d_Ck_findCircle_37 : decode b_Ck_findCircle 37 = .ok (.aload_n 0, 1) := by decide +kernel
theorem d_Ck_findCircle_38 : decode b_Ck_findCircle 38 = .ok (.bipush 6, 2) := by decide +kernel
theorem d_Ck_findCircle_40 : decode b_Ck_findCircle 40 = .ok (.iload_n 1, 1) := by decide +kernel
theorem d_Ck_findCircle_41 : decode b_Ck_findCircle 41 = .ok (.invokevirtual 81, 3) := by decide +kernel
theorem d_Ck_findCircle_44 : decode b_Ck_findCircle 44 = .ok (.iinc 1 1, 3) := by decide +kernel
theorem d_Ck_findCircle_47 : decode b_Ck_findCircle 47 = .ok (.goto (-45), 3) := by decide +kernel
theorem d_Ck_findCircle_50 : decode b_Ck_findCircle 50 = .ok (.return_, 1) := by decide +kernel
theorem d_Ck_inspect_0 : decode b_Ck_inspect 0 = .ok (.aload_n 0, 1) := by decide +kernel
theorem d_Ck_inspect_1 : decode b_Ck_inspect 1 = .ok (.iconst 0, 1) := by decide +kernel
theorem d_Ck_inspect_2 : decode b_Ck_inspect 2 = .ok (.putfield 43, 3) := by decide +kernel
theorem d_Ck_inspect_5 : decode b_Ck_inspect 5 = .ok (.aload_n 0, 1) := by decide +kernel
theorem d_Ck_inspect_6 : decode b_Ck_inspect 6 = .ok (.iconst (-1), 1) := by decide +kernel
theorem d_Ck_inspect_7 : decode b_Ck_inspect 7 = .ok (.putfield 47, 3) := by decide +kernel
theorem d_Ck_inspect_10 : decode b_Ck_inspect 10 = .ok (.aload_n 0, 1) := by decide +kernel
theorem d_Ck_inspect_11 : decode b_Ck_inspect 11 = .ok (.getfield 26, 3) := by decide +kernel
theorem d_Ck_inspect_14 : decode b_Ck_inspect 14 = .ok (.invokevirtual 50, 3) := by decide +kernel
theorem d_Ck_inspect_17 : decode b_Ck_inspect 17 = .ok (.aload_n 0, 1) := by decide +kernel
theorem d_Ck_inspect_18 : decode b_Ck_inspect 18 = .ok (.iconst 0, 1) := by decide +kernel
theorem d_Ck_inspect_19 : decode b_Ck_inspect 19 = .ok (.invokevirtual 55, 3) := by decide +kernel
theorem d_Ck_inspect_22 : decode b_Ck_inspect 22 = .ok (.iconst 0, 1) := by decide +kernel
theorem d_Ck_inspect_23 : decode b_Ck_inspect 23 = .ok (.istore_n 1, 1) := by decide +kernel
theorem d_Ck_inspect_24 : decode b_Ck_inspect 24 = .ok (.iload_n 1, 1) := by decide +kernel
theorem d_Ck_inspect_25 : decode b_Ck_inspect 25 = .ok (.aload_n 0, 1) := by decide +kernel
theorem d_Ck_inspect_26 : decode b_Ck_inspect 26 = .ok (.getfield 22, 3) := by decide +kernel
theorem d_Ck_inspect_29 : decode b_Ck_inspect 29 = .ok (.invokevirtual 59, 3) := by decide +kernel
theorem d_Ck_inspect_32 : decode b_Ck_inspect 32 = .ok (.if_icmp .ge 25, 3) := by decide +kernel
theorem d_Ck_inspect_35 : decode b_Ck_inspect 35 = .ok (.aload_n 0, 1) := by decide +kernel
theorem d_Ck_inspect_36 : decode b_Ck_inspect 36 = .ok (.getfield 26, 3) := by decide +kernel
theorem d_Ck_inspect_39 : decode b_Ck_inspect 39 = .ok (.iload_n 1, 1) := by decide +kernel
theorem d_Ck_inspect_40 : decode b_Ck_inspect 40 = .ok (.invokevirtual 65, 3) := by decide +kernel
theorem d_Ck_inspect_43 : decode b_Ck_inspect 43 = .ok (.ifCond .eq 8, 3) := by decide +kernel
theorem d_Ck_inspect_46 : decode b_Ck_inspect 46 = .ok (.aload_n 0, 1) := by decide +kernel
theorem d_Ck_inspect_47 : decode b_Ck_inspect 47 = .ok (.iload_n 1, 1) := by decide +kernel
theorem d_Ck_inspect_48 : decode b_Ck_inspect 48 = .ok (.invokevirtual 69, 3) := by decide +kernel
theorem d_Ck_inspect_51 : decode b_Ck_inspect 51 = .ok (.iinc 1 1, 3) := by decide +kernel
theorem d_Ck_inspect_54 : decode b_Ck_inspect 54 = .ok (.goto (-30), 3) := by decide +kernel
theorem d_Ck_inspect_57 : decode b_Ck_inspect 57 = .ok (.aload_n 0, 1) := by decide +kernel
theorem d_Ck_inspect_58 : decode b_Ck_inspect 58 = .ok (.invokevirtual 72, 3) := by decide +kernel
theorem d_Ck_inspect_61 : decode b_Ck_inspect 61 = .ok (.aload_n 0, 1) := by decide +kernel
theorem d_Ck_inspect_62 : decode b_Ck_inspect 62 = .ok (.getfield 43, 3) := by decide +kernel
theorem d_Ck_inspect_65 : decode b_Ck_inspect 65 = .ok (.ifCond .ne 7, 3) := by decide +kernel
theorem d_Ck_inspect_68 : decode b_Ck_inspect 68 = .ok (.aload_n 0, 1) := by decide +kernel
theorem d_Ck_inspect_69 : decode b_Ck_inspect 69 = .ok (.invokevirtual 75, 3) := by decide +kernel
theorem d_Ck_inspect_72 : decode b_Ck_inspect 72 = .ok (.aload_n 0, 1) := by decide +kernel
theorem d_Ck_inspect_73 : decode b_Ck_inspect 73 = .ok (.getfield 43, 3) := by decide +kernel
theorem d_Ck_inspect_76 : decode b_Ck_inspect 76 = .ok (.ifCond .ne 7, 3) := by decide +kernel
theorem d_Ck_inspect_79 : decode b_Ck_inspect 79 = .ok (.aload_n 0, 1) := by decide +kernel
theorem d_Ck_inspect_80 : decode b_Ck_inspect 80 = .ok (.invokevirtual 78, 3) := by decide +kernel
theorem d_Ck_inspect_83 : decode b_Ck_inspect 83 = .ok (.aload_n 0, 1) := by decide +kernel
theorem d_Ck_inspect_84 : decode b_Ck_inspect 84 = .ok (.getfield 43, 3) := by decide +kernel
theorem d_Ck_inspect_87 : decode b_Ck_inspect 87 = .ok (.ireturn, 1) := by decide +kernel
theorem d_SJ_check_0 : decode b_SJ_check 0 = .ok (.aload_n 0, 1) := by decide +kernel
theorem d_SJ_check_1 : decode b_SJ_check 1 = .ok (.getfield 10, 3) := by decide +kernel
theorem d_SJ_check_4 : decode b_SJ_check 4 = .ok (.invokevirtual 102, 3) := by decide +kernel
theorem d_SJ_check_7 : decode b_SJ_check 7 = .ok (.ifCond .ne 13, 3) := by decide +kernel
theorem d_SJ_check_10 : decode b_SJ_check 10 = .ok (.new 105, 3) := by decide +kernel
theorem d_SJ_check_13 : decode b_SJ_check 13 = .ok (.dup, 1) := by decide +kernel
theorem d_SJ_check_14 : decode b_SJ_check 14 = .ok (.ldc 107, 2) := by decide +kernel
theorem d_SJ_check_16 : decode b_SJ_check 16 = .ok (.invokespecial 109, 3) := by decide +kernel
theorem d_SJ_check_19 : decode b_SJ_check 19 = .ok (.athrow, 1) := by decide +kernel
theorem d_SJ_check_20 : decode b_SJ_check 20 = .ok (.aload_n 0, 1) := by decide +kernel
theorem d_SJ_check_21 : decode b_SJ_check 21 = .ok (.getfield 52, 3) := by decide +kernel
theorem d_SJ_check_24 : decode b_SJ_check 24 = .ok (.invokevirtual 110, 3) := by decide +kernel
theorem d_SJ_check_27 : decode b_SJ_check 27 = .ok (.ireturn, 1) := by decide +kernel
theorem d_Ck_faultyValue_0 : decode b_Ck_faultyValue 0 = .ok (.aload_n 0, 1) := by decide +kernel
theorem d_Ck_faultyValue_1 : decode b_Ck_faultyValue 1 = .ok (.getfield 47, 3) := by decide +kernel
theorem d_Ck_faultyValue_4 : decode b_Ck_faultyValue 4 = .ok (.ireturn, 1) := by decide +kernel
theorem d_SJ_fault_0 : decode b_SJ_fault 0 = .ok (.aload_n 0, 1) := by decide +kernel
theorem d_SJ_fault_1 : decode b_SJ_fault 1 = .ok (.getfield 52, 3) := by decide +kernel
theorem d_SJ_fault_4 : decode b_SJ_fault 4 = .ok (.invokevirtual 113, 3) := by decide +kernel
theorem d_SJ_fault_7 : decode b_SJ_fault 7 = .ok (.ireturn, 1) := by decide +kernel
theorem d_Ck_passed_0 : decode b_Ck_passed 0 = .ok (.aload_n 0, 1) := by decide +kernel
theorem d_Ck_passed_1 : decode b_Ck_passed 1 = .ok (.getfield 43, 3) := by decide +kernel
theorem d_Ck_passed_4 : decode b_Ck_passed 4 = .ok (.ifCond .ne 7, 3) := by decide +kernel
theorem d_Ck_passed_7 : decode b_Ck_passed 7 = .ok (.iconst 1, 1) := by decide +kernel
theorem d_Ck_passed_8 : decode b_Ck_passed 8 = .ok (.goto 4, 3) := by decide +kernel
theorem d_Ck_passed_11 : decode b_Ck_passed 11 = .ok (.iconst 0, 1) := by decide +kernel
theorem d_Ck_passed_12 : decode b_Ck_passed 12 = .ok (.ireturn, 1) := by decide +kernel
theorem d_Pr_cut_0 : decode b_Pr_cut 0 = .ok (.iload_n 1, 1) := by decide +kernel
theorem d_Pr_cut_1 : decode b_Pr_cut 1 = .ok (.ifCond .lt 16, 3) := by decide +kernel
theorem d_Pr_cut_4 : decode b_Pr_cut 4 = .ok (.iload_n 1, 1) := by decide +kernel
theorem d_Pr_cut_5 : decode b_Pr_cut 5 = .ok (.aload_n 0, 1) := by decide +kernel
theorem d_Pr_cut_6 : decode b_Pr_cut 6 = .ok (.getfield 18, 3) := by decide +kernel
theorem d_Pr_cut_9 : decode b_Pr_cut 9 = .ok (.if_icmp .ge 8, 3) := by decide +kernel
theorem d_Pr_cut_12 : decode b_Pr_cut 12 = .ok (.aload_n 0, 1) := by decide +kernel
theorem d_Pr_cut_13 : decode b_Pr_cut 13 = .ok (.iload_n 1, 1) := by decide +kernel
theorem d_Pr_cut_14 : decode b_Pr_cut 14 = .ok (.putfield 18, 3) := by decide +kernel
theorem d_Pr_cut_17 : decode b_Pr_cut 17 = .ok (.return_, 1) := by decide +kernel
theorem d_Jd_begin_0 : decode b_Jd_begin 0 = .ok (.aload_n 0, 1) := by decide +kernel
theorem d_Jd_begin_1 : decode b_Jd_begin 1 = .ok (.getfield 44, 3) := by decide +kernel
theorem d_Jd_begin_4 : decode b_Jd_begin 4 = .ok (.iconst 0, 1) := by decide +kernel
theorem d_Jd_begin_5 : decode b_Jd_begin 5 = .ok (.invokevirtual 48, 3) := by decide +kernel
theorem d_Jd_begin_8 : decode b_Jd_begin 8 = .ok (.aload_n 0, 1) := by decide +kernel
theorem d_Jd_begin_9 : decode b_Jd_begin 9 = .ok (.iconst 0, 1) := by decide +kernel
theorem d_Jd_begin_10 : decode b_Jd_begin 10 = .ok (.putfield 52, 3) := by decide +kernel
theorem d_Jd_begin_13 : decode b_Jd_begin 13 = .ok (.aload_n 0, 1) := by decide +kernel
theorem d_Jd_begin_14 : decode b_Jd_begin 14 = .ok (.iconst 0, 1) := by decide +kernel
theorem d_Jd_begin_15 : decode b_Jd_begin 15 = .ok (.putfield 56, 3) := by decide +kernel
theorem d_Jd_begin_18 : decode b_Jd_begin 18 = .ok (.aload_n 0, 1) := by decide +kernel
theorem d_Jd_begin_19 : decode b_Jd_begin 19 = .ok (.iconst 0, 1) := by decide +kernel
theorem d_Jd_begin_20 : decode b_Jd_begin 20 = .ok (.putfield 60, 3) := by decide +kernel
theorem d_Jd_begin_23 : decode b_Jd_begin 23 = .ok (.aload_n 0, 1) := by decide +kernel
theorem d_Jd_begin_24 : decode b_Jd_begin 24 = .ok (.iconst 0, 1) := by decide +kernel
theorem d_Jd_begin_25 : decode b_Jd_begin 25 = .ok (.putfield 63, 3) := by decide +kernel
theorem d_Jd_begin_28 : decode b_Jd_begin 28 = .ok (.return_, 1) := by decide +kernel
theorem d_Jd_enter_0 : decode b_Jd_enter 0 = .ok (.aload_n 0, 1) := by decide +kernel
theorem d_Jd_enter_1 : decode b_Jd_enter 1 = .ok (.dup, 1) := by decide +kernel
theorem d_Jd_enter_2 : decode b_Jd_enter 2 = .ok (.getfield 60, 3) := by decide +kernel
theorem d_Jd_enter_5 : decode b_Jd_enter 5 = .ok (.iconst 1, 1) := by decide +kernel
theorem d_Jd_enter_6 : decode b_Jd_enter 6 = .ok (.iadd, 1) := by decide +kernel
theorem d_Jd_enter_7 : decode b_Jd_enter 7 = .ok (.putfield 60, 3) := by decide +kernel
theorem d_Jd_enter_10 : decode b_Jd_enter 10 = .ok (.iload_n 1, 1) := by decide +kernel
theorem d_Jd_enter_11 : decode b_Jd_enter 11 = .ok (.iconst 1, 1) := by decide +kernel
theorem d_Jd_enter_12 : decode b_Jd_enter 12 = .ok (.if_icmp .lt 19, 3) := by decide +kernel
theorem d_Jd_enter_15 : decode b_Jd_enter 15 = .ok (.iload_n 1, 1) := by decide +kernel
theorem d_Jd_enter_16 : decode b_Jd_enter 16 = .ok (.bipush 100, 2) := by decide +kernel
theorem d_Jd_enter_18 : decode b_Jd_enter 18 = .ok (.if_icmp .gt 13, 3) := by decide +kernel
theorem d_Jd_enter_21 : decode b_Jd_enter 21 = .ok (.aload_n 0, 1) := by decide +kernel
theorem d_Jd_enter_22 : decode b_Jd_enter 22 = .ok (.getfield 60, 3) := by decide +kernel
theorem d_Jd_enter_25 : decode b_Jd_enter 25 = .ok (.sipush 20000, 3) := by decide +kernel
theorem d_Jd_enter_28 : decode b_Jd_enter 28 = .ok (.if_icmp .le 10, 3) := by decide +kernel
theorem d_Jd_enter_31 : decode b_Jd_enter 31 = .ok (.aload_n 0, 1) := by decide +kernel
theorem d_Jd_enter_32 : decode b_Jd_enter 32 = .ok (.iconst 1, 1) := by decide +kernel
theorem d_Jd_enter_33 : decode b_Jd_enter 33 = .ok (.putfield 56, 3) := by decide +kernel
theorem d_Jd_enter_36 : decode b_Jd_enter 36 = .ok (.iconst 0, 1) := by decide +kernel
theorem d_Jd_enter_37 : decode b_Jd_enter 37 = .ok (.ireturn, 1) := by decide +kernel
theorem d_Jd_enter_38 : decode b_Jd_enter 38 = .ok (.aload_n 0, 1) := by decide +kernel
theorem d_Jd_enter_39 : decode b_Jd_enter 39 = .ok (.aload_n 0, 1) := by decide +kernel
theorem d_Jd_enter_40 : decode b_Jd_enter 40 = .ok (.getfield 63, 3) := by decide +kernel
theorem d_Jd_enter_43 : decode b_Jd_enter 43 = .ok (.iload_n 1, 1) := by decide +kernel
theorem d_Jd_enter_44 : decode b_Jd_enter 44 = .ok (.invokestatic 81, 3) := by decide +kernel
theorem d_Jd_enter_47 : decode b_Jd_enter 47 = .ok (.putfield 63, 3) := by decide +kernel
theorem d_Jd_enter_50 : decode b_Jd_enter 50 = .ok (.aload_n 0, 1) := by decide +kernel
theorem d_Jd_enter_51 : decode b_Jd_enter 51 = .ok (.getfield 9, 3) := by decide +kernel
theorem d_Jd_enter_54 : decode b_Jd_enter 54 = .ok (.iload_n 1, 1) := by decide +kernel
theorem d_Jd_enter_55 : decode b_Jd_enter 55 = .ok (.lconst 0, 1) := by decide +kernel
theorem d_Jd_enter_56 : decode b_Jd_enter 56 = .ok (.lastore, 1) := by decide +kernel
theorem d_Jd_enter_57 : decode b_Jd_enter 57 = .ok (.iconst 1, 1) := by decide +kernel
theorem d_Jd_enter_58 : decode b_Jd_enter 58 = .ok (.ireturn, 1) := by decide +kernel
theorem d_Pr_add_0 : decode b_Pr_add 0 = .ok (.aload_n 0, 1) := by decide +kernel
theorem d_Pr_add_1 : decode b_Pr_add 1 = .ok (.getfield 18, 3) := by decide +kernel
theorem d_Pr_add_4 : decode b_Pr_add 4 = .ok (.sipush 300, 3) := by decide +kernel
theorem d_Pr_add_7 : decode b_Pr_add 7 = .ok (.if_icmp .lt 4, 3) := by decide +kernel
theorem d_Pr_add_10 : decode b_Pr_add 10 = .ok (.return_, 1) := by decide +kernel
theorem d_Pr_add_11 : decode b_Pr_add 11 = .ok (.iconst 0, 1) := by decide +kernel
theorem d_Pr_add_12 : decode b_Pr_add 12 = .ok (.istore_n 3, 1) := by decide +kernel
theorem d_Pr_add_13 : decode b_Pr_add 13 = .ok (.iload_n 3, 1) := by decide +kernel
theorem d_Pr_add_14 : decode b_Pr_add 14 = .ok (.aload_n 0, 1) := by decide +kernel
theorem d_Pr_add_15 : decode b_Pr_add 15 = .ok (.getfield 18, 3) := by decide +kernel
theorem d_Pr_add_18 : decode b_Pr_add 18 = .ok (.if_icmp .ge 30, 3) := by decide +kernel
theorem d_Pr_add_21 : decode b_Pr_add 21 = .ok (.aload_n 0, 1) := by decide +kernel
theorem d_Pr_add_22 : decode b_Pr_add 22 = .ok (.getfield 9, 3) := by decide +kernel
theorem d_Pr_add_25 : decode b_Pr_add 25 = .ok (.iload_n 3, 1) := by decide +kernel
theorem d_Pr_add_26 : decode b_Pr_add 26 = .ok (.iaload, 1) := by decide +kernel
theorem d_Pr_add_27 : decode b_Pr_add 27 = .ok (.iload_n 1, 1) := by decide +kernel
theorem d_Pr_add_28 : decode b_Pr_add 28 = .ok (.if_icmp .ne 14, 3) := by decide +kernel
theorem d_Pr_add_31 : decode b_Pr_add 31 = .ok (.aload_n 0, 1) := by decide +kernel
theorem d_Pr_add_32 : decode b_Pr_add 32 = .ok (.getfield 15, 3) := by decide +kernel
theorem d_Pr_add_35 : decode b_Pr_add 35 = .ok (.iload_n 3, 1) := by decide +kernel
theorem d_Pr_add_36 : decode b_Pr_add 36 = .ok (.iaload, 1) := by decide +kernel
theorem d_Pr_add_37 : decode b_Pr_add 37 = .ok (.iload_n 2, 1) := by decide +kernel
theorem d_Pr_add_38 : decode b_Pr_add 38 = .ok (.if_icmp .ne 4, 3) := by decide +kernel
theorem d_Pr_add_41 : decode b_Pr_add 41 = .ok (.return_, 1) := by decide +kernel
theorem d_Pr_add_42 : decode b_Pr_add 42 = .ok (.iinc 3 1, 3) := by decide +kernel
theorem d_Pr_add_45 : decode b_Pr_add 45 = .ok (.goto (-32), 3) := by decide +kernel
theorem d_Pr_add_48 : decode b_Pr_add 48 = .ok (.aload_n 0, 1) := by decide +kernel
theorem d_Pr_add_49 : decode b_Pr_add 49 = .ok (.getfield 9, 3) := by decide +kernel
theorem d_Pr_add_52 : decode b_Pr_add 52 = .ok (.aload_n 0, 1) := by decide +kernel
theorem d_Pr_add_53 : decode b_Pr_add 53 = .ok (.getfield 18, 3) := by decide +kernel
theorem d_Pr_add_56 : decode b_Pr_add 56 = .ok (.iload_n 1, 1) := by decide +kernel
theorem d_Pr_add_57 : decode b_Pr_add 57 = .ok (.iastore, 1) := by decide +kernel
theorem d_Pr_add_58 : decode b_Pr_add 58 = .ok (.aload_n 0, 1) := by decide +kernel
theorem d_Pr_add_59 : decode b_Pr_add 59 = .ok (.getfield 15, 3) := by decide +kernel
theorem d_Pr_add_62 : decode b_Pr_add 62 = .ok (.aload_n 0, 1) := by decide +kernel
theorem d_Pr_add_63 : decode b_Pr_add 63 = .ok (.getfield 18, 3) := by decide +kernel
theorem d_Pr_add_66 : decode b_Pr_add 66 = .ok (.iload_n 2, 1) := by decide +kernel
theorem d_Pr_add_67 : decode b_Pr_add 67 = .ok (.iastore, 1) := by decide +kernel
theorem d_Pr_add_68 : decode b_Pr_add 68 = .ok (.aload_n 0, 1) := by decide +kernel
theorem d_Pr_add_69 : decode b_Pr_add 69 = .ok (.dup, 1) := by decide +kernel
theorem d_Pr_add_70 : decode b_Pr_add 70 = .ok (.getfield 18, 3) := by decide +kernel
theorem d_Pr_add_73 : decode b_Pr_add 73 = .ok (.iconst 1, 1) := by decide +kernel
theorem d_Pr_add_74 : decode b_Pr_add 74 = .ok (.iadd, 1) := by decide +kernel
theorem d_Pr_add_75 : decode b_Pr_add 75 = .ok (.putfield 18, 3) := by decide +kernel
theorem d_Pr_add_78 : decode b_Pr_add 78 = .ok (.return_, 1) := by decide +kernel
theorem d_Jd_tell_0 : decode b_Jd_tell 0 = .ok (.aload_n 0, 1) := by decide +kernel
theorem d_Jd_tell_1 : decode b_Jd_tell 1 = .ok (.getfield 52, 3) := by decide +kernel
theorem d_Jd_tell_4 : decode b_Jd_tell 4 = .ok (.ifCond .ne 12, 3) := by decide +kernel
theorem d_Jd_tell_7 : decode b_Jd_tell 7 = .ok (.aload_n 0, 1) := by decide +kernel
theorem d_Jd_tell_8 : decode b_Jd_tell 8 = .ok (.getfield 44, 3) := by decide +kernel
theorem d_Jd_tell_11 : decode b_Jd_tell 11 = .ok (.iload_n 1, 1) := by decide +kernel
theorem d_Jd_tell_12 : decode b_Jd_tell 12 = .ok (.iload_n 2, 1) := by decide +kernel
theorem d_Jd_tell_13 : decode b_Jd_tell 13 = .ok (.invokevirtual 77, 3) := by decide +kernel
theorem d_Jd_tell_16 : decode b_Jd_tell 16 = .ok (.return_, 1) := by decide +kernel
theorem d_Kw_comesLast_0 : decode b_Kw_comesLast 0 = .ok (.aload_n 0, 1) := by decide +kernel
theorem d_Kw_comesLast_1 : decode b_Kw_comesLast 1 = .ok (.getstatic 33, 3) := by decide +kernel
theorem d_Kw_comesLast_4 : decode b_Kw_comesLast 4 = .ok (.if_acmp .eq 10, 3) := by decide +kernel
theorem d_Kw_comesLast_7 : decode b_Kw_comesLast 7 = .ok (.aload_n 0, 1) := by decide +kernel
theorem d_Kw_comesLast_8 : decode b_Kw_comesLast 8 = .ok (.getstatic 36, 3) := by decide +kernel
theorem d_Kw_comesLast_11 : decode b_Kw_comesLast 11 = .ok (.if_acmp .ne 7, 3) := by decide +kernel
theorem d_Kw_comesLast_14 : decode b_Kw_comesLast 14 = .ok (.iconst 1, 1) := by decide +kernel
theorem d_Kw_comesLast_15 : decode b_Kw_comesLast 15 = .ok (.goto 4, 3) := by decide +kernel
theorem d_Kw_comesLast_18 : decode b_Kw_comesLast 18 = .ok (.iconst 0, 1) := by decide +kernel
theorem d_Kw_comesLast_19 : decode b_Kw_comesLast 19 = .ok (.ireturn, 1) := by decide +kernel
theorem d_Pr_size_0 : decode b_Pr_size 0 = .ok (.aload_n 0, 1) := by decide +kernel
theorem d_Pr_size_1 : decode b_Pr_size 1 = .ok (.getfield 18, 3) := by decide +kernel
theorem d_Pr_size_4 : decode b_Pr_size 4 = .ok (.ireturn, 1) := by decide +kernel
theorem d_Kw_isSilent_0 : decode b_Kw_isSilent 0 = .ok (.aload_n 0, 1) := by decide +kernel
theorem d_Kw_isSilent_1 : decode b_Kw_isSilent 1 = .ok (.getstatic 9, 3) := by decide +kernel
theorem d_Kw_isSilent_4 : decode b_Kw_isSilent 4 = .ok (.if_acmp .eq 17, 3) := by decide +kernel
theorem d_Kw_isSilent_7 : decode b_Kw_isSilent 7 = .ok (.aload_n 0, 1) := by decide +kernel
theorem d_Kw_isSilent_8 : decode b_Kw_isSilent 8 = .ok (.getstatic 12, 3) := by decide +kernel
theorem d_Kw_isSilent_11 : decode b_Kw_isSilent 11 = .ok (.if_acmp .eq 10, 3) := by decide +kernel
theorem d_Kw_isSilent_14 : decode b_Kw_isSilent 14 = .ok (.aload_n 0, 1) := by decide +kernel
theorem d_Kw_isSilent_15 : decode b_Kw_isSilent 15 = .ok (.getstatic 24, 3) := by decide +kernel
theorem d_Kw_isSilent_18 : decode b_Kw_isSilent 18 = .ok (.if_acmp .ne 7, 3) := by decide +kernel
theorem d_Kw_isSilent_21 : decode b_Kw_isSilent 21 = .ok (.iconst 1, 1) := by decide +kernel
theorem d_Kw_isSilent_22 : decode b_Kw_isSilent 22 = .ok (.goto 4, 3) := by decide +kernel
theorem d_Kw_isSilent_25 : decode b_Kw_isSilent 25 = .ok (.iconst 0, 1) := by decide +kernel
theorem d_Kw_isSilent_26 : decode b_Kw_isSilent 26 = .ok (.ireturn, 1) := by decide +kernel
theorem d_Mk_find_0 : decode b_Mk_find 0 = .ok (.aload_n 0, 1) := by decide +kernel
theorem d_Mk_find_1 : decode b_Mk_find 1 = .ok (.getfield 22, 3) := by decide +kernel
theorem d_Mk_find_4 : decode b_Mk_find 4 = .ok (.iload_n 1, 1) := by decide +kernel
theorem d_Mk_find_5 : decode b_Mk_find 5 = .ok (.invokevirtual 42, 3) := by decide +kernel
theorem d_Mk_find_8 : decode b_Mk_find 8 = .ok (.istore_n 3, 1) := by decide +kernel
theorem d_Mk_find_9 : decode b_Mk_find 9 = .ok (.iconst 0, 1) := by decide +kernel
theorem d_Mk_find_10 : decode b_Mk_find 10 = .ok (.istore 4, 2) := by decide +kernel
theorem d_Mk_find_12 : decode b_Mk_find 12 = .ok (.iload 4, 2) := by decide +kernel
theorem d_Mk_find_14 : decode b_Mk_find 14 = .ok (.aload_n 0, 1) := by decide +kernel
theorem d_Mk_find_15 : decode b_Mk_find 15 = .ok (.getfield 22, 3) := by decide +kernel
theorem d_Mk_find_18 : decode b_Mk_find 18 = .ok (.iload_n 1, 1) := by decide +kernel
theorem d_Mk_find_19 : decode b_Mk_find 19 = .ok (.invokevirtual 45, 3) := by decide +kernel
theorem d_Mk_find_22 : decode b_Mk_find 22 = .ok (.if_icmp .ge 29, 3) := by decide +kernel
theorem d_Mk_find_25 : decode b_Mk_find 25 = .ok (.aload_n 0, 1) := by decide +kernel
theorem d_Mk_find_26 : decode b_Mk_find 26 = .ok (.iload_n 3, 1) := by decide +kernel
theorem d_Mk_find_27 : decode b_Mk_find 27 = .ok (.invokevirtual 48, 3) := by decide +kernel
theorem d_Mk_find_30 : decode b_Mk_find 30 = .ok (.aload_n 2, 1) := by decide +kernel
theorem d_Mk_find_31 : decode b_Mk_find 31 = .ok (.if_acmp .ne 5, 3) := by decide +kernel
theorem d_Mk_find_34 : decode b_Mk_find 34 = .ok (.iload_n 3, 1) := by decide +kernel
theorem d_Mk_find_35 : decode b_Mk_find 35 = .ok (.ireturn, 1) := by decide +kernel
theorem d_Mk_find_36 : decode b_Mk_find 36 = .ok (.aload_n 0, 1) := by decide +kernel
theorem d_Mk_find_37 : decode b_Mk_find 37 = .ok (.getfield 22, 3) := by decide +kernel
theorem d_Mk_find_40 : decode b_Mk_find 40 = .ok (.iload_n 3, 1) := by decide +kernel
theorem d_Mk_find_41 : decode b_Mk_find 41 = .ok (.invokevirtual 51, 3) := by decide +kernel
theorem d_Mk_find_44 : decode b_Mk_find 44 = .ok (.istore_n 3, 1) := by decide +kernel
theorem d_Mk_find_45 : decode b_Mk_find 45 = .ok (.iinc 4 1, 3) := by decide +kernel
theorem d_Mk_find_48 : decode b_Mk_find 48 = .ok (.goto (-36), 3) := by decide +kernel
theorem d_Mk_find_51 : decode b_Mk_find 51 = .ok (.iconst (-1), 1) := by decide +kernel
theorem d_Mk_find_52 : decode b_Mk_find 52 = .ok (.ireturn, 1) := by decide +kernel
theorem d_Pg_push_0 : decode b_Pg_push 0 = .ok (.iload_n 1, 1) := by decide +kernel
theorem d_Pg_push_1 : decode b_Pg_push 1 = .ok (.ifCond .lt 57, 3) := by decide +kernel
theorem d_Pg_push_4 : decode b_Pg_push 4 = .ok (.iload_n 1, 1) := by decide +kernel
theorem d_Pg_push_5 : decode b_Pg_push 5 = .ok (.sipush 1300, 3) := by decide +kernel
theorem d_Pg_push_8 : decode b_Pg_push 8 = .ok (.if_icmp .ge 50, 3) := by decide +kernel
theorem d_Pg_push_11 : decode b_Pg_push 11 = .ok (.aload_n 0, 1) := by decide +kernel
theorem d_Pg_push_12 : decode b_Pg_push 12 = .ok (.getfield 21, 3) := by decide +kernel
theorem d_Pg_push_15 : decode b_Pg_push 15 = .ok (.iload_n 1, 1) := by decide +kernel
theorem d_Pg_push_16 : decode b_Pg_push 16 = .ok (.iaload, 1) := by decide +kernel
theorem d_Pg_push_17 : decode b_Pg_push 17 = .ok (.iload_n 2, 1) := by decide +kernel
theorem d_Pg_push_18 : decode b_Pg_push 18 = .ok (.if_icmp .eq 40, 3) := by decide +kernel
theorem d_Pg_push_21 : decode b_Pg_push 21 = .ok (.aload_n 0, 1) := by decide +kernel
theorem d_Pg_push_22 : decode b_Pg_push 22 = .ok (.getfield 73, 3) := by decide +kernel
theorem d_Pg_push_25 : decode b_Pg_push 25 = .ok (.sipush 1300, 3) := by decide +kernel
theorem d_Pg_push_28 : decode b_Pg_push 28 = .ok (.if_icmp .ge 30, 3) := by decide +kernel
theorem d_Pg_push_31 : decode b_Pg_push 31 = .ok (.aload_n 0, 1) := by decide +kernel
theorem d_Pg_push_32 : decode b_Pg_push 32 = .ok (.getfield 21, 3) := by decide +kernel
theorem d_Pg_push_35 : decode b_Pg_push 35 = .ok (.iload_n 1, 1) := by decide +kernel
theorem d_Pg_push_36 : decode b_Pg_push 36 = .ok (.iload_n 2, 1) := by decide +kernel
theorem d_Pg_push_37 : decode b_Pg_push 37 = .ok (.iastore, 1) := by decide +kernel
theorem d_Pg_push_38 : decode b_Pg_push 38 = .ok (.aload_n 0, 1) := by decide +kernel
theorem d_Pg_push_39 : decode b_Pg_push 39 = .ok (.getfield 24, 3) := by decide +kernel
theorem d_Pg_push_42 : decode b_Pg_push 42 = .ok (.aload_n 0, 1) := by decide +kernel
theorem d_Pg_push_43 : decode b_Pg_push 43 = .ok (.getfield 73, 3) := by decide +kernel
theorem d_Pg_push_46 : decode b_Pg_push 46 = .ok (.iload_n 1, 1) := by decide +kernel
theorem d_Pg_push_47 : decode b_Pg_push 47 = .ok (.iastore, 1) := by decide +kernel
theorem d_Pg_push_48 : decode b_Pg_push 48 = .ok (.aload_n 0, 1) := by decide +kernel
theorem d_Pg_push_49 : decode b_Pg_push 49 = .ok (.dup, 1) := by decide +kernel
theorem d_Pg_push_50 : decode b_Pg_push 50 = .ok (.getfield 73, 3) := by decide +kernel
theorem d_Pg_push_53 : decode b_Pg_push 53 = .ok (.iconst 1, 1) := by decide +kernel
theorem d_Pg_push_54 : decode b_Pg_push 54 = .ok (.iadd, 1) := by decide +kernel
theorem d_Pg_push_55 : decode b_Pg_push 55 = .ok (.putfield 73, 3) := by decide +kernel
theorem d_Pg_push_58 : decode b_Pg_push 58 = .ok (.return_, 1) := by decide +kernel
theorem d_Pg_follow_0 : decode b_Pg_follow 0 = .ok (.iload_n 1, 1) := by decide +kernel
theorem d_Pg_follow_1 : decode b_Pg_follow 1 = .ok (.iconst 1, 1) := by decide +kernel
theorem d_Pg_follow_2 : decode b_Pg_follow 2 = .ok (.iadd, 1) := by decide +kernel
theorem d_Pg_follow_3 : decode b_Pg_follow 3 = .ok (.istore_n 3, 1) := by decide +kernel
theorem d_Pg_follow_4 : decode b_Pg_follow 4 = .ok (.iconst 0, 1) := by decide +kernel
theorem d_Pg_follow_5 : decode b_Pg_follow 5 = .ok (.istore 4, 2) := by decide +kernel
theorem d_Pg_follow_7 : decode b_Pg_follow 7 = .ok (.iload 4, 2) := by decide +kernel
theorem d_Pg_follow_9 : decode b_Pg_follow 9 = .ok (.sipush 1300, 3) := by decide +kernel
theorem d_Pg_follow_12 : decode b_Pg_follow 12 = .ok (.if_icmp .ge 199, 3) := by decide +kernel
theorem d_Pg_follow_15 : decode b_Pg_follow 15 = .ok (.aload_n 0, 1) := by decide +kernel
theorem d_Pg_follow_16 : decode b_Pg_follow 16 = .ok (.getfield 73, 3) := by decide +kernel
theorem d_Pg_follow_19 : decode b_Pg_follow 19 = .ok (.ifCond .le 192, 3) := by decide +kernel
theorem d_Pg_follow_22 : decode b_Pg_follow 22 = .ok (.aload_n 0, 1) := by decide +kernel
theorem d_Pg_follow_23 : decode b_Pg_follow 23 = .ok (.dup, 1) := by decide +kernel
theorem d_Pg_follow_24 : decode b_Pg_follow 24 = .ok (.getfield 73, 3) := by decide +kernel
theorem d_Pg_follow_27 : decode b_Pg_follow 27 = .ok (.iconst 1, 1) := by decide +kernel
theorem d_Pg_follow_28 : decode b_Pg_follow 28 = .ok (.isub, 1) := by decide +kernel
theorem d_Pg_follow_29 : decode b_Pg_follow 29 = .ok (.putfield 73, 3) := by decide +kernel
theorem d_Pg_follow_32 : decode b_Pg_follow 32 = .ok (.aload_n 0, 1) := by decide +kernel
theorem d_Pg_follow_33 : decode b_Pg_follow 33 = .ok (.getfield 24, 3) := by decide +kernel
theorem d_Pg_follow_36 : decode b_Pg_follow 36 = .ok (.aload_n 0, 1) := by decide +kernel
theorem d_Pg_follow_37 : decode b_Pg_follow 37 = .ok (.getfield 73, 3) := by decide +kernel
theorem d_Pg_follow_40 : decode b_Pg_follow 40 = .ok (.iaload, 1) := by decide +kernel
theorem d_Pg_follow_41 : decode b_Pg_follow 41 = .ok (.istore 5, 2) := by decide +kernel
theorem d_Pg_follow_43 : decode b_Pg_follow 43 = .ok (.aload_n 0, 1) := by decide +kernel
theorem d_Pg_follow_44 : decode b_Pg_follow 44 = .ok (.getfield 9, 3) := by decide +kernel
theorem d_Pg_follow_47 : decode b_Pg_follow 47 = .ok (.iload 5, 2) := by decide +kernel
theorem d_Pg_follow_49 : decode b_Pg_follow 49 = .ok (.iaload, 1) := by decide +kernel
theorem d_Pg_follow_50 : decode b_Pg_follow 50 = .ok (.tableswitch 122 4 8 #[81, 101, 54, 36, 34], 34) := by decide +kernel
theorem d_Pg_follow_84 : decode b_Pg_follow 84 = .ok (.iconst 1, 1) := by decide +kernel
theorem d_Pg_follow_85 : decode b_Pg_follow 85 = .ok (.ireturn, 1) := by decide +kernel
theorem d_Pg_follow_86 : decode b_Pg_follow 86 = .ok (.aload_n 0, 1) := by decide +kernel
theorem d_Pg_follow_87 : decode b_Pg_follow 87 = .ok (.iload 5, 2) := by decide +kernel
theorem d_Pg_follow_89 : decode b_Pg_follow 89 = .ok (.aload_n 0, 1) := by decide +kernel
theorem d_Pg_follow_90 : decode b_Pg_follow 90 = .ok (.getfield 15, 3) := by decide +kernel
theorem d_Pg_follow_93 : decode b_Pg_follow 93 = .ok (.iload 5, 2) := by decide +kernel
theorem d_Pg_follow_95 : decode b_Pg_follow 95 = .ok (.iaload, 1) := by decide +kernel
theorem d_Pg_follow_96 : decode b_Pg_follow 96 = .ok (.iadd, 1) := by decide +kernel
theorem d_Pg_follow_97 : decode b_Pg_follow 97 = .ok (.iload_n 3, 1) := by decide +kernel
theorem d_Pg_follow_98 : decode b_Pg_follow 98 = .ok (.invokevirtual 76, 3) := by decide +kernel
theorem d_Pg_follow_101 : decode b_Pg_follow 101 = .ok (.goto 104, 3) := by decide +kernel
theorem d_Pg_follow_104 : decode b_Pg_follow 104 = .ok (.aload_n 0, 1) := by decide +kernel
theorem d_Pg_follow_105 : decode b_Pg_follow 105 = .ok (.iload 5, 2) := by decide +kernel
theorem d_Pg_follow_107 : decode b_Pg_follow 107 = .ok (.iconst 1, 1) := by decide +kernel
theorem d_Pg_follow_108 : decode b_Pg_follow 108 = .ok (.iadd, 1) := by decide +kernel
theorem d_Pg_follow_109 : decode b_Pg_follow 109 = .ok (.iload_n 3, 1) := by decide +kernel
theorem d_Pg_follow_110 : decode b_Pg_follow 110 = .ok (.invokevirtual 76, 3) := by decide +kernel
theorem d_Pg_follow_113 : decode b_Pg_follow 113 = .ok (.aload_n 0, 1) := by decide +kernel
theorem d_Pg_follow_114 : decode b_Pg_follow 114 = .ok (.iload 5, 2) := by decide +kernel
theorem d_Pg_follow_116 : decode b_Pg_follow 116 = .ok (.aload_n 0, 1) := by decide +kernel
theorem d_Pg_follow_117 : decode b_Pg_follow 117 = .ok (.getfield 15, 3) := by decide +kernel
theorem d_Pg_follow_120 : decode b_Pg_follow 120 = .ok (.iload 5, 2) := by decide +kernel
theorem d_Pg_follow_122 : decode b_Pg_follow 122 = .ok (.iaload, 1) := by decide +kernel
theorem d_Pg_follow_123 : decode b_Pg_follow 123 = .ok (.iadd, 1) := by decide +kernel
theorem d_Pg_follow_124 : decode b_Pg_follow 124 = .ok (.iload_n 3, 1) := by decide +kernel
theorem d_Pg_follow_125 : decode b_Pg_follow 125 = .ok (.invokevirtual 76, 3) := by decide +kernel
theorem d_Pg_follow_128 : decode b_Pg_follow 128 = .ok (.goto 77, 3) := by decide +kernel
theorem d_Pg_follow_131 : decode b_Pg_follow 131 = .ok (.aload_n 0, 1) := by decide +kernel
theorem d_Pg_follow_132 : decode b_Pg_follow 132 = .ok (.iload_n 1, 1) := by decide +kernel
theorem d_Pg_follow_133 : decode b_Pg_follow 133 = .ok (.ifCond .ne 10, 3) := by decide +kernel
theorem d_Pg_follow_136 : decode b_Pg_follow 136 = .ok (.iload 5, 2) := by decide +kernel
theorem d_Pg_follow_138 : decode b_Pg_follow 138 = .ok (.iconst 1, 1) := by decide +kernel
theorem d_Pg_follow_139 : decode b_Pg_follow 139 = .ok (.iadd, 1) := by decide +kernel
theorem d_Pg_follow_140 : decode b_Pg_follow 140 = .ok (.goto 4, 3) := by decide +kernel
theorem d_Pg_follow_143 : decode b_Pg_follow 143 = .ok (.iconst (-1), 1) := by decide +kernel
theorem d_Pg_follow_144 : decode b_Pg_follow 144 = .ok (.iload_n 3, 1) := by decide +kernel
theorem d_Pg_follow_145 : decode b_Pg_follow 145 = .ok (.invokevirtual 76, 3) := by decide +kernel
theorem d_Pg_follow_148 : decode b_Pg_follow 148 = .ok (.goto 57, 3) := by decide +kernel
theorem d_Pg_follow_151 : decode b_Pg_follow 151 = .ok (.aload_n 0, 1) := by decide +kernel
theorem d_Pg_follow_152 : decode b_Pg_follow 152 = .ok (.iload_n 1, 1) := by decide +kernel
theorem d_Pg_follow_153 : decode b_Pg_follow 153 = .ok (.iload_n 2, 1) := by decide +kernel
theorem d_Pg_follow_154 : decode b_Pg_follow 154 = .ok (.if_icmp .ne 10, 3) := by decide +kernel
theorem d_Pg_follow_157 : decode b_Pg_follow 157 = .ok (.iload 5, 2) := by decide +kernel
theorem d_Pg_follow_159 : decode b_Pg_follow 159 = .ok (.iconst 1, 1) := by decide +kernel
theorem d_Pg_follow_160 : decode b_Pg_follow 160 = .ok (.iadd, 1) := by decide +kernel
theorem d_Pg_follow_161 : decode b_Pg_follow 161 = .ok (.goto 4, 3) := by decide +kernel
theorem d_Pg_follow_164 : decode b_Pg_follow 164 = .ok (.iconst (-1), 1) := by decide +kernel
theorem d_Pg_follow_165 : decode b_Pg_follow 165 = .ok (.iload_n 3, 1) := by decide +kernel
theorem d_Pg_follow_166 : decode b_Pg_follow 166 = .ok (.invokevirtual 76, 3) := by decide +kernel
theorem d_Pg_follow_169 : decode b_Pg_follow 169 = .ok (.goto 36, 3) := by decide +kernel
theorem d_Pg_follow_172 : decode b_Pg_follow 172 = .ok (.aload_n 0, 1) := by decide +kernel
theorem d_Pg_follow_173 : decode b_Pg_follow 173 = .ok (.getfield 70, 3) := by decide +kernel
theorem d_Pg_follow_176 : decode b_Pg_follow 176 = .ok (.aload_n 0, 1) := by decide +kernel
theorem d_Pg_follow_177 : decode b_Pg_follow 177 = .ok (.getfield 27, 3) := by decide +kernel
theorem d_Pg_follow_180 : decode b_Pg_follow 180 = .ok (.arraylength, 1) := by decide +kernel
theorem d_Pg_follow_181 : decode b_Pg_follow 181 = .ok (.if_icmp .ge 24, 3) := by decide +kernel
theorem d_Pg_follow_184 : decode b_Pg_follow 184 = .ok (.aload_n 0, 1) := by decide +kernel
theorem d_Pg_follow_185 : decode b_Pg_follow 185 = .ok (.getfield 27, 3) := by decide +kernel
theorem d_Pg_follow_188 : decode b_Pg_follow 188 = .ok (.aload_n 0, 1) := by decide +kernel
theorem d_Pg_follow_189 : decode b_Pg_follow 189 = .ok (.getfield 70, 3) := by decide +kernel
theorem d_Pg_follow_192 : decode b_Pg_follow 192 = .ok (.iload 5, 2) := by decide +kernel
theorem d_Pg_follow_194 : decode b_Pg_follow 194 = .ok (.iastore, 1) := by decide +kernel
theorem d_Pg_follow_195 : decode b_Pg_follow 195 = .ok (.aload_n 0, 1) := by decide +kernel
theorem d_Pg_follow_196 : decode b_Pg_follow 196 = .ok (.dup, 1) := by decide +kernel
theorem d_Pg_follow_197 : decode b_Pg_follow 197 = .ok (.getfield 70, 3) := by decide +kernel
theorem d_Pg_follow_200 : decode b_Pg_follow 200 = .ok (.iconst 1, 1) := by decide +kernel
theorem d_Pg_follow_201 : decode b_Pg_follow 201 = .ok (.iadd, 1) := by decide +kernel
theorem d_Pg_follow_202 : decode b_Pg_follow 202 = .ok (.putfield 70, 3) := by decide +kernel
theorem d_Pg_follow_205 : decode b_Pg_follow 205 = .ok (.iinc 4 1, 3) := by decide +kernel
theorem d_Pg_follow_208 : decode b_Pg_follow 208 = .ok (.goto (-201), 3) := by decide +kernel
theorem d_Pg_follow_211 : decode b_Pg_follow 211 = .ok (.iconst 0, 1) := by decide +kernel
theorem d_Pg_follow_212 : decode b_Pg_follow 212 = .ok (.ireturn, 1) := by decide +kernel
theorem d_Pg_inClasses_0 : decode b_Pg_inClasses 0 = .ok (.iload_n 1, 1) := by decide +kernel
theorem d_Pg_inClasses_1 : decode b_Pg_inClasses 1 = .ok (.bipush 48, 2) := by decide +kernel
theorem d_Pg_inClasses_3 : decode b_Pg_inClasses 3 = .ok (.if_icmp .lt 13, 3) := by decide +kernel
theorem d_Pg_inClasses_6 : decode b_Pg_inClasses 6 = .ok (.iload_n 1, 1) := by decide +kernel
theorem d_Pg_inClasses_7 : decode b_Pg_inClasses 7 = .ok (.bipush 57, 2) := by decide +kernel
theorem d_Pg_inClasses_9 : decode b_Pg_inClasses 9 = .ok (.if_icmp .gt 7, 3) := by decide +kernel
theorem d_Pg_inClasses_12 : decode b_Pg_inClasses 12 = .ok (.iconst 1, 1) := by decide +kernel
theorem d_Pg_inClasses_13 : decode b_Pg_inClasses 13 = .ok (.goto 4, 3) := by decide +kernel
theorem d_Pg_inClasses_16 : decode b_Pg_inClasses 16 = .ok (.iconst 0, 1) := by decide +kernel
theorem d_Pg_inClasses_17 : decode b_Pg_inClasses 17 = .ok (.istore_n 2, 1) := by decide +kernel
theorem d_Pg_inClasses_18 : decode b_Pg_inClasses 18 = .ok (.iload_n 2, 1) := by decide +kernel
theorem d_Pg_inClasses_19 : decode b_Pg_inClasses 19 = .ok (.ifCond .ne 33, 3) := by decide +kernel
theorem d_Pg_inClasses_22 : decode b_Pg_inClasses 22 = .ok (.iload_n 1, 1) := by decide +kernel
theorem d_Pg_inClasses_23 : decode b_Pg_inClasses 23 = .ok (.bipush 97, 2) := by decide +kernel
theorem d_Pg_inClasses_25 : decode b_Pg_inClasses 25 = .ok (.if_icmp .lt 9, 3) := by decide +kernel
theorem d_Pg_inClasses_28 : decode b_Pg_inClasses 28 = .ok (.iload_n 1, 1) := by decide +kernel
theorem d_Pg_inClasses_29 : decode b_Pg_inClasses 29 = .ok (.bipush 122, 2) := by decide +kernel
theorem d_Pg_inClasses_31 : decode b_Pg_inClasses 31 = .ok (.if_icmp .le 21, 3) := by decide +kernel
theorem d_Pg_inClasses_34 : decode b_Pg_inClasses 34 = .ok (.iload_n 1, 1) := by decide +kernel
theorem d_Pg_inClasses_35 : decode b_Pg_inClasses 35 = .ok (.bipush 65, 2) := by decide +kernel
theorem d_Pg_inClasses_37 : decode b_Pg_inClasses 37 = .ok (.if_icmp .lt 9, 3) := by decide +kernel
theorem d_Pg_inClasses_40 : decode b_Pg_inClasses 40 = .ok (.iload_n 1, 1) := by decide +kernel
theorem d_Pg_inClasses_41 : decode b_Pg_inClasses 41 = .ok (.bipush 90, 2) := by decide +kernel
theorem d_Pg_inClasses_43 : decode b_Pg_inClasses 43 = .ok (.if_icmp .le 9, 3) := by decide +kernel
theorem d_Pg_inClasses_46 : decode b_Pg_inClasses 46 = .ok (.iload_n 1, 1) := by decide +kernel
theorem d_Pg_inClasses_47 : decode b_Pg_inClasses 47 = .ok (.bipush 95, 2) := by decide +kernel
theorem d_Pg_inClasses_49 : decode b_Pg_inClasses 49 = .ok (.if_icmp .ne 7, 3) := by decide +kernel
theorem d_Pg_inClasses_52 : decode b_Pg_inClasses 52 = .ok (.iconst 1, 1) := by decide +kernel
theorem d_Pg_inClasses_53 : decode b_Pg_inClasses 53 = .ok (.goto 4, 3) := by decide +kernel
theorem d_Pg_inClasses_56 : decode b_Pg_inClasses 56 = .ok (.iconst 0, 1) := by decide +kernel
theorem d_Pg_inClasses_57 : decode b_Pg_inClasses 57 = .ok (.istore_n 3, 1) := by decide +kernel
theorem d_Pg_inClasses_58 : decode b_Pg_inClasses 58 = .ok (.iload_n 1, 1) := by decide +kernel
theorem d_Pg_inClasses_59 : decode b_Pg_inClasses 59 = .ok (.bipush 9, 2) := by decide +kernel
theorem d_Pg_inClasses_61 : decode b_Pg_inClasses 61 = .ok (.if_icmp .lt 9, 3) := by decide +kernel
theorem d_Pg_inClasses_64 : decode b_Pg_inClasses 64 = .ok (.iload_n 1, 1) := by decide +kernel
theorem d_Pg_inClasses_65 : decode b_Pg_inClasses 65 = .ok (.bipush 13, 2) := by decide +kernel
theorem d_Pg_inClasses_67 : decode b_Pg_inClasses 67 = .ok (.if_icmp .le 78, 3) := by decide +kernel
theorem d_Pg_inClasses_70 : decode b_Pg_inClasses 70 = .ok (.iload_n 1, 1) := by decide +kernel
theorem d_Pg_inClasses_71 : decode b_Pg_inClasses 71 = .ok (.bipush 32, 2) := by decide +kernel
theorem d_Pg_inClasses_73 : decode b_Pg_inClasses 73 = .ok (.if_icmp .eq 72, 3) := by decide +kernel
theorem d_Pg_inClasses_76 : decode b_Pg_inClasses 76 = .ok (.iload_n 1, 1) := by decide +kernel
theorem d_Pg_inClasses_77 : decode b_Pg_inClasses 77 = .ok (.sipush 160, 3) := by decide +kernel
theorem d_Pg_inClasses_80 : decode b_Pg_inClasses 80 = .ok (.if_icmp .eq 65, 3) := by decide +kernel
theorem d_Pg_inClasses_83 : decode b_Pg_inClasses 83 = .ok (.iload_n 1, 1) := by decide +kernel
theorem d_Pg_inClasses_84 : decode b_Pg_inClasses 84 = .ok (.sipush 5760, 3) := by decide +kernel
theorem d_Pg_inClasses_87 : decode b_Pg_inClasses 87 = .ok (.if_icmp .eq 58, 3) := by decide +kernel
theorem d_Pg_inClasses_90 : decode b_Pg_inClasses 90 = .ok (.iload_n 1, 1) := by decide +kernel
theorem d_Pg_inClasses_91 : decode b_Pg_inClasses 91 = .ok (.sipush 8192, 3) := by decide +kernel
theorem d_Pg_inClasses_94 : decode b_Pg_inClasses 94 = .ok (.if_icmp .lt 10, 3) := by decide +kernel
theorem d_Pg_inClasses_97 : decode b_Pg_inClasses 97 = .ok (.iload_n 1, 1) := by decide +kernel
theorem d_Pg_inClasses_98 : decode b_Pg_inClasses 98 = .ok (.sipush 8202, 3) := by decide +kernel
theorem d_Pg_inClasses_101 : decode b_Pg_inClasses 101 = .ok (.if_icmp .le 44, 3) := by decide +kernel
theorem d_Pg_inClasses_104 : decode b_Pg_inClasses 104 = .ok (.iload_n 1, 1) := by decide +kernel
theorem d_Pg_inClasses_105 : decode b_Pg_inClasses 105 = .ok (.sipush 8232, 3) := by decide +kernel
theorem d_Pg_inClasses_108 : decode b_Pg_inClasses 108 = .ok (.if_icmp .eq 37, 3) := by decide +kernel
theorem d_Pg_inClasses_111 : decode b_Pg_inClasses 111 = .ok (.iload_n 1, 1) := by decide +kernel
theorem d_Pg_inClasses_112 : decode b_Pg_inClasses 112 = .ok (.sipush 8233, 3) := by decide +kernel
theorem d_Pg_inClasses_115 : decode b_Pg_inClasses 115 = .ok (.if_icmp .eq 30, 3) := by decide +kernel
theorem d_Pg_inClasses_118 : decode b_Pg_inClasses 118 = .ok (.iload_n 1, 1) := by decide +kernel
theorem d_Pg_inClasses_119 : decode b_Pg_inClasses 119 = .ok (.sipush 8239, 3) := by decide +kernel
theorem d_Pg_inClasses_122 : decode b_Pg_inClasses 122 = .ok (.if_icmp .eq 23, 3) := by decide +kernel
theorem d_Pg_inClasses_125 : decode b_Pg_inClasses 125 = .ok (.iload_n 1, 1) := by decide +kernel
theorem d_Pg_inClasses_126 : decode b_Pg_inClasses 126 = .ok (.sipush 8287, 3) := by decide +kernel
theorem d_Pg_inClasses_129 : decode b_Pg_inClasses 129 = .ok (.if_icmp .eq 16, 3) := by decide +kernel
theorem d_Pg_inClasses_132 : decode b_Pg_inClasses 132 = .ok (.iload_n 1, 1) := by decide +kernel
theorem d_Pg_inClasses_133 : decode b_Pg_inClasses 133 = .ok (.sipush 12288, 3) := by decide +kernel
theorem d_Pg_inClasses_136 : decode b_Pg_inClasses 136 = .ok (.if_icmp .eq 9, 3) := by decide +kernel
theorem d_Pg_inClasses_139 : decode b_Pg_inClasses 139 = .ok (.iload_n 1, 1) := by decide +kernel
theorem d_Pg_inClasses_140 : decode b_Pg_inClasses 140 = .ok (.ldc 95, 2) := by decide +kernel
theorem d_Pg_inClasses_142 : decode b_Pg_inClasses 142 = .ok (.if_icmp .ne 7, 3) := by decide +kernel
theorem d_Pg_inClasses_145 : decode b_Pg_inClasses 145 = .ok (.iconst 1, 1) := by decide +kernel
theorem d_Pg_inClasses_146 : decode b_Pg_inClasses 146 = .ok (.goto 4, 3) := by decide +kernel
theorem d_Pg_inClasses_149 : decode b_Pg_inClasses 149 = .ok (.iconst 0, 1) := by decide +kernel
theorem d_Pg_inClasses_150 : decode b_Pg_inClasses 150 = .ok (.istore 4, 2) := by decide +kernel
theorem d_Pg_inClasses_152 : decode b_Pg_inClasses 152 = .ok (.iload_n 0, 1) := by decide +kernel
theorem d_Pg_inClasses_153 : decode b_Pg_inClasses 153 = .ok (.iload_n 2, 1) := by decide +kernel
theorem d_Pg_inClasses_154 : decode b_Pg_inClasses 154 = .ok (.ifCond .eq 7, 3) := by decide +kernel
theorem d_Pg_inClasses_157 : decode b_Pg_inClasses 157 = .ok (.iconst 1, 1) := by decide +kernel
theorem d_Pg_inClasses_158 : decode b_Pg_inClasses 158 = .ok (.goto 4, 3) := by decide +kernel
theorem d_Pg_inClasses_161 : decode b_Pg_inClasses 161 = .ok (.iconst 2, 1) := by decide +kernel
theorem d_Pg_inClasses_162 : decode b_Pg_inClasses 162 = .ok (.iand, 1) := by decide +kernel
theorem d_Pg_inClasses_163 : decode b_Pg_inClasses 163 = .ok (.ifCond .ne 35, 3) := by decide +kernel
theorem d_Pg_inClasses_166 : decode b_Pg_inClasses 166 = .ok (.iload_n 0, 1) := by decide +kernel
theorem d_Pg_inClasses_167 : decode b_Pg_inClasses 167 = .ok (.iload_n 3, 1) := by decide +kernel
theorem d_Pg_inClasses_168 : decode b_Pg_inClasses 168 = .ok (.ifCond .eq 7, 3) := by decide +kernel
theorem d_Pg_inClasses_171 : decode b_Pg_inClasses 171 = .ok (.iconst 4, 1) := by decide +kernel
theorem d_Pg_inClasses_172 : decode b_Pg_inClasses 172 = .ok (.goto 5, 3) := by decide +kernel
theorem d_Pg_inClasses_175 : decode b_Pg_inClasses 175 = .ok (.bipush 8, 2) := by decide +kernel
theorem d_Pg_inClasses_177 : decode b_Pg_inClasses 177 = .ok (.iand, 1) := by decide +kernel
theorem d_Pg_inClasses_178 : decode b_Pg_inClasses 178 = .ok (.ifCond .ne 20, 3) := by decide +kernel
theorem d_Pg_inClasses_181 : decode b_Pg_inClasses 181 = .ok (.iload_n 0, 1) := by decide +kernel
theorem d_Pg_inClasses_182 : decode b_Pg_inClasses 182 = .ok (.iload 4, 2) := by decide +kernel
theorem d_Pg_inClasses_184 : decode b_Pg_inClasses 184 = .ok (.ifCond .eq 8, 3) := by decide +kernel
theorem d_Pg_inClasses_187 : decode b_Pg_inClasses 187 = .ok (.bipush 16, 2) := by decide +kernel
theorem d_Pg_inClasses_189 : decode b_Pg_inClasses 189 = .ok (.goto 5, 3) := by decide +kernel
theorem d_Pg_inClasses_192 : decode b_Pg_inClasses 192 = .ok (.bipush 32, 2) := by decide +kernel
theorem d_Pg_inClasses_194 : decode b_Pg_inClasses 194 = .ok (.iand, 1) := by decide +kernel
theorem d_Pg_inClasses_195 : decode b_Pg_inClasses 195 = .ok (.ifCond .eq 7, 3) := by decide +kernel
theorem d_Pg_inClasses_198 : decode b_Pg_inClasses 198 = .ok (.iconst 1, 1) := by decide +kernel
theorem d_Pg_inClasses_199 : decode b_Pg_inClasses 199 = .ok (.goto 4, 3) := by decide +kernel
theorem d_Pg_inClasses_202 : decode b_Pg_inClasses 202 = .ok (.iconst 0, 1) := by decide +kernel
theorem d_Pg_inClasses_203 : decode b_Pg_inClasses 203 = .ok (.ireturn, 1) := by decide +kernel
