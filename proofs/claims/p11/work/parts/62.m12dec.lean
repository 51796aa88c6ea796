theorem d_Ck_report_0 : decode b_Ck_report 0 = .ok (.aload_n 0, 1) := by decide +kernel
theorem d_Ck_report_1 : decode b_Ck_report 1 = .ok (.getfield 43, 3) := by decide +kernel
theorem d_Ck_report_4 : decode b_Ck_report 4 = .ok (.ifCond .eq 27, 3) := by decide +kernel
theorem d_Ck_report_7 : decode b_Ck_report 7 = .ok (.iload_n 2, 1) := by decide +kernel
theorem d_Ck_report_8 : decode b_Ck_report 8 = .ok (.aload_n 0, 1) := by decide +kernel
theorem d_Ck_report_9 : decode b_Ck_report 9 = .ok (.getfield 47, 3) := by decide +kernel
theorem d_Ck_report_12 : decode b_Ck_report 12 = .ok (.if_icmp .lt 19, 3) := by decide +kernel
theorem d_Ck_report_15 : decode b_Ck_report 15 = .ok (.iload_n 2, 1) := by decide +kernel
theorem d_Ck_report_16 : decode b_Ck_report 16 = .ok (.aload_n 0, 1) := by decide +kernel
theorem d_Ck_report_17 : decode b_Ck_report 17 = .ok (.getfield 47, 3) := by decide +kernel
theorem d_Ck_report_20 : decode b_Ck_report 20 = .ok (.if_icmp .ne 21, 3) := by decide +kernel
theorem d_Ck_report_23 : decode b_Ck_report 23 = .ok (.iload_n 1, 1) := by decide +kernel
theorem d_Ck_report_24 : decode b_Ck_report 24 = .ok (.aload_n 0, 1) := by decide +kernel
theorem d_Ck_report_25 : decode b_Ck_report 25 = .ok (.getfield 43, 3) := by decide +kernel
theorem d_Ck_report_28 : decode b_Ck_report 28 = .ok (.if_icmp .ge 13, 3) := by decide +kernel
theorem d_Ck_report_31 : decode b_Ck_report 31 = .ok (.aload_n 0, 1) := by decide +kernel
theorem d_Ck_report_32 : decode b_Ck_report 32 = .ok (.iload_n 1, 1) := by decide +kernel
theorem d_Ck_report_33 : decode b_Ck_report 33 = .ok (.putfield 43, 3) := by decide +kernel
theorem d_Ck_report_36 : decode b_Ck_report 36 = .ok (.aload_n 0, 1) := by decide +kernel
theorem d_Ck_report_37 : decode b_Ck_report 37 = .ok (.iload_n 2, 1) := by decide +kernel
theorem d_Ck_report_38 : decode b_Ck_report 38 = .ok (.putfield 47, 3) := by decide +kernel
theorem d_Ck_report_41 : decode b_Ck_report 41 = .ok (.return_, 1) := by decide +kernel
theorem d_Ck_require_0 : decode b_Ck_require 0 = .ok (.iload_n 1, 1) := by decide +kernel
theorem d_Ck_require_1 : decode b_Ck_require 1 = .ok (.ifCond .ne 9, 3) := by decide +kernel
theorem d_Ck_require_4 : decode b_Ck_require 4 = .ok (.aload_n 0, 1) := by decide +kernel
theorem d_Ck_require_5 : decode b_Ck_require 5 = .ok (.iconst 1, 1) := by decide +kernel
theorem d_Ck_require_6 : decode b_Ck_require 6 = .ok (.iload_n 2, 1) := by decide +kernel
theorem d_Ck_require_7 : decode b_Ck_require 7 = .ok (.invokevirtual 81, 3) := by decide +kernel
theorem d_Ck_require_10 : decode b_Ck_require 10 = .ok (.return_, 1) := by decide +kernel
theorem d_Ck_takeSchema_0 : decode b_Ck_takeSchema 0 = .ok (.aload_n 0, 1) := by decide +kernel
theorem d_Ck_takeSchema_1 : decode b_Ck_takeSchema 1 = .ok (.aload_n 0, 1) := by decide +kernel
theorem d_Ck_takeSchema_2 : decode b_Ck_takeSchema 2 = .ok (.getfield 26, 3) := by decide +kernel
theorem d_Ck_takeSchema_5 : decode b_Ck_takeSchema 5 = .ok (.iload_n 1, 1) := by decide +kernel
theorem d_Ck_takeSchema_6 : decode b_Ck_takeSchema 6 = .ok (.invokevirtual 85, 3) := by decide +kernel
theorem d_Ck_takeSchema_9 : decode b_Ck_takeSchema 9 = .ok (.iload_n 1, 1) := by decide +kernel
theorem d_Ck_takeSchema_10 : decode b_Ck_takeSchema 10 = .ok (.invokevirtual 88, 3) := by decide +kernel
theorem d_Ck_takeSchema_13 : decode b_Ck_takeSchema 13 = .ok (.return_, 1) := by decide +kernel
theorem d_Mk_isSchema_0 : decode b_Mk_isSchema 0 = .ok (.iload_n 1, 1) := by decide +kernel
theorem d_Mk_isSchema_1 : decode b_Mk_isSchema 1 = .ok (.ifCond .lt 23, 3) := by decide +kernel
theorem d_Mk_isSchema_4 : decode b_Mk_isSchema 4 = .ok (.iload_n 1, 1) := by decide +kernel
theorem d_Mk_isSchema_5 : decode b_Mk_isSchema 5 = .ok (.sipush 1000, 3) := by decide +kernel
theorem d_Mk_isSchema_8 : decode b_Mk_isSchema 8 = .ok (.if_icmp .ge 16, 3) := by decide +kernel
theorem d_Mk_isSchema_11 : decode b_Mk_isSchema 11 = .ok (.aload_n 0, 1) := by decide +kernel
theorem d_Mk_isSchema_12 : decode b_Mk_isSchema 12 = .ok (.getfield 15, 3) := by decide +kernel
theorem d_Mk_isSchema_15 : decode b_Mk_isSchema 15 = .ok (.iload_n 1, 1) := by decide +kernel
theorem d_Mk_isSchema_16 : decode b_Mk_isSchema 16 = .ok (.baload, 1) := by decide +kernel
theorem d_Mk_isSchema_17 : decode b_Mk_isSchema 17 = .ok (.ifCond .eq 7, 3) := by decide +kernel
theorem d_Mk_isSchema_20 : decode b_Mk_isSchema 20 = .ok (.iconst 1, 1) := by decide +kernel
theorem d_Mk_isSchema_21 : decode b_Mk_isSchema 21 = .ok (.goto 4, 3) := by decide +kernel
theorem d_Mk_isSchema_24 : decode b_Mk_isSchema 24 = .ok (.iconst 0, 1) := by decide +kernel
theorem d_Mk_isSchema_25 : decode b_Mk_isSchema 25 = .ok (.ireturn, 1) := by decide +kernel
theorem d_Tx_spells_0 : decode b_Tx_spells 0 = .ok (.iload_n 1, 1) := by decide +kernel
theorem d_Tx_spells_1 : decode b_Tx_spells 1 = .ok (.ifCond .lt 45, 3) := by decide +kernel
theorem d_Tx_spells_4 : decode b_Tx_spells 4 = .ok (.iload_n 1, 1) := by decide +kernel
theorem d_Tx_spells_5 : decode b_Tx_spells 5 = .ok (.aload_n 0, 1) := by decide +kernel
theorem d_Tx_spells_6 : decode b_Tx_spells 6 = .ok (.getfield 43, 3) := by decide +kernel
theorem d_Tx_spells_9 : decode b_Tx_spells 9 = .ok (.if_icmp .ge 37, 3) := by decide +kernel
theorem d_Tx_spells_12 : decode b_Tx_spells 12 = .ok (.aload_n 0, 1) := by decide +kernel
theorem d_Tx_spells_13 : decode b_Tx_spells 13 = .ok (.getfield 18, 3) := by decide +kernel
theorem d_Tx_spells_16 : decode b_Tx_spells 16 = .ok (.iload_n 1, 1) := by decide +kernel
theorem d_Tx_spells_17 : decode b_Tx_spells 17 = .ok (.iaload, 1) := by decide +kernel
theorem d_Tx_spells_18 : decode b_Tx_spells 18 = .ok (.aload_n 2, 1) := by decide +kernel
theorem d_Tx_spells_19 : decode b_Tx_spells 19 = .ok (.invokevirtual 67, 3) := by decide +kernel
theorem d_Tx_spells_22 : decode b_Tx_spells 22 = .ok (.if_icmp .ne 24, 3) := by decide +kernel
theorem d_Tx_spells_25 : decode b_Tx_spells 25 = .ok (.aload_n 0, 1) := by decide +kernel
theorem d_Tx_spells_26 : decode b_Tx_spells 26 = .ok (.getfield 27, 3) := by decide +kernel
theorem d_Tx_spells_29 : decode b_Tx_spells 29 = .ok (.iload_n 1, 1) := by decide +kernel
theorem d_Tx_spells_30 : decode b_Tx_spells 30 = .ok (.iaload, 1) := by decide +kernel
theorem d_Tx_spells_31 : decode b_Tx_spells 31 = .ok (.aload_n 0, 1) := by decide +kernel
theorem d_Tx_spells_32 : decode b_Tx_spells 32 = .ok (.getfield 18, 3) := by decide +kernel
theorem d_Tx_spells_35 : decode b_Tx_spells 35 = .ok (.iload_n 1, 1) := by decide +kernel
theorem d_Tx_spells_36 : decode b_Tx_spells 36 = .ok (.iaload, 1) := by decide +kernel
theorem d_Tx_spells_37 : decode b_Tx_spells 37 = .ok (.iadd, 1) := by decide +kernel
theorem d_Tx_spells_38 : decode b_Tx_spells 38 = .ok (.aload_n 0, 1) := by decide +kernel
theorem d_Tx_spells_39 : decode b_Tx_spells 39 = .ok (.getfield 40, 3) := by decide +kernel
theorem d_Tx_spells_42 : decode b_Tx_spells 42 = .ok (.arraylength, 1) := by decide +kernel
theorem d_Tx_spells_43 : decode b_Tx_spells 43 = .ok (.if_icmp .le 5, 3) := by decide +kernel
theorem d_Tx_spells_46 : decode b_Tx_spells 46 = .ok (.iconst 0, 1) := by decide +kernel
theorem d_Tx_spells_47 : decode b_Tx_spells 47 = .ok (.ireturn, 1) := by decide +kernel
theorem d_Tx_spells_48 : decode b_Tx_spells 48 = .ok (.iconst 0, 1) := by decide +kernel
theorem d_Tx_spells_49 : decode b_Tx_spells 49 = .ok (.istore_n 3, 1) := by decide +kernel
theorem d_Tx_spells_50 : decode b_Tx_spells 50 = .ok (.iload_n 3, 1) := by decide +kernel
theorem d_Tx_spells_51 : decode b_Tx_spells 51 = .ok (.aload_n 2, 1) := by decide +kernel
theorem d_Tx_spells_52 : decode b_Tx_spells 52 = .ok (.invokevirtual 67, 3) := by decide +kernel
theorem d_Tx_spells_55 : decode b_Tx_spells 55 = .ok (.if_icmp .ge 32, 3) := by decide +kernel
theorem d_Tx_spells_58 : decode b_Tx_spells 58 = .ok (.aload_n 0, 1) := by decide +kernel
theorem d_Tx_spells_59 : decode b_Tx_spells 59 = .ok (.getfield 40, 3) := by decide +kernel
theorem d_Tx_spells_62 : decode b_Tx_spells 62 = .ok (.aload_n 0, 1) := by decide +kernel
theorem d_Tx_spells_63 : decode b_Tx_spells 63 = .ok (.getfield 27, 3) := by decide +kernel
theorem d_Tx_spells_66 : decode b_Tx_spells 66 = .ok (.iload_n 1, 1) := by decide +kernel
theorem d_Tx_spells_67 : decode b_Tx_spells 67 = .ok (.iaload, 1) := by decide +kernel
theorem d_Tx_spells_68 : decode b_Tx_spells 68 = .ok (.iload_n 3, 1) := by decide +kernel
theorem d_Tx_spells_69 : decode b_Tx_spells 69 = .ok (.iadd, 1) := by decide +kernel
theorem d_Tx_spells_70 : decode b_Tx_spells 70 = .ok (.iaload, 1) := by decide +kernel
theorem d_Tx_spells_71 : decode b_Tx_spells 71 = .ok (.aload_n 2, 1) := by decide +kernel
theorem d_Tx_spells_72 : decode b_Tx_spells 72 = .ok (.iload_n 3, 1) := by decide +kernel
theorem d_Tx_spells_73 : decode b_Tx_spells 73 = .ok (.invokevirtual 73, 3) := by decide +kernel
theorem d_Tx_spells_76 : decode b_Tx_spells 76 = .ok (.if_icmp .eq 5, 3) := by decide +kernel
theorem d_Tx_spells_79 : decode b_Tx_spells 79 = .ok (.iconst 0, 1) := by decide +kernel
theorem d_Tx_spells_80 : decode b_Tx_spells 80 = .ok (.ireturn, 1) := by decide +kernel
theorem d_Tx_spells_81 : decode b_Tx_spells 81 = .ok (.iinc 3 1, 3) := by decide +kernel
theorem d_Tx_spells_84 : decode b_Tx_spells 84 = .ok (.goto (-34), 3) := by decide +kernel
theorem d_Tx_spells_87 : decode b_Tx_spells 87 = .ok (.iconst 1, 1) := by decide +kernel
theorem d_Tx_spells_88 : decode b_Tx_spells 88 = .ok (.ireturn, 1) := by decide +kernel
theorem d_Kw_placeOf_0 : decode b_Kw_placeOf 0 = .ok (.iconst 1, 1) := by decide +kernel
theorem d_Kw_placeOf_1 : decode b_Kw_placeOf 1 = .ok (.istore_n 2, 1) := by decide +kernel
theorem d_Kw_placeOf_2 : decode b_Kw_placeOf 2 = .ok (.iload_n 2, 1) := by decide +kernel
theorem d_Kw_placeOf_3 : decode b_Kw_placeOf 3 = .ok (.getstatic 174, 3) := by decide +kernel
theorem d_Kw_placeOf_6 : decode b_Kw_placeOf 6 = .ok (.arraylength, 1) := by decide +kernel
theorem d_Kw_placeOf_7 : decode b_Kw_placeOf 7 = .ok (.if_icmp .ge 27, 3) := by decide +kernel
theorem d_Kw_placeOf_10 : decode b_Kw_placeOf 10 = .ok (.aload_n 0, 1) := by decide +kernel
theorem d_Kw_placeOf_11 : decode b_Kw_placeOf 11 = .ok (.iload_n 1, 1) := by decide +kernel
theorem d_Kw_placeOf_12 : decode b_Kw_placeOf 12 = .ok (.getstatic 174, 3) := by decide +kernel
theorem d_Kw_placeOf_15 : decode b_Kw_placeOf 15 = .ok (.iload_n 2, 1) := by decide +kernel
theorem d_Kw_placeOf_16 : decode b_Kw_placeOf 16 = .ok (.aaload, 1) := by decide +kernel
theorem d_Kw_placeOf_17 : decode b_Kw_placeOf 17 = .ok (.getfield 160, 3) := by decide +kernel
theorem d_Kw_placeOf_20 : decode b_Kw_placeOf 20 = .ok (.invokevirtual 177, 3) := by decide +kernel
theorem d_Kw_placeOf_23 : decode b_Kw_placeOf 23 = .ok (.ifCond .eq 5, 3) := by decide +kernel
theorem d_Kw_placeOf_26 : decode b_Kw_placeOf 26 = .ok (.iload_n 2, 1) := by decide +kernel
theorem d_Kw_placeOf_27 : decode b_Kw_placeOf 27 = .ok (.ireturn, 1) := by decide +kernel
theorem d_Kw_placeOf_28 : decode b_Kw_placeOf 28 = .ok (.iinc 2 1, 3) := by decide +kernel
theorem d_Kw_placeOf_31 : decode b_Kw_placeOf 31 = .ok (.goto (-29), 3) := by decide +kernel
theorem d_Kw_placeOf_34 : decode b_Kw_placeOf 34 = .ok (.iconst 0, 1) := by decide +kernel
theorem d_Kw_placeOf_35 : decode b_Kw_placeOf 35 = .ok (.ireturn, 1) := by decide +kernel
theorem d_Kw_numbered_0 : decode b_Kw_numbered 0 = .ok (.iload_n 0, 1) := by decide +kernel
theorem d_Kw_numbered_1 : decode b_Kw_numbered 1 = .ok (.ifCond .lt 19, 3) := by decide +kernel
theorem d_Kw_numbered_4 : decode b_Kw_numbered 4 = .ok (.iload_n 0, 1) := by decide +kernel
theorem d_Kw_numbered_5 : decode b_Kw_numbered 5 = .ok (.getstatic 174, 3) := by decide +kernel
theorem d_Kw_numbered_8 : decode b_Kw_numbered 8 = .ok (.arraylength, 1) := by decide +kernel
theorem d_Kw_numbered_9 : decode b_Kw_numbered 9 = .ok (.if_icmp .ge 11, 3) := by decide +kernel
theorem d_Kw_numbered_12 : decode b_Kw_numbered 12 = .ok (.getstatic 174, 3) := by decide +kernel
theorem d_Kw_numbered_15 : decode b_Kw_numbered 15 = .ok (.iload_n 0, 1) := by decide +kernel
theorem d_Kw_numbered_16 : decode b_Kw_numbered 16 = .ok (.aaload, 1) := by decide +kernel
theorem d_Kw_numbered_17 : decode b_Kw_numbered 17 = .ok (.goto 6, 3) := by decide +kernel
theorem d_Kw_numbered_20 : decode b_Kw_numbered 20 = .ok (.getstatic 5, 3) := by decide +kernel
theorem d_Kw_numbered_23 : decode b_Kw_numbered 23 = .ok (.areturn, 1) := by decide +kernel
theorem d_Mk_markKeyword_0 : decode b_Mk_markKeyword 0 = .ok (.aload_n 0, 1) := by decide +kernel
theorem d_Mk_markKeyword_1 : decode b_Mk_markKeyword 1 = .ok (.getfield 22, 3) := by decide +kernel
theorem d_Mk_markKeyword_4 : decode b_Mk_markKeyword 4 = .ok (.iload_n 1, 1) := by decide +kernel
theorem d_Mk_markKeyword_5 : decode b_Mk_markKeyword 5 = .ok (.iconst 1, 1) := by decide +kernel
theorem d_Mk_markKeyword_6 : decode b_Mk_markKeyword 6 = .ok (.isub, 1) := by decide +kernel
theorem d_Mk_markKeyword_7 : decode b_Mk_markKeyword 7 = .ok (.invokestatic 32, 3) := by decide +kernel
theorem d_Mk_markKeyword_10 : decode b_Mk_markKeyword 10 = .ok (.istore_n 2, 1) := by decide +kernel
theorem d_Mk_markKeyword_11 : decode b_Mk_markKeyword 11 = .ok (.iload_n 1, 1) := by decide +kernel
theorem d_Mk_markKeyword_12 : decode b_Mk_markKeyword 12 = .ok (.ifCond .lt 17, 3) := by decide +kernel
theorem d_Mk_markKeyword_15 : decode b_Mk_markKeyword 15 = .ok (.iload_n 1, 1) := by decide +kernel
theorem d_Mk_markKeyword_16 : decode b_Mk_markKeyword 16 = .ok (.sipush 1000, 3) := by decide +kernel
theorem d_Mk_markKeyword_19 : decode b_Mk_markKeyword 19 = .ok (.if_icmp .ge 10, 3) := by decide +kernel
theorem d_Mk_markKeyword_22 : decode b_Mk_markKeyword 22 = .ok (.aload_n 0, 1) := by decide +kernel
theorem d_Mk_markKeyword_23 : decode b_Mk_markKeyword 23 = .ok (.getfield 9, 3) := by decide +kernel
theorem d_Mk_markKeyword_26 : decode b_Mk_markKeyword 26 = .ok (.iload_n 1, 1) := by decide +kernel
theorem d_Mk_markKeyword_27 : decode b_Mk_markKeyword 27 = .ok (.iload_n 2, 1) := by decide +kernel
theorem d_Mk_markKeyword_28 : decode b_Mk_markKeyword 28 = .ok (.iastore, 1) := by decide +kernel
theorem d_Mk_markKeyword_29 : decode b_Mk_markKeyword 29 = .ok (.iload_n 2, 1) := by decide +kernel
theorem d_Mk_markKeyword_30 : decode b_Mk_markKeyword 30 = .ok (.invokestatic 38, 3) := by decide +kernel
theorem d_Mk_markKeyword_33 : decode b_Mk_markKeyword 33 = .ok (.areturn, 1) := by decide +kernel
theorem d_Ck_takeSchemas_0 : decode b_Ck_takeSchemas 0 = .ok (.iload_n 2, 1) := by decide +kernel
theorem d_Ck_takeSchemas_1 : decode b_Ck_takeSchemas 1 = .ok (.ifCond .eq 14, 3) := by decide +kernel
theorem d_Ck_takeSchemas_4 : decode b_Ck_takeSchemas 4 = .ok (.aload_n 0, 1) := by decide +kernel
theorem d_Ck_takeSchemas_5 : decode b_Ck_takeSchemas 5 = .ok (.getfield 22, 3) := by decide +kernel
theorem d_Ck_takeSchemas_8 : decode b_Ck_takeSchemas 8 = .ok (.iload_n 1, 1) := by decide +kernel
theorem d_Ck_takeSchemas_9 : decode b_Ck_takeSchemas 9 = .ok (.invokevirtual 92, 3) := by decide +kernel
theorem d_Ck_takeSchemas_12 : decode b_Ck_takeSchemas 12 = .ok (.goto 4, 3) := by decide +kernel
theorem d_Ck_takeSchemas_15 : decode b_Ck_takeSchemas 15 = .ok (.iconst (-1), 1) := by decide +kernel
theorem d_Ck_takeSchemas_16 : decode b_Ck_takeSchemas 16 = .ok (.istore_n 3, 1) := by decide +kernel
theorem d_Ck_takeSchemas_17 : decode b_Ck_takeSchemas 17 = .ok (.iconst 0, 1) := by decide +kernel
theorem d_Ck_takeSchemas_18 : decode b_Ck_takeSchemas 18 = .ok (.istore 4, 2) := by decide +kernel
theorem d_Ck_takeSchemas_20 : decode b_Ck_takeSchemas 20 = .ok (.iload 4, 2) := by decide +kernel
theorem d_Ck_takeSchemas_22 : decode b_Ck_takeSchemas 22 = .ok (.aload_n 0, 1) := by decide +kernel
theorem d_Ck_takeSchemas_23 : decode b_Ck_takeSchemas 23 = .ok (.getfield 22, 3) := by decide +kernel
theorem d_Ck_takeSchemas_26 : decode b_Ck_takeSchemas 26 = .ok (.iload_n 1, 1) := by decide +kernel
theorem d_Ck_takeSchemas_27 : decode b_Ck_takeSchemas 27 = .ok (.invokevirtual 96, 3) := by decide +kernel
theorem d_Ck_takeSchemas_30 : decode b_Ck_takeSchemas 30 = .ok (.if_icmp .ge 28, 3) := by decide +kernel
theorem d_Ck_takeSchemas_33 : decode b_Ck_takeSchemas 33 = .ok (.iload_n 3, 1) := by decide +kernel
theorem d_Ck_takeSchemas_34 : decode b_Ck_takeSchemas 34 = .ok (.iconst (-1), 1) := by decide +kernel
theorem d_Ck_takeSchemas_35 : decode b_Ck_takeSchemas 35 = .ok (.if_icmp .eq 23, 3) := by decide +kernel
theorem d_Ck_takeSchemas_38 : decode b_Ck_takeSchemas 38 = .ok (.aload_n 0, 1) := by decide +kernel
theorem d_Ck_takeSchemas_39 : decode b_Ck_takeSchemas 39 = .ok (.iload_n 3, 1) := by decide +kernel
theorem d_Ck_takeSchemas_40 : decode b_Ck_takeSchemas 40 = .ok (.invokevirtual 55, 3) := by decide +kernel
theorem d_Ck_takeSchemas_43 : decode b_Ck_takeSchemas 43 = .ok (.aload_n 0, 1) := by decide +kernel
theorem d_Ck_takeSchemas_44 : decode b_Ck_takeSchemas 44 = .ok (.getfield 22, 3) := by decide +kernel
theorem d_Ck_takeSchemas_47 : decode b_Ck_takeSchemas 47 = .ok (.iload_n 3, 1) := by decide +kernel
theorem d_Ck_takeSchemas_48 : decode b_Ck_takeSchemas 48 = .ok (.invokevirtual 107, 3) := by decide +kernel
theorem d_Ck_takeSchemas_51 : decode b_Ck_takeSchemas 51 = .ok (.istore_n 3, 1) := by decide +kernel
theorem d_Ck_takeSchemas_52 : decode b_Ck_takeSchemas 52 = .ok (.iinc 4 1, 3) := by decide +kernel
theorem d_Ck_takeSchemas_55 : decode b_Ck_takeSchemas 55 = .ok (.goto (-35), 3) := by decide +kernel
theorem d_Ck_takeSchemas_58 : decode b_Ck_takeSchemas 58 = .ok (.return_, 1) := by decide +kernel
theorem d_Tx_cell_0 : decode b_Tx_cell 0 = .ok (.iload_n 1, 1) := by decide +kernel
theorem d_Tx_cell_1 : decode b_Tx_cell 1 = .ok (.ifCond .lt 25, 3) := by decide +kernel
theorem d_Tx_cell_4 : decode b_Tx_cell 4 = .ok (.iload_n 1, 1) := by decide +kernel
theorem d_Tx_cell_5 : decode b_Tx_cell 5 = .ok (.aload_n 0, 1) := by decide +kernel
theorem d_Tx_cell_6 : decode b_Tx_cell 6 = .ok (.getfield 43, 3) := by decide +kernel
theorem d_Tx_cell_9 : decode b_Tx_cell 9 = .ok (.if_icmp .ge 17, 3) := by decide +kernel
theorem d_Tx_cell_12 : decode b_Tx_cell 12 = .ok (.iload_n 2, 1) := by decide +kernel
theorem d_Tx_cell_13 : decode b_Tx_cell 13 = .ok (.ifCond .lt 13, 3) := by decide +kernel
theorem d_Tx_cell_16 : decode b_Tx_cell 16 = .ok (.iload_n 2, 1) := by decide +kernel
theorem d_Tx_cell_17 : decode b_Tx_cell 17 = .ok (.aload_n 0, 1) := by decide +kernel
theorem d_Tx_cell_18 : decode b_Tx_cell 18 = .ok (.getfield 18, 3) := by decide +kernel
theorem d_Tx_cell_21 : decode b_Tx_cell 21 = .ok (.iload_n 1, 1) := by decide +kernel
theorem d_Tx_cell_22 : decode b_Tx_cell 22 = .ok (.iaload, 1) := by decide +kernel
theorem d_Tx_cell_23 : decode b_Tx_cell 23 = .ok (.if_icmp .lt 5, 3) := by decide +kernel
theorem d_Tx_cell_26 : decode b_Tx_cell 26 = .ok (.iconst 0, 1) := by decide +kernel
theorem d_Tx_cell_27 : decode b_Tx_cell 27 = .ok (.ireturn, 1) := by decide +kernel
theorem d_Tx_cell_28 : decode b_Tx_cell 28 = .ok (.aload_n 0, 1) := by decide +kernel
theorem d_Tx_cell_29 : decode b_Tx_cell 29 = .ok (.getfield 27, 3) := by decide +kernel
theorem d_Tx_cell_32 : decode b_Tx_cell 32 = .ok (.iload_n 1, 1) := by decide +kernel
theorem d_Tx_cell_33 : decode b_Tx_cell 33 = .ok (.iaload, 1) := by decide +kernel
theorem d_Tx_cell_34 : decode b_Tx_cell 34 = .ok (.iload_n 2, 1) := by decide +kernel
theorem d_Tx_cell_35 : decode b_Tx_cell 35 = .ok (.iadd, 1) := by decide +kernel
theorem d_Tx_cell_36 : decode b_Tx_cell 36 = .ok (.istore_n 3, 1) := by decide +kernel
theorem d_Tx_cell_37 : decode b_Tx_cell 37 = .ok (.iload_n 3, 1) := by decide +kernel
theorem d_Tx_cell_38 : decode b_Tx_cell 38 = .ok (.ifCond .lt 21, 3) := by decide +kernel
theorem d_Tx_cell_41 : decode b_Tx_cell 41 = .ok (.iload_n 3, 1) := by decide +kernel
theorem d_Tx_cell_42 : decode b_Tx_cell 42 = .ok (.aload_n 0, 1) := by decide +kernel
theorem d_Tx_cell_43 : decode b_Tx_cell 43 = .ok (.getfield 40, 3) := by decide +kernel
theorem d_Tx_cell_46 : decode b_Tx_cell 46 = .ok (.arraylength, 1) := by decide +kernel
theorem d_Tx_cell_47 : decode b_Tx_cell 47 = .ok (.if_icmp .ge 12, 3) := by decide +kernel
theorem d_Tx_cell_50 : decode b_Tx_cell 50 = .ok (.aload_n 0, 1) := by decide +kernel
theorem d_Tx_cell_51 : decode b_Tx_cell 51 = .ok (.getfield 40, 3) := by decide +kernel
theorem d_Tx_cell_54 : decode b_Tx_cell 54 = .ok (.iload_n 3, 1) := by decide +kernel
theorem d_Tx_cell_55 : decode b_Tx_cell 55 = .ok (.iaload, 1) := by decide +kernel
theorem d_Tx_cell_56 : decode b_Tx_cell 56 = .ok (.goto 4, 3) := by decide +kernel
theorem d_Tx_cell_59 : decode b_Tx_cell 59 = .ok (.iconst 0, 1) := by decide +kernel
theorem d_Tx_cell_60 : decode b_Tx_cell 60 = .ok (.ireturn, 1) := by decide +kernel
theorem d_JL_canEncode_0 : decode b_JL_canEncode 0 = .ok (.iload_n 0, 1) := by decide +kernel
theorem d_JL_canEncode_1 : decode b_JL_canEncode 1 = .ok (.ifCond .lt 14, 3) := by decide +kernel
theorem d_JL_canEncode_4 : decode b_JL_canEncode 4 = .ok (.iload_n 0, 1) := by decide +kernel
theorem d_JL_canEncode_5 : decode b_JL_canEncode 5 = .ok (.sipush 255, 3) := by decide +kernel
theorem d_JL_canEncode_8 : decode b_JL_canEncode 8 = .ok (.if_icmp .gt 7, 3) := by decide +kernel
theorem d_JL_canEncode_11 : decode b_JL_canEncode 11 = .ok (.iconst 1, 1) := by decide +kernel
theorem d_JL_canEncode_12 : decode b_JL_canEncode 12 = .ok (.goto 4, 3) := by decide +kernel
theorem d_JL_canEncode_15 : decode b_JL_canEncode 15 = .ok (.iconst 0, 1) := by decide +kernel
theorem d_JL_canEncode_16 : decode b_JL_canEncode 16 = .ok (.ireturn, 1) := by decide +kernel
theorem d_JL_indexOfChar_0 : decode b_JL_indexOfChar 0 = .ok (.iload_n 1, 1) := by decide +kernel
theorem d_JL_indexOfChar_1 : decode b_JL_indexOfChar 1 = .ok (.i2b, 1) := by decide +kernel
theorem d_JL_indexOfChar_2 : decode b_JL_indexOfChar 2 = .ok (.istore 4, 2) := by decide +kernel
theorem d_JL_indexOfChar_4 : decode b_JL_indexOfChar 4 = .ok (.iload_n 2, 1) := by decide +kernel
theorem d_JL_indexOfChar_5 : decode b_JL_indexOfChar 5 = .ok (.istore 5, 2) := by decide +kernel
theorem d_JL_indexOfChar_7 : decode b_JL_indexOfChar 7 = .ok (.iload 5, 2) := by decide +kernel
theorem d_JL_indexOfChar_9 : decode b_JL_indexOfChar 9 = .ok (.iload_n 3, 1) := by decide +kernel
theorem d_JL_indexOfChar_10 : decode b_JL_indexOfChar 10 = .ok (.if_icmp .ge 21, 3) := by decide +kernel
theorem d_JL_indexOfChar_13 : decode b_JL_indexOfChar 13 = .ok (.aload_n 0, 1) := by decide +kernel
theorem d_JL_indexOfChar_14 : decode b_JL_indexOfChar 14 = .ok (.iload 5, 2) := by decide +kernel
theorem d_JL_indexOfChar_16 : decode b_JL_indexOfChar 16 = .ok (.baload, 1) := by decide +kernel
theorem d_JL_indexOfChar_17 : decode b_JL_indexOfChar 17 = .ok (.iload 4, 2) := by decide +kernel
theorem d_JL_indexOfChar_19 : decode b_JL_indexOfChar 19 = .ok (.if_icmp .ne 6, 3) := by decide +kernel
theorem d_JL_indexOfChar_22 : decode b_JL_indexOfChar 22 = .ok (.iload 5, 2) := by decide +kernel
theorem d_JL_indexOfChar_24 : decode b_JL_indexOfChar 24 = .ok (.ireturn, 1) := by decide +kernel
theorem d_JL_indexOfChar_25 : decode b_JL_indexOfChar 25 = .ok (.iinc 5 1, 3) := by decide +kernel
theorem d_JL_indexOfChar_28 : decode b_JL_indexOfChar 28 = .ok (.goto (-21), 3) := by decide +kernel
theorem d_JL_indexOfChar_31 : decode b_JL_indexOfChar 31 = .ok (.iconst (-1), 1) := by decide +kernel
theorem d_JL_indexOfChar_32 : decode b_JL_indexOfChar 32 = .ok (.ireturn, 1) := by decide +kernel
theorem d_JL_indexOf_0 : decode b_JL_indexOf 0 = .ok (.iload_n 1, 1) := by decide +kernel
theorem d_JL_indexOf_1 : decode b_JL_indexOf 1 = .ok (.invokestatic 88, 3) := by decide +kernel
theorem d_JL_indexOf_4 : decode b_JL_indexOf 4 = .ok (.ifCond .ne 5, 3) := by decide +kernel
theorem d_JL_indexOf_7 : decode b_JL_indexOf 7 = .ok (.iconst (-1), 1) := by decide +kernel
theorem d_JL_indexOf_8 : decode b_JL_indexOf 8 = .ok (.ireturn, 1) := by decide +kernel
theorem d_JL_indexOf_9 : decode b_JL_indexOf 9 = .ok (.iload_n 2, 1) := by decide +kernel
theorem d_JL_indexOf_10 : decode b_JL_indexOf 10 = .ok (.iconst 0, 1) := by decide +kernel
theorem d_JL_indexOf_11 : decode b_JL_indexOf 11 = .ok (.invokestatic 92, 3) := by decide +kernel
theorem d_JL_indexOf_14 : decode b_JL_indexOf 14 = .ok (.istore_n 2, 1) := by decide +kernel
theorem d_JL_indexOf_15 : decode b_JL_indexOf 15 = .ok (.iload_n 3, 1) := by decide +kernel
theorem d_JL_indexOf_16 : decode b_JL_indexOf 16 = .ok (.aload_n 0, 1) := by decide +kernel
theorem d_JL_indexOf_17 : decode b_JL_indexOf 17 = .ok (.arraylength, 1) := by decide +kernel
theorem d_JL_indexOf_18 : decode b_JL_indexOf 18 = .ok (.invokestatic 38, 3) := by decide +kernel
theorem d_JL_indexOf_21 : decode b_JL_indexOf 21 = .ok (.istore_n 3, 1) := by decide +kernel
theorem d_JL_indexOf_22 : decode b_JL_indexOf 22 = .ok (.iload_n 2, 1) := by decide +kernel
theorem d_JL_indexOf_23 : decode b_JL_indexOf 23 = .ok (.iload_n 3, 1) := by decide +kernel
theorem d_JL_indexOf_24 : decode b_JL_indexOf 24 = .ok (.if_icmp .lt 5, 3) := by decide +kernel
theorem d_JL_indexOf_27 : decode b_JL_indexOf 27 = .ok (.iconst (-1), 1) := by decide +kernel
theorem d_JL_indexOf_28 : decode b_JL_indexOf 28 = .ok (.ireturn, 1) := by decide +kernel
theorem d_JL_indexOf_29 : decode b_JL_indexOf 29 = .ok (.aload_n 0, 1) := by decide +kernel
theorem d_JL_indexOf_30 : decode b_JL_indexOf 30 = .ok (.iload_n 1, 1) := by decide +kernel
theorem d_JL_indexOf_31 : decode b_JL_indexOf 31 = .ok (.iload_n 2, 1) := by decide +kernel
theorem d_JL_indexOf_32 : decode b_JL_indexOf 32 = .ok (.iload_n 3, 1) := by decide +kernel
theorem d_JL_indexOf_33 : decode b_JL_indexOf 33 = .ok (.invokestatic 95, 3) := by decide +kernel
theorem d_JL_indexOf_36 : decode b_JL_indexOf 36 = .ok (.ireturn, 1) := by decide +kernel
theorem d_JS_indexOf_1_0 : decode b_JS_indexOf_1 0 = .ok (.aload_n 0, 1) := by decide +kernel
theorem d_JS_indexOf_1_1 : decode b_JS_indexOf_1 1 = .ok (.invokevirtual 492, 3) := by decide +kernel
theorem d_JS_indexOf_1_4 : decode b_JS_indexOf_1 4 = .ok (.ifCond .eq 19, 3) := by decide +kernel
theorem d_JS_indexOf_1_7 : decode b_JS_indexOf_1 7 = .ok (.aload_n 0, 1) := by decide +kernel
theorem d_JS_indexOf_1_8 : decode b_JS_indexOf_1 8 = .ok (.getfield 9, 3) := by decide +kernel
theorem d_JS_indexOf_1_11 : decode b_JS_indexOf_1 11 = .ok (.iload_n 1, 1) := by decide +kernel
theorem d_JS_indexOf_1_12 : decode b_JS_indexOf_1 12 = .ok (.iload_n 2, 1) := by decide +kernel
theorem d_JS_indexOf_1_13 : decode b_JS_indexOf_1 13 = .ok (.aload_n 0, 1) := by decide +kernel
theorem d_JS_indexOf_1_14 : decode b_JS_indexOf_1 14 = .ok (.invokevirtual 505, 3) := by decide +kernel
theorem d_JS_indexOf_1_17 : decode b_JS_indexOf_1 17 = .ok (.invokestatic 637, 3) := by decide +kernel
theorem d_JS_indexOf_1_20 : decode b_JS_indexOf_1 20 = .ok (.goto 16, 3) := by decide +kernel
theorem d_JS_indexOf_1_23 : decode b_JS_indexOf_1 23 = .ok (.aload_n 0, 1) := by decide +kernel
theorem d_JS_indexOf_1_24 : decode b_JS_indexOf_1 24 = .ok (.getfield 9, 3) := by decide +kernel
theorem d_JS_indexOf_1_27 : decode b_JS_indexOf_1 27 = .ok (.iload_n 1, 1) := by decide +kernel
theorem d_JS_indexOf_1_28 : decode b_JS_indexOf_1 28 = .ok (.iload_n 2, 1) := by decide +kernel
theorem d_JS_indexOf_1_29 : decode b_JS_indexOf_1 29 = .ok (.aload_n 0, 1) := by decide +kernel
theorem d_JS_indexOf_1_30 : decode b_JS_indexOf_1 30 = .ok (.invokevirtual 505, 3) := by decide +kernel
theorem d_JS_indexOf_1_33 : decode b_JS_indexOf_1 33 = .ok (.invokestatic 640, 3) := by decide +kernel
theorem d_JS_indexOf_1_36 : decode b_JS_indexOf_1 36 = .ok (.ireturn, 1) := by decide +kernel
theorem d_JS_indexOf_0 : decode b_JS_indexOf 0 = .ok (.aload_n 0, 1) := by decide +kernel
theorem d_JS_indexOf_1 : decode b_JS_indexOf 1 = .ok (.iload_n 1, 1) := by decide +kernel
theorem d_JS_indexOf_2 : decode b_JS_indexOf 2 = .ok (.iconst 0, 1) := by decide +kernel
theorem d_JS_indexOf_3 : decode b_JS_indexOf 3 = .ok (.invokevirtual 633, 3) := by decide +kernel
theorem d_JS_indexOf_6 : decode b_JS_indexOf 6 = .ok (.ireturn, 1) := by decide +kernel
theorem d_Pt_hexToken_0 : decode b_Pt_hexToken 0 = .ok (.iconst 0, 1) := by decide +kernel
theorem d_Pt_hexToken_1 : decode b_Pt_hexToken 1 = .ok (.istore_n 2, 1) := by decide +kernel
theorem d_Pt_hexToken_2 : decode b_Pt_hexToken 2 = .ok (.iconst 0, 1) := by decide +kernel
theorem d_Pt_hexToken_3 : decode b_Pt_hexToken 3 = .ok (.istore_n 3, 1) := by decide +kernel
theorem d_Pt_hexToken_4 : decode b_Pt_hexToken 4 = .ok (.iload_n 3, 1) := by decide +kernel
theorem d_Pt_hexToken_5 : decode b_Pt_hexToken 5 = .ok (.aload_n 0, 1) := by decide +kernel
theorem d_Pt_hexToken_6 : decode b_Pt_hexToken 6 = .ok (.getfield 11, 3) := by decide +kernel
theorem d_Pt_hexToken_9 : decode b_Pt_hexToken 9 = .ok (.arraylength, 1) := by decide +kernel
theorem d_Pt_hexToken_10 : decode b_Pt_hexToken 10 = .ok (.if_icmp .ge 142, 3) := by decide +kernel
theorem d_Pt_hexToken_13 : decode b_Pt_hexToken 13 = .ok (.iload_n 1, 1) := by decide +kernel
theorem d_Pt_hexToken_14 : decode b_Pt_hexToken 14 = .ok (.ifCond .le 13, 3) := by decide +kernel
theorem d_Pt_hexToken_17 : decode b_Pt_hexToken 17 = .ok (.iload_n 3, 1) := by decide +kernel
theorem d_Pt_hexToken_18 : decode b_Pt_hexToken 18 = .ok (.iload_n 1, 1) := by decide +kernel
theorem d_Pt_hexToken_19 : decode b_Pt_hexToken 19 = .ok (.if_icmp .ne 8, 3) := by decide +kernel
theorem d_Pt_hexToken_22 : decode b_Pt_hexToken 22 = .ok (.ldc 80, 2) := by decide +kernel
theorem d_Pt_hexToken_24 : decode b_Pt_hexToken 24 = .ok (.iload_n 2, 1) := by decide +kernel
theorem d_Pt_hexToken_25 : decode b_Pt_hexToken 25 = .ok (.ior, 1) := by decide +kernel
theorem d_Pt_hexToken_26 : decode b_Pt_hexToken 26 = .ok (.ireturn, 1) := by decide +kernel
theorem d_Pt_hexToken_27 : decode b_Pt_hexToken 27 = .ok (.aload_n 0, 1) := by decide +kernel
theorem d_Pt_hexToken_28 : decode b_Pt_hexToken 28 = .ok (.getfield 53, 3) := by decide +kernel
theorem d_Pt_hexToken_31 : decode b_Pt_hexToken 31 = .ok (.aload_n 0, 1) := by decide +kernel
theorem d_Pt_hexToken_32 : decode b_Pt_hexToken 32 = .ok (.getfield 43, 3) := by decide +kernel
theorem d_Pt_hexToken_35 : decode b_Pt_hexToken 35 = .ok (.if_icmp .ge 15, 3) := by decide +kernel
theorem d_Pt_hexToken_38 : decode b_Pt_hexToken 38 = .ok (.aload_n 0, 1) := by decide +kernel
theorem d_Pt_hexToken_39 : decode b_Pt_hexToken 39 = .ok (.getfield 11, 3) := by decide +kernel
theorem d_Pt_hexToken_42 : decode b_Pt_hexToken 42 = .ok (.aload_n 0, 1) := by decide +kernel
theorem d_Pt_hexToken_43 : decode b_Pt_hexToken 43 = .ok (.getfield 53, 3) := by decide +kernel
theorem d_Pt_hexToken_46 : decode b_Pt_hexToken 46 = .ok (.iaload, 1) := by decide +kernel
theorem d_Pt_hexToken_47 : decode b_Pt_hexToken 47 = .ok (.goto 4, 3) := by decide +kernel
theorem d_Pt_hexToken_50 : decode b_Pt_hexToken 50 = .ok (.iconst (-1), 1) := by decide +kernel
theorem d_Pt_hexToken_51 : decode b_Pt_hexToken 51 = .ok (.istore 4, 2) := by decide +kernel
theorem d_Pt_hexToken_53 : decode b_Pt_hexToken 53 = .ok (.aload_n 0, 1) := by decide +kernel
theorem d_Pt_hexToken_54 : decode b_Pt_hexToken 54 = .ok (.dup, 1) := by decide +kernel
theorem d_Pt_hexToken_55 : decode b_Pt_hexToken 55 = .ok (.getfield 53, 3) := by decide +kernel
theorem d_Pt_hexToken_58 : decode b_Pt_hexToken 58 = .ok (.iconst 1, 1) := by decide +kernel
theorem d_Pt_hexToken_59 : decode b_Pt_hexToken 59 = .ok (.iadd, 1) := by decide +kernel
theorem d_Pt_hexToken_60 : decode b_Pt_hexToken 60 = .ok (.putfield 53, 3) := by decide +kernel
theorem d_Pt_hexToken_63 : decode b_Pt_hexToken 63 = .ok (.iload_n 1, 1) := by decide +kernel
theorem d_Pt_hexToken_64 : decode b_Pt_hexToken 64 = .ok (.ifCond .ne 19, 3) := by decide +kernel
theorem d_Pt_hexToken_67 : decode b_Pt_hexToken 67 = .ok (.iload_n 3, 1) := by decide +kernel
theorem d_Pt_hexToken_68 : decode b_Pt_hexToken 68 = .ok (.ifCond .le 15, 3) := by decide +kernel
theorem d_Pt_hexToken_71 : decode b_Pt_hexToken 71 = .ok (.iload 4, 2) := by decide +kernel
theorem d_Pt_hexToken_73 : decode b_Pt_hexToken 73 = .ok (.bipush 125, 2) := by decide +kernel
theorem d_Pt_hexToken_75 : decode b_Pt_hexToken 75 = .ok (.if_icmp .ne 8, 3) := by decide +kernel
theorem d_Pt_hexToken_78 : decode b_Pt_hexToken 78 = .ok (.ldc 80, 2) := by decide +kernel
theorem d_Pt_hexToken_80 : decode b_Pt_hexToken 80 = .ok (.iload_n 2, 1) := by decide +kernel
theorem d_Pt_hexToken_81 : decode b_Pt_hexToken 81 = .ok (.ior, 1) := by decide +kernel
theorem d_Pt_hexToken_82 : decode b_Pt_hexToken 82 = .ok (.ireturn, 1) := by decide +kernel
theorem d_Pt_hexToken_83 : decode b_Pt_hexToken 83 = .ok (.iload 4, 2) := by decide +kernel
theorem d_Pt_hexToken_85 : decode b_Pt_hexToken 85 = .ok (.ifCond .lt 22, 3) := by decide +kernel
theorem d_Pt_hexToken_88 : decode b_Pt_hexToken 88 = .ok (.iload 4, 2) := by decide +kernel
theorem d_Pt_hexToken_90 : decode b_Pt_hexToken 90 = .ok (.sipush 128, 3) := by decide +kernel
theorem d_Pt_hexToken_93 : decode b_Pt_hexToken 93 = .ok (.if_icmp .ge 14, 3) := by decide +kernel
theorem d_Pt_hexToken_96 : decode b_Pt_hexToken 96 = .ok (.ldc 90, 2) := by decide +kernel
theorem d_Pt_hexToken_98 : decode b_Pt_hexToken 98 = .ok (.iload 4, 2) := by decide +kernel
theorem d_Pt_hexToken_100 : decode b_Pt_hexToken 100 = .ok (.i2c, 1) := by decide +kernel
theorem d_Pt_hexToken_101 : decode b_Pt_hexToken 101 = .ok (.invokevirtual 66, 3) := by decide +kernel
theorem d_Pt_hexToken_104 : decode b_Pt_hexToken 104 = .ok (.goto 4, 3) := by decide +kernel
theorem d_Pt_hexToken_107 : decode b_Pt_hexToken 107 = .ok (.iconst (-1), 1) := by decide +kernel
theorem d_Pt_hexToken_108 : decode b_Pt_hexToken 108 = .ok (.istore 5, 2) := by decide +kernel
theorem d_Pt_hexToken_110 : decode b_Pt_hexToken 110 = .ok (.iload_n 2, 1) := by decide +kernel
theorem d_Pt_hexToken_111 : decode b_Pt_hexToken 111 = .ok (.bipush 16, 2) := by decide +kernel
theorem d_Pt_hexToken_113 : decode b_Pt_hexToken 113 = .ok (.imul, 1) := by decide +kernel
theorem d_Pt_hexToken_114 : decode b_Pt_hexToken 114 = .ok (.iload 5, 2) := by decide +kernel
theorem d_Pt_hexToken_116 : decode b_Pt_hexToken 116 = .ok (.bipush 15, 2) := by decide +kernel
theorem d_Pt_hexToken_118 : decode b_Pt_hexToken 118 = .ok (.if_icmp .le 11, 3) := by decide +kernel
theorem d_Pt_hexToken_121 : decode b_Pt_hexToken 121 = .ok (.iload 5, 2) := by decide +kernel
theorem d_Pt_hexToken_123 : decode b_Pt_hexToken 123 = .ok (.bipush 6, 2) := by decide +kernel
theorem d_Pt_hexToken_125 : decode b_Pt_hexToken 125 = .ok (.isub, 1) := by decide +kernel
theorem d_Pt_hexToken_126 : decode b_Pt_hexToken 126 = .ok (.goto 5, 3) := by decide +kernel
theorem d_Pt_hexToken_129 : decode b_Pt_hexToken 129 = .ok (.iload 5, 2) := by decide +kernel
theorem d_Pt_hexToken_131 : decode b_Pt_hexToken 131 = .ok (.iadd, 1) := by decide +kernel
theorem d_Pt_hexToken_132 : decode b_Pt_hexToken 132 = .ok (.istore_n 2, 1) := by decide +kernel
theorem d_Pt_hexToken_133 : decode b_Pt_hexToken 133 = .ok (.iload 5, 2) := by decide +kernel
theorem d_Pt_hexToken_135 : decode b_Pt_hexToken 135 = .ok (.ifCond .lt 9, 3) := by decide +kernel
theorem d_Pt_hexToken_138 : decode b_Pt_hexToken 138 = .ok (.iload_n 2, 1) := by decide +kernel
theorem d_Pt_hexToken_139 : decode b_Pt_hexToken 139 = .ok (.ldc 92, 2) := by decide +kernel
theorem d_Pt_hexToken_141 : decode b_Pt_hexToken 141 = .ok (.if_icmp .le 5, 3) := by decide +kernel
theorem d_Pt_hexToken_144 : decode b_Pt_hexToken 144 = .ok (.iconst (-1), 1) := by decide +kernel
theorem d_Pt_hexToken_145 : decode b_Pt_hexToken 145 = .ok (.ireturn, 1) := by decide +kernel
theorem d_Pt_hexToken_146 : decode b_Pt_hexToken 146 = .ok (.iinc 3 1, 3) := by decide +kernel
theorem d_Pt_hexToken_149 : decode b_Pt_hexToken 149 = .ok (.goto (-145), 3) := by decide +kernel
theorem d_Pt_hexToken_152 : decode b_Pt_hexToken 152 = .ok (.iconst (-1), 1) := by decide +kernel
theorem d_Pt_hexToken_153 : decode b_Pt_hexToken 153 = .ok (.ireturn, 1) := by decide +kernel
theorem d_Pt_isIn_0 : decode b_Pt_isIn 0 = .ok (.iload_n 1, 1) := by decide +kernel
theorem d_Pt_isIn_1 : decode b_Pt_isIn 1 = .ok (.ifCond .lt 23, 3) := by decide +kernel
theorem d_Pt_isIn_4 : decode b_Pt_isIn 4 = .ok (.iload_n 1, 1) := by decide +kernel
theorem d_Pt_isIn_5 : decode b_Pt_isIn 5 = .ok (.sipush 128, 3) := by decide +kernel
theorem d_Pt_isIn_8 : decode b_Pt_isIn 8 = .ok (.if_icmp .ge 16, 3) := by decide +kernel
theorem d_Pt_isIn_11 : decode b_Pt_isIn 11 = .ok (.aload_n 0, 1) := by decide +kernel
theorem d_Pt_isIn_12 : decode b_Pt_isIn 12 = .ok (.iload_n 1, 1) := by decide +kernel
theorem d_Pt_isIn_13 : decode b_Pt_isIn 13 = .ok (.i2c, 1) := by decide +kernel
theorem d_Pt_isIn_14 : decode b_Pt_isIn 14 = .ok (.invokevirtual 66, 3) := by decide +kernel
theorem d_Pt_isIn_17 : decode b_Pt_isIn 17 = .ok (.ifCond .lt 7, 3) := by decide +kernel
theorem d_Pt_isIn_20 : decode b_Pt_isIn 20 = .ok (.iconst 1, 1) := by decide +kernel
theorem d_Pt_isIn_21 : decode b_Pt_isIn 21 = .ok (.goto 4, 3) := by decide +kernel
theorem d_Pt_isIn_24 : decode b_Pt_isIn 24 = .ok (.iconst 0, 1) := by decide +kernel
theorem d_Pt_isIn_25 : decode b_Pt_isIn 25 = .ok (.ireturn, 1) := by decide +kernel
theorem d_Pt_escape_0 : decode b_Pt_escape 0 = .ok (.aload_n 0, 1) := by decide +kernel
theorem d_Pt_escape_1 : decode b_Pt_escape 1 = .ok (.getfield 53, 3) := by decide +kernel
theorem d_Pt_escape_4 : decode b_Pt_escape 4 = .ok (.aload_n 0, 1) := by decide +kernel
theorem d_Pt_escape_5 : decode b_Pt_escape 5 = .ok (.getfield 43, 3) := by decide +kernel
theorem d_Pt_escape_8 : decode b_Pt_escape 8 = .ok (.if_icmp .ge 15, 3) := by decide +kernel
theorem d_Pt_escape_11 : decode b_Pt_escape 11 = .ok (.aload_n 0, 1) := by decide +kernel
theorem d_Pt_escape_12 : decode b_Pt_escape 12 = .ok (.getfield 11, 3) := by decide +kernel
theorem d_Pt_escape_15 : decode b_Pt_escape 15 = .ok (.aload_n 0, 1) := by decide +kernel
theorem d_Pt_escape_16 : decode b_Pt_escape 16 = .ok (.getfield 53, 3) := by decide +kernel
theorem d_Pt_escape_19 : decode b_Pt_escape 19 = .ok (.iaload, 1) := by decide +kernel
theorem d_Pt_escape_20 : decode b_Pt_escape 20 = .ok (.goto 4, 3) := by decide +kernel
theorem d_Pt_escape_23 : decode b_Pt_escape 23 = .ok (.iconst (-1), 1) := by decide +kernel
theorem d_Pt_escape_24 : decode b_Pt_escape 24 = .ok (.istore_n 2, 1) := by decide +kernel
theorem d_Pt_escape_25 : decode b_Pt_escape 25 = .ok (.aload_n 0, 1) := by decide +kernel
theorem d_Pt_escape_26 : decode b_Pt_escape 26 = .ok (.dup, 1) := by decide +kernel
theorem d_Pt_escape_27 : decode b_Pt_escape 27 = .ok (.getfield 53, 3) := by decide +kernel
theorem d_Pt_escape_30 : decode b_Pt_escape 30 = .ok (.iconst 1, 1) := by decide +kernel
theorem d_Pt_escape_31 : decode b_Pt_escape 31 = .ok (.iadd, 1) := by decide +kernel
theorem d_Pt_escape_32 : decode b_Pt_escape 32 = .ok (.putfield 53, 3) := by decide +kernel
theorem d_Pt_escape_35 : decode b_Pt_escape 35 = .ok (.aload_n 0, 1) := by decide +kernel
theorem d_Pt_escape_36 : decode b_Pt_escape 36 = .ok (.getfield 53, 3) := by decide +kernel
theorem d_Pt_escape_39 : decode b_Pt_escape 39 = .ok (.aload_n 0, 1) := by decide +kernel
theorem d_Pt_escape_40 : decode b_Pt_escape 40 = .ok (.getfield 43, 3) := by decide +kernel
theorem d_Pt_escape_43 : decode b_Pt_escape 43 = .ok (.if_icmp .ge 15, 3) := by decide +kernel
theorem d_Pt_escape_46 : decode b_Pt_escape 46 = .ok (.aload_n 0, 1) := by decide +kernel
theorem d_Pt_escape_47 : decode b_Pt_escape 47 = .ok (.getfield 11, 3) := by decide +kernel
theorem d_Pt_escape_50 : decode b_Pt_escape 50 = .ok (.aload_n 0, 1) := by decide +kernel
theorem d_Pt_escape_51 : decode b_Pt_escape 51 = .ok (.getfield 53, 3) := by decide +kernel
theorem d_Pt_escape_54 : decode b_Pt_escape 54 = .ok (.iaload, 1) := by decide +kernel
theorem d_Pt_escape_55 : decode b_Pt_escape 55 = .ok (.goto 4, 3) := by decide +kernel
theorem d_Pt_escape_58 : decode b_Pt_escape 58 = .ok (.iconst (-1), 1) := by decide +kernel
theorem d_Pt_escape_59 : decode b_Pt_escape 59 = .ok (.istore_n 3, 1) := by decide +kernel
theorem d_Pt_escape_60 : decode b_Pt_escape 60 = .ok (.iload_n 2, 1) := by decide +kernel
theorem d_Pt_escape_61 : decode b_Pt_escape 61 = .ok (.lookupswitch 186 #[(45, 173), (48, 106), (98, 162), (102, 100), (110, 94), (114, 103), (116, 91), (117, 126), (118, 97), (120, 120)], 91) := by decide +kernel
theorem d_Pt_escape_152 : decode b_Pt_escape 152 = .ok (.ldc 71, 2) := by decide +kernel
theorem d_Pt_escape_154 : decode b_Pt_escape 154 = .ok (.ireturn, 1) := by decide +kernel
theorem d_Pt_escape_155 : decode b_Pt_escape 155 = .ok (.ldc 72, 2) := by decide +kernel
theorem d_Pt_escape_157 : decode b_Pt_escape 157 = .ok (.ireturn, 1) := by decide +kernel
theorem d_Pt_escape_158 : decode b_Pt_escape 158 = .ok (.ldc 73, 2) := by decide +kernel
theorem d_Pt_escape_160 : decode b_Pt_escape 160 = .ok (.ireturn, 1) := by decide +kernel
theorem d_Pt_escape_161 : decode b_Pt_escape 161 = .ok (.ldc 74, 2) := by decide +kernel
theorem d_Pt_escape_163 : decode b_Pt_escape 163 = .ok (.ireturn, 1) := by decide +kernel
theorem d_Pt_escape_164 : decode b_Pt_escape 164 = .ok (.ldc 75, 2) := by decide +kernel
theorem d_Pt_escape_166 : decode b_Pt_escape 166 = .ok (.ireturn, 1) := by decide +kernel
theorem d_Pt_escape_167 : decode b_Pt_escape 167 = .ok (.iload_n 3, 1) := by decide +kernel
theorem d_Pt_escape_168 : decode b_Pt_escape 168 = .ok (.invokestatic 76, 3) := by decide +kernel
theorem d_Pt_escape_171 : decode b_Pt_escape 171 = .ok (.ifCond .eq 7, 3) := by decide +kernel
theorem d_Pt_escape_174 : decode b_Pt_escape 174 = .ok (.iconst (-1), 1) := by decide +kernel
theorem d_Pt_escape_175 : decode b_Pt_escape 175 = .ok (.goto 5, 3) := by decide +kernel
theorem d_Pt_escape_178 : decode b_Pt_escape 178 = .ok (.ldc 80, 2) := by decide +kernel
theorem d_Pt_escape_180 : decode b_Pt_escape 180 = .ok (.ireturn, 1) := by decide +kernel
theorem d_Pt_escape_181 : decode b_Pt_escape 181 = .ok (.aload_n 0, 1) := by decide +kernel
theorem d_Pt_escape_182 : decode b_Pt_escape 182 = .ok (.iconst 2, 1) := by decide +kernel
theorem d_Pt_escape_183 : decode b_Pt_escape 183 = .ok (.invokevirtual 81, 3) := by decide +kernel
theorem d_Pt_escape_186 : decode b_Pt_escape 186 = .ok (.ireturn, 1) := by decide +kernel
theorem d_Pt_escape_187 : decode b_Pt_escape 187 = .ok (.aload_n 0, 1) := by decide +kernel
theorem d_Pt_escape_188 : decode b_Pt_escape 188 = .ok (.dup, 1) := by decide +kernel
theorem d_Pt_escape_189 : decode b_Pt_escape 189 = .ok (.getfield 53, 3) := by decide +kernel
theorem d_Pt_escape_192 : decode b_Pt_escape 192 = .ok (.iload_n 3, 1) := by decide +kernel
theorem d_Pt_escape_193 : decode b_Pt_escape 193 = .ok (.bipush 123, 2) := by decide +kernel
theorem d_Pt_escape_195 : decode b_Pt_escape 195 = .ok (.if_icmp .ne 7, 3) := by decide +kernel
theorem d_Pt_escape_198 : decode b_Pt_escape 198 = .ok (.iconst 1, 1) := by decide +kernel
theorem d_Pt_escape_199 : decode b_Pt_escape 199 = .ok (.goto 4, 3) := by decide +kernel
theorem d_Pt_escape_202 : decode b_Pt_escape 202 = .ok (.iconst 0, 1) := by decide +kernel
theorem d_Pt_escape_203 : decode b_Pt_escape 203 = .ok (.iadd, 1) := by decide +kernel
theorem d_Pt_escape_204 : decode b_Pt_escape 204 = .ok (.putfield 53, 3) := by decide +kernel
theorem d_Pt_escape_207 : decode b_Pt_escape 207 = .ok (.aload_n 0, 1) := by decide +kernel
theorem d_Pt_escape_208 : decode b_Pt_escape 208 = .ok (.iload_n 3, 1) := by decide +kernel
theorem d_Pt_escape_209 : decode b_Pt_escape 209 = .ok (.bipush 123, 2) := by decide +kernel
theorem d_Pt_escape_211 : decode b_Pt_escape 211 = .ok (.if_icmp .ne 7, 3) := by decide +kernel
theorem d_Pt_escape_214 : decode b_Pt_escape 214 = .ok (.iconst 0, 1) := by decide +kernel
theorem d_Pt_escape_215 : decode b_Pt_escape 215 = .ok (.goto 4, 3) := by decide +kernel
theorem d_Pt_escape_218 : decode b_Pt_escape 218 = .ok (.iconst 4, 1) := by decide +kernel
theorem d_Pt_escape_219 : decode b_Pt_escape 219 = .ok (.invokevirtual 81, 3) := by decide +kernel
theorem d_Pt_escape_222 : decode b_Pt_escape 222 = .ok (.ireturn, 1) := by decide +kernel
theorem d_Pt_escape_223 : decode b_Pt_escape 223 = .ok (.iload_n 1, 1) := by decide +kernel
theorem d_Pt_escape_224 : decode b_Pt_escape 224 = .ok (.ifCond .eq 8, 3) := by decide +kernel
theorem d_Pt_escape_227 : decode b_Pt_escape 227 = .ok (.ldc 84, 2) := by decide +kernel
theorem d_Pt_escape_229 : decode b_Pt_escape 229 = .ok (.goto 4, 3) := by decide +kernel
theorem d_Pt_escape_232 : decode b_Pt_escape 232 = .ok (.iconst (-1), 1) := by decide +kernel
theorem d_Pt_escape_233 : decode b_Pt_escape 233 = .ok (.ireturn, 1) := by decide +kernel
theorem d_Pt_escape_234 : decode b_Pt_escape 234 = .ok (.iload_n 1, 1) := by decide +kernel
theorem d_Pt_escape_235 : decode b_Pt_escape 235 = .ok (.ifCond .eq 10, 3) := by decide +kernel
theorem d_Pt_escape_238 : decode b_Pt_escape 238 = .ok (.ldc 80, 2) := by decide +kernel
theorem d_Pt_escape_240 : decode b_Pt_escape 240 = .ok (.iload_n 2, 1) := by decide +kernel
theorem d_Pt_escape_241 : decode b_Pt_escape 241 = .ok (.ior, 1) := by decide +kernel
theorem d_Pt_escape_242 : decode b_Pt_escape 242 = .ok (.goto 4, 3) := by decide +kernel
theorem d_Pt_escape_245 : decode b_Pt_escape 245 = .ok (.iconst (-1), 1) := by decide +kernel
theorem d_Pt_escape_246 : decode b_Pt_escape 246 = .ok (.ireturn, 1) := by decide +kernel
theorem d_Pt_escape_247 : decode b_Pt_escape 247 = .ok (.ldc 85, 2) := by decide +kernel
theorem d_Pt_escape_249 : decode b_Pt_escape 249 = .ok (.iload_n 2, 1) := by decide +kernel
theorem d_Pt_escape_250 : decode b_Pt_escape 250 = .ok (.invokestatic 62, 3) := by decide +kernel
theorem d_Pt_escape_253 : decode b_Pt_escape 253 = .ok (.ifCond .eq 16, 3) := by decide +kernel
theorem d_Pt_escape_256 : decode b_Pt_escape 256 = .ok (.ldc 87, 2) := by decide +kernel
theorem d_Pt_escape_258 : decode b_Pt_escape 258 = .ok (.iconst 1, 1) := by decide +kernel
theorem d_Pt_escape_259 : decode b_Pt_escape 259 = .ok (.ldc 85, 2) := by decide +kernel
theorem d_Pt_escape_261 : decode b_Pt_escape 261 = .ok (.iload_n 2, 1) := by decide +kernel
theorem d_Pt_escape_262 : decode b_Pt_escape 262 = .ok (.i2c, 1) := by decide +kernel
theorem d_Pt_escape_263 : decode b_Pt_escape 263 = .ok (.invokevirtual 66, 3) := by decide +kernel
theorem d_Pt_escape_266 : decode b_Pt_escape 266 = .ok (.ishl, 1) := by decide +kernel
theorem d_Pt_escape_267 : decode b_Pt_escape 267 = .ok (.ior, 1) := by decide +kernel
theorem d_Pt_escape_268 : decode b_Pt_escape 268 = .ok (.ireturn, 1) := by decide +kernel
theorem d_Pt_escape_269 : decode b_Pt_escape 269 = .ok (.ldc 88, 2) := by decide +kernel
theorem d_Pt_escape_271 : decode b_Pt_escape 271 = .ok (.iload_n 2, 1) := by decide +kernel
theorem d_Pt_escape_272 : decode b_Pt_escape 272 = .ok (.invokestatic 62, 3) := by decide +kernel
theorem d_Pt_escape_275 : decode b_Pt_escape 275 = .ok (.ifCond .eq 10, 3) := by decide +kernel
theorem d_Pt_escape_278 : decode b_Pt_escape 278 = .ok (.ldc 80, 2) := by decide +kernel
theorem d_Pt_escape_280 : decode b_Pt_escape 280 = .ok (.iload_n 2, 1) := by decide +kernel
theorem d_Pt_escape_281 : decode b_Pt_escape 281 = .ok (.ior, 1) := by decide +kernel
theorem d_Pt_escape_282 : decode b_Pt_escape 282 = .ok (.goto 4, 3) := by decide +kernel
theorem d_Pt_escape_285 : decode b_Pt_escape 285 = .ok (.iconst (-1), 1) := by decide +kernel
theorem d_Pt_escape_286 : decode b_Pt_escape 286 = .ok (.ireturn, 1) := by decide +kernel
theorem d_Pt_tokenise_0 : decode b_Pt_tokenise 0 = .ok (.aload_n 0, 1) := by decide +kernel
theorem d_Pt_tokenise_1 : decode b_Pt_tokenise 1 = .ok (.aload_n 1, 1) := by decide +kernel
theorem d_Pt_tokenise_2 : decode b_Pt_tokenise 2 = .ok (.iload_n 2, 1) := by decide +kernel
theorem d_Pt_tokenise_3 : decode b_Pt_tokenise 3 = .ok (.invokevirtual 31, 3) := by decide +kernel
theorem d_Pt_tokenise_6 : decode b_Pt_tokenise 6 = .ok (.aload_n 0, 1) := by decide +kernel
theorem d_Pt_tokenise_7 : decode b_Pt_tokenise 7 = .ok (.getfield 11, 3) := by decide +kernel
theorem d_Pt_tokenise_10 : decode b_Pt_tokenise 10 = .ok (.arraylength, 1) := by decide +kernel
theorem d_Pt_tokenise_11 : decode b_Pt_tokenise 11 = .ok (.invokestatic 37, 3) := by decide +kernel
theorem d_Pt_tokenise_14 : decode b_Pt_tokenise 14 = .ok (.putfield 43, 3) := by decide +kernel
theorem d_Pt_tokenise_17 : decode b_Pt_tokenise 17 = .ok (.iconst 0, 1) := by decide +kernel
theorem d_Pt_tokenise_18 : decode b_Pt_tokenise 18 = .ok (.istore_n 3, 1) := by decide +kernel
theorem d_Pt_tokenise_19 : decode b_Pt_tokenise 19 = .ok (.iload_n 3, 1) := by decide +kernel
theorem d_Pt_tokenise_20 : decode b_Pt_tokenise 20 = .ok (.aload_n 0, 1) := by decide +kernel
theorem d_Pt_tokenise_21 : decode b_Pt_tokenise 21 = .ok (.getfield 43, 3) := by decide +kernel
theorem d_Pt_tokenise_24 : decode b_Pt_tokenise 24 = .ok (.if_icmp .ge 21, 3) := by decide +kernel
theorem d_Pt_tokenise_27 : decode b_Pt_tokenise 27 = .ok (.aload_n 0, 1) := by decide +kernel
theorem d_Pt_tokenise_28 : decode b_Pt_tokenise 28 = .ok (.getfield 11, 3) := by decide +kernel
theorem d_Pt_tokenise_31 : decode b_Pt_tokenise 31 = .ok (.iload_n 3, 1) := by decide +kernel
theorem d_Pt_tokenise_32 : decode b_Pt_tokenise 32 = .ok (.aload_n 1, 1) := by decide +kernel
theorem d_Pt_tokenise_33 : decode b_Pt_tokenise 33 = .ok (.iload_n 2, 1) := by decide +kernel
theorem d_Pt_tokenise_34 : decode b_Pt_tokenise 34 = .ok (.iload_n 3, 1) := by decide +kernel
theorem d_Pt_tokenise_35 : decode b_Pt_tokenise 35 = .ok (.invokevirtual 47, 3) := by decide +kernel
theorem d_Pt_tokenise_38 : decode b_Pt_tokenise 38 = .ok (.iastore, 1) := by decide +kernel
theorem d_Pt_tokenise_39 : decode b_Pt_tokenise 39 = .ok (.iinc 3 1, 3) := by decide +kernel
theorem d_Pt_tokenise_42 : decode b_Pt_tokenise 42 = .ok (.goto (-23), 3) := by decide +kernel
theorem d_Pt_tokenise_45 : decode b_Pt_tokenise 45 = .ok (.iconst 0, 1) := by decide +kernel
theorem d_Pt_tokenise_46 : decode b_Pt_tokenise 46 = .ok (.istore_n 3, 1) := by decide +kernel
theorem d_Pt_tokenise_47 : decode b_Pt_tokenise 47 = .ok (.aload_n 0, 1) := by decide +kernel
theorem d_Pt_tokenise_48 : decode b_Pt_tokenise 48 = .ok (.iconst 0, 1) := by decide +kernel
theorem d_Pt_tokenise_49 : decode b_Pt_tokenise 49 = .ok (.putfield 50, 3) := by decide +kernel
theorem d_Pt_tokenise_52 : decode b_Pt_tokenise 52 = .ok (.aload_n 0, 1) := by decide +kernel
theorem d_Pt_tokenise_53 : decode b_Pt_tokenise 53 = .ok (.iconst 0, 1) := by decide +kernel
theorem d_Pt_tokenise_54 : decode b_Pt_tokenise 54 = .ok (.putfield 53, 3) := by decide +kernel
theorem d_Pt_tokenise_57 : decode b_Pt_tokenise 57 = .ok (.iconst 0, 1) := by decide +kernel
theorem d_Pt_tokenise_58 : decode b_Pt_tokenise 58 = .ok (.istore 4, 2) := by decide +kernel
theorem d_Pt_tokenise_60 : decode b_Pt_tokenise 60 = .ok (.iload 4, 2) := by decide +kernel
theorem d_Pt_tokenise_62 : decode b_Pt_tokenise 62 = .ok (.aload_n 0, 1) := by decide +kernel
theorem d_Pt_tokenise_63 : decode b_Pt_tokenise 63 = .ok (.getfield 11, 3) := by decide +kernel
theorem d_Pt_tokenise_66 : decode b_Pt_tokenise 66 = .ok (.arraylength, 1) := by decide +kernel
theorem d_Pt_tokenise_67 : decode b_Pt_tokenise 67 = .ok (.if_icmp .ge 150, 3) := by decide +kernel
theorem d_Pt_tokenise_70 : decode b_Pt_tokenise 70 = .ok (.aload_n 0, 1) := by decide +kernel
theorem d_Pt_tokenise_71 : decode b_Pt_tokenise 71 = .ok (.getfield 53, 3) := by decide +kernel
theorem d_Pt_tokenise_74 : decode b_Pt_tokenise 74 = .ok (.aload_n 0, 1) := by decide +kernel
theorem d_Pt_tokenise_75 : decode b_Pt_tokenise 75 = .ok (.getfield 43, 3) := by decide +kernel
theorem d_Pt_tokenise_78 : decode b_Pt_tokenise 78 = .ok (.if_icmp .ge 139, 3) := by decide +kernel
theorem d_Pt_tokenise_81 : decode b_Pt_tokenise 81 = .ok (.aload_n 0, 1) := by decide +kernel
theorem d_Pt_tokenise_82 : decode b_Pt_tokenise 82 = .ok (.getfield 11, 3) := by decide +kernel
theorem d_Pt_tokenise_85 : decode b_Pt_tokenise 85 = .ok (.aload_n 0, 1) := by decide +kernel
theorem d_Pt_tokenise_86 : decode b_Pt_tokenise 86 = .ok (.getfield 53, 3) := by decide +kernel
theorem d_Pt_tokenise_89 : decode b_Pt_tokenise 89 = .ok (.iaload, 1) := by decide +kernel
theorem d_Pt_tokenise_90 : decode b_Pt_tokenise 90 = .ok (.istore 5, 2) := by decide +kernel
theorem d_Pt_tokenise_92 : decode b_Pt_tokenise 92 = .ok (.aload_n 0, 1) := by decide +kernel
theorem d_Pt_tokenise_93 : decode b_Pt_tokenise 93 = .ok (.dup, 1) := by decide +kernel
theorem d_Pt_tokenise_94 : decode b_Pt_tokenise 94 = .ok (.getfield 53, 3) := by decide +kernel
theorem d_Pt_tokenise_97 : decode b_Pt_tokenise 97 = .ok (.iconst 1, 1) := by decide +kernel
theorem d_Pt_tokenise_98 : decode b_Pt_tokenise 98 = .ok (.iadd, 1) := by decide +kernel
theorem d_Pt_tokenise_99 : decode b_Pt_tokenise 99 = .ok (.putfield 53, 3) := by decide +kernel
theorem d_Pt_tokenise_102 : decode b_Pt_tokenise 102 = .ok (.iload 5, 2) := by decide +kernel
theorem d_Pt_tokenise_104 : decode b_Pt_tokenise 104 = .ok (.istore 6, 2) := by decide +kernel
theorem d_Pt_tokenise_106 : decode b_Pt_tokenise 106 = .ok (.iload 5, 2) := by decide +kernel
theorem d_Pt_tokenise_108 : decode b_Pt_tokenise 108 = .ok (.bipush 92, 2) := by decide +kernel
theorem d_Pt_tokenise_110 : decode b_Pt_tokenise 110 = .ok (.if_icmp .ne 18, 3) := by decide +kernel
theorem d_Pt_tokenise_113 : decode b_Pt_tokenise 113 = .ok (.aload_n 0, 1) := by decide +kernel
theorem d_Pt_tokenise_114 : decode b_Pt_tokenise 114 = .ok (.iload_n 3, 1) := by decide +kernel
theorem d_Pt_tokenise_115 : decode b_Pt_tokenise 115 = .ok (.invokevirtual 56, 3) := by decide +kernel
theorem d_Pt_tokenise_118 : decode b_Pt_tokenise 118 = .ok (.istore 6, 2) := by decide +kernel
theorem d_Pt_tokenise_120 : decode b_Pt_tokenise 120 = .ok (.iload 6, 2) := by decide +kernel
theorem d_Pt_tokenise_122 : decode b_Pt_tokenise 122 = .ok (.iconst (-1), 1) := by decide +kernel
theorem d_Pt_tokenise_123 : decode b_Pt_tokenise 123 = .ok (.if_icmp .ne 67, 3) := by decide +kernel
theorem d_Pt_tokenise_126 : decode b_Pt_tokenise 126 = .ok (.iconst 0, 1) := by decide +kernel
theorem d_Pt_tokenise_127 : decode b_Pt_tokenise 127 = .ok (.ireturn, 1) := by decide +kernel
theorem d_Pt_tokenise_128 : decode b_Pt_tokenise 128 = .ok (.iload_n 3, 1) := by decide +kernel
theorem d_Pt_tokenise_129 : decode b_Pt_tokenise 129 = .ok (.ifCond .eq 33, 3) := by decide +kernel
theorem d_Pt_tokenise_132 : decode b_Pt_tokenise 132 = .ok (.iload 5, 2) := by decide +kernel
theorem d_Pt_tokenise_134 : decode b_Pt_tokenise 134 = .ok (.bipush 93, 2) := by decide +kernel
theorem d_Pt_tokenise_136 : decode b_Pt_tokenise 136 = .ok (.if_icmp .eq 7, 3) := by decide +kernel
theorem d_Pt_tokenise_139 : decode b_Pt_tokenise 139 = .ok (.iconst 1, 1) := by decide +kernel
theorem d_Pt_tokenise_140 : decode b_Pt_tokenise 140 = .ok (.goto 4, 3) := by decide +kernel
theorem d_Pt_tokenise_143 : decode b_Pt_tokenise 143 = .ok (.iconst 0, 1) := by decide +kernel
theorem d_Pt_tokenise_144 : decode b_Pt_tokenise 144 = .ok (.istore_n 3, 1) := by decide +kernel
theorem d_Pt_tokenise_145 : decode b_Pt_tokenise 145 = .ok (.iload_n 3, 1) := by decide +kernel
theorem d_Pt_tokenise_146 : decode b_Pt_tokenise 146 = .ok (.ifCond .eq 8, 3) := by decide +kernel
theorem d_Pt_tokenise_149 : decode b_Pt_tokenise 149 = .ok (.iload 5, 2) := by decide +kernel
theorem d_Pt_tokenise_151 : decode b_Pt_tokenise 151 = .ok (.goto 6, 3) := by decide +kernel
theorem d_Pt_tokenise_154 : decode b_Pt_tokenise 154 = .ok (.iload 5, 2) := by decide +kernel
theorem d_Pt_tokenise_156 : decode b_Pt_tokenise 156 = .ok (.ineg, 1) := by decide +kernel
theorem d_Pt_tokenise_157 : decode b_Pt_tokenise 157 = .ok (.istore 6, 2) := by decide +kernel
theorem d_Pt_tokenise_159 : decode b_Pt_tokenise 159 = .ok (.goto 31, 3) := by decide +kernel
theorem d_Pt_tokenise_162 : decode b_Pt_tokenise 162 = .ok (.ldc 60, 2) := by decide +kernel
theorem d_Pt_tokenise_164 : decode b_Pt_tokenise 164 = .ok (.iload 5, 2) := by decide +kernel
theorem d_Pt_tokenise_166 : decode b_Pt_tokenise 166 = .ok (.invokestatic 62, 3) := by decide +kernel
theorem d_Pt_tokenise_169 : decode b_Pt_tokenise 169 = .ok (.ifCond .eq 21, 3) := by decide +kernel
theorem d_Pt_tokenise_172 : decode b_Pt_tokenise 172 = .ok (.iload 5, 2) := by decide +kernel
theorem d_Pt_tokenise_174 : decode b_Pt_tokenise 174 = .ok (.bipush 91, 2) := by decide +kernel
theorem d_Pt_tokenise_176 : decode b_Pt_tokenise 176 = .ok (.if_icmp .ne 7, 3) := by decide +kernel
theorem d_Pt_tokenise_179 : decode b_Pt_tokenise 179 = .ok (.iconst 1, 1) := by decide +kernel
theorem d_Pt_tokenise_180 : decode b_Pt_tokenise 180 = .ok (.goto 4, 3) := by decide +kernel
theorem d_Pt_tokenise_183 : decode b_Pt_tokenise 183 = .ok (.iconst 0, 1) := by decide +kernel
theorem d_Pt_tokenise_184 : decode b_Pt_tokenise 184 = .ok (.istore_n 3, 1) := by decide +kernel
theorem d_Pt_tokenise_185 : decode b_Pt_tokenise 185 = .ok (.iload 5, 2) := by decide +kernel
theorem d_Pt_tokenise_187 : decode b_Pt_tokenise 187 = .ok (.ineg, 1) := by decide +kernel
theorem d_Pt_tokenise_188 : decode b_Pt_tokenise 188 = .ok (.istore 6, 2) := by decide +kernel
theorem d_Pt_tokenise_190 : decode b_Pt_tokenise 190 = .ok (.aload_n 0, 1) := by decide +kernel
theorem d_Pt_tokenise_191 : decode b_Pt_tokenise 191 = .ok (.getfield 11, 3) := by decide +kernel
theorem d_Pt_tokenise_194 : decode b_Pt_tokenise 194 = .ok (.aload_n 0, 1) := by decide +kernel
theorem d_Pt_tokenise_195 : decode b_Pt_tokenise 195 = .ok (.getfield 50, 3) := by decide +kernel
theorem d_Pt_tokenise_198 : decode b_Pt_tokenise 198 = .ok (.iload 6, 2) := by decide +kernel
theorem d_Pt_tokenise_200 : decode b_Pt_tokenise 200 = .ok (.iastore, 1) := by decide +kernel
theorem d_Pt_tokenise_201 : decode b_Pt_tokenise 201 = .ok (.aload_n 0, 1) := by decide +kernel
theorem d_Pt_tokenise_202 : decode b_Pt_tokenise 202 = .ok (.dup, 1) := by decide +kernel
theorem d_Pt_tokenise_203 : decode b_Pt_tokenise 203 = .ok (.getfield 50, 3) := by decide +kernel
theorem d_Pt_tokenise_206 : decode b_Pt_tokenise 206 = .ok (.iconst 1, 1) := by decide +kernel
theorem d_Pt_tokenise_207 : decode b_Pt_tokenise 207 = .ok (.iadd, 1) := by decide +kernel
theorem d_Pt_tokenise_208 : decode b_Pt_tokenise 208 = .ok (.putfield 50, 3) := by decide +kernel
theorem d_Pt_tokenise_211 : decode b_Pt_tokenise 211 = .ok (.iinc 4 1, 3) := by decide +kernel
theorem d_Pt_tokenise_214 : decode b_Pt_tokenise 214 = .ok (.goto (-154), 3) := by decide +kernel
theorem d_Pt_tokenise_217 : decode b_Pt_tokenise 217 = .ok (.iload_n 3, 1) := by decide +kernel
theorem d_Pt_tokenise_218 : decode b_Pt_tokenise 218 = .ok (.ifCond .ne 7, 3) := by decide +kernel
theorem d_Pt_tokenise_221 : decode b_Pt_tokenise 221 = .ok (.iconst 1, 1) := by decide +kernel
theorem d_Pt_tokenise_222 : decode b_Pt_tokenise 222 = .ok (.goto 4, 3) := by decide +kernel
theorem d_Pt_tokenise_225 : decode b_Pt_tokenise 225 = .ok (.iconst 0, 1) := by decide +kernel
theorem d_Pt_tokenise_226 : decode b_Pt_tokenise 226 = .ok (.ireturn, 1) := by decide +kernel
theorem d_Pg_clear_0 : decode b_Pg_clear 0 = .ok (.aload_n 0, 1) := by decide +kernel
theorem d_Pg_clear_1 : decode b_Pg_clear 1 = .ok (.iconst 0, 1) := by decide +kernel
theorem d_Pg_clear_2 : decode b_Pg_clear 2 = .ok (.putfield 33, 3) := by decide +kernel
theorem d_Pg_clear_5 : decode b_Pg_clear 5 = .ok (.aload_n 0, 1) := by decide +kernel
theorem d_Pg_clear_6 : decode b_Pg_clear 6 = .ok (.iconst 0, 1) := by decide +kernel
theorem d_Pg_clear_7 : decode b_Pg_clear 7 = .ok (.putfield 37, 3) := by decide +kernel
theorem d_Pg_clear_10 : decode b_Pg_clear 10 = .ok (.return_, 1) := by decide +kernel
theorem d_Pt_beginBlock_0 : decode b_Pt_beginBlock 0 = .ok (.aload_n 0, 1) := by decide +kernel
theorem d_Pt_beginBlock_1 : decode b_Pt_beginBlock 1 = .ok (.getfield 15, 3) := by decide +kernel
theorem d_Pt_beginBlock_4 : decode b_Pt_beginBlock 4 = .ok (.aload_n 0, 1) := by decide +kernel
theorem d_Pt_beginBlock_5 : decode b_Pt_beginBlock 5 = .ok (.getfield 101, 3) := by decide +kernel
theorem d_Pt_beginBlock_8 : decode b_Pt_beginBlock 8 = .ok (.aload_n 0, 1) := by decide +kernel
theorem d_Pt_beginBlock_9 : decode b_Pt_beginBlock 9 = .ok (.getfield 27, 3) := by decide +kernel
theorem d_Pt_beginBlock_12 : decode b_Pt_beginBlock 12 = .ok (.getfield 110, 3) := by decide +kernel
theorem d_Pt_beginBlock_15 : decode b_Pt_beginBlock 15 = .ok (.iastore, 1) := by decide +kernel
theorem d_Pt_beginBlock_16 : decode b_Pt_beginBlock 16 = .ok (.aload_n 0, 1) := by decide +kernel
theorem d_Pt_beginBlock_17 : decode b_Pt_beginBlock 17 = .ok (.getfield 18, 3) := by decide +kernel
theorem d_Pt_beginBlock_20 : decode b_Pt_beginBlock 20 = .ok (.aload_n 0, 1) := by decide +kernel
theorem d_Pt_beginBlock_21 : decode b_Pt_beginBlock 21 = .ok (.getfield 101, 3) := by decide +kernel
theorem d_Pt_beginBlock_24 : decode b_Pt_beginBlock 24 = .ok (.aload_n 0, 1) := by decide +kernel
theorem d_Pt_beginBlock_25 : decode b_Pt_beginBlock 25 = .ok (.getfield 27, 3) := by decide +kernel
theorem d_Pt_beginBlock_28 : decode b_Pt_beginBlock 28 = .ok (.getfield 110, 3) := by decide +kernel
theorem d_Pt_beginBlock_31 : decode b_Pt_beginBlock 31 = .ok (.iastore, 1) := by decide +kernel
theorem d_Pt_beginBlock_32 : decode b_Pt_beginBlock 32 = .ok (.aload_n 0, 1) := by decide +kernel
theorem d_Pt_beginBlock_33 : decode b_Pt_beginBlock 33 = .ok (.getfield 21, 3) := by decide +kernel
theorem d_Pt_beginBlock_36 : decode b_Pt_beginBlock 36 = .ok (.aload_n 0, 1) := by decide +kernel
theorem d_Pt_beginBlock_37 : decode b_Pt_beginBlock 37 = .ok (.getfield 101, 3) := by decide +kernel
theorem d_Pt_beginBlock_40 : decode b_Pt_beginBlock 40 = .ok (.iconst (-1), 1) := by decide +kernel
theorem d_Pt_beginBlock_41 : decode b_Pt_beginBlock 41 = .ok (.iastore, 1) := by decide +kernel
theorem d_Pt_beginBlock_42 : decode b_Pt_beginBlock 42 = .ok (.aload_n 0, 1) := by decide +kernel
theorem d_Pt_beginBlock_43 : decode b_Pt_beginBlock 43 = .ok (.getfield 24, 3) := by decide +kernel
theorem d_Pt_beginBlock_46 : decode b_Pt_beginBlock 46 = .ok (.aload_n 0, 1) := by decide +kernel
theorem d_Pt_beginBlock_47 : decode b_Pt_beginBlock 47 = .ok (.getfield 101, 3) := by decide +kernel
theorem d_Pt_beginBlock_50 : decode b_Pt_beginBlock 50 = .ok (.aload_n 0, 1) := by decide +kernel
theorem d_Pt_beginBlock_51 : decode b_Pt_beginBlock 51 = .ok (.getfield 98, 3) := by decide +kernel
theorem d_Pt_beginBlock_54 : decode b_Pt_beginBlock 54 = .ok (.iastore, 1) := by decide +kernel
theorem d_Pt_beginBlock_55 : decode b_Pt_beginBlock 55 = .ok (.return_, 1) := by decide +kernel
theorem d_Pt_peek_0 : decode b_Pt_peek 0 = .ok (.aload_n 0, 1) := by decide +kernel
theorem d_Pt_peek_1 : decode b_Pt_peek 1 = .ok (.getfield 53, 3) := by decide +kernel
theorem d_Pt_peek_4 : decode b_Pt_peek 4 = .ok (.iload_n 1, 1) := by decide +kernel
theorem d_Pt_peek_5 : decode b_Pt_peek 5 = .ok (.iadd, 1) := by decide +kernel
theorem d_Pt_peek_6 : decode b_Pt_peek 6 = .ok (.istore_n 2, 1) := by decide +kernel
theorem d_Pt_peek_7 : decode b_Pt_peek 7 = .ok (.iload_n 2, 1) := by decide +kernel
theorem d_Pt_peek_8 : decode b_Pt_peek 8 = .ok (.ifCond .lt 20, 3) := by decide +kernel
theorem d_Pt_peek_11 : decode b_Pt_peek 11 = .ok (.iload_n 2, 1) := by decide +kernel
theorem d_Pt_peek_12 : decode b_Pt_peek 12 = .ok (.aload_n 0, 1) := by decide +kernel
theorem d_Pt_peek_13 : decode b_Pt_peek 13 = .ok (.getfield 50, 3) := by decide +kernel
theorem d_Pt_peek_16 : decode b_Pt_peek 16 = .ok (.if_icmp .ge 12, 3) := by decide +kernel
theorem d_Pt_peek_19 : decode b_Pt_peek 19 = .ok (.aload_n 0, 1) := by decide +kernel
theorem d_Pt_peek_20 : decode b_Pt_peek 20 = .ok (.getfield 11, 3) := by decide +kernel
theorem d_Pt_peek_23 : decode b_Pt_peek 23 = .ok (.iload_n 2, 1) := by decide +kernel
theorem d_Pt_peek_24 : decode b_Pt_peek 24 = .ok (.iaload, 1) := by decide +kernel
theorem d_Pt_peek_25 : decode b_Pt_peek 25 = .ok (.goto 4, 3) := by decide +kernel
theorem d_Pt_peek_28 : decode b_Pt_peek 28 = .ok (.iconst (-1), 1) := by decide +kernel
theorem d_Pt_peek_29 : decode b_Pt_peek 29 = .ok (.ireturn, 1) := by decide +kernel
theorem d_Pg_argument_0 : decode b_Pg_argument 0 = .ok (.iload_n 1, 1) := by decide +kernel
theorem d_Pg_argument_1 : decode b_Pg_argument 1 = .ok (.ifCond .lt 19, 3) := by decide +kernel
theorem d_Pg_argument_4 : decode b_Pg_argument 4 = .ok (.iload_n 1, 1) := by decide +kernel
theorem d_Pg_argument_5 : decode b_Pg_argument 5 = .ok (.sipush 1300, 3) := by decide +kernel
theorem d_Pg_argument_8 : decode b_Pg_argument 8 = .ok (.if_icmp .ge 12, 3) := by decide +kernel
theorem d_Pg_argument_11 : decode b_Pg_argument 11 = .ok (.aload_n 0, 1) := by decide +kernel
theorem d_Pg_argument_12 : decode b_Pg_argument 12 = .ok (.getfield 15, 3) := by decide +kernel
theorem d_Pg_argument_15 : decode b_Pg_argument 15 = .ok (.iload_n 1, 1) := by decide +kernel
theorem d_Pg_argument_16 : decode b_Pg_argument 16 = .ok (.iaload, 1) := by decide +kernel
theorem d_Pg_argument_17 : decode b_Pg_argument 17 = .ok (.goto 4, 3) := by decide +kernel
theorem d_Pg_argument_20 : decode b_Pg_argument 20 = .ok (.iconst (-1), 1) := by decide +kernel
theorem d_Pg_argument_21 : decode b_Pg_argument 21 = .ok (.ireturn, 1) := by decide +kernel
theorem d_Pg_setArgument_0 : decode b_Pg_setArgument 0 = .ok (.iload_n 1, 1) := by decide +kernel
theorem d_Pg_setArgument_1 : decode b_Pg_setArgument 1 = .ok (.ifCond .lt 17, 3) := by decide +kernel
theorem d_Pg_setArgument_4 : decode b_Pg_setArgument 4 = .ok (.iload_n 1, 1) := by decide +kernel
theorem d_Pg_setArgument_5 : decode b_Pg_setArgument 5 = .ok (.sipush 1300, 3) := by decide +kernel
theorem d_Pg_setArgument_8 : decode b_Pg_setArgument 8 = .ok (.if_icmp .ge 10, 3) := by decide +kernel
theorem d_Pg_setArgument_11 : decode b_Pg_setArgument 11 = .ok (.aload_n 0, 1) := by decide +kernel
theorem d_Pg_setArgument_12 : decode b_Pg_setArgument 12 = .ok (.getfield 15, 3) := by decide +kernel
theorem d_Pg_setArgument_15 : decode b_Pg_setArgument 15 = .ok (.iload_n 1, 1) := by decide +kernel
theorem d_Pg_setArgument_16 : decode b_Pg_setArgument 16 = .ok (.iload_n 2, 1) := by decide +kernel
theorem d_Pg_setArgument_17 : decode b_Pg_setArgument 17 = .ok (.iastore, 1) := by decide +kernel
theorem d_Pg_setArgument_18 : decode b_Pg_setArgument 18 = .ok (.return_, 1) := by decide +kernel
theorem d_Pt_endBlock_0 : decode b_Pt_endBlock 0 = .ok (.aload_n 0, 1) := by decide +kernel
theorem d_Pt_endBlock_1 : decode b_Pt_endBlock 1 = .ok (.getfield 21, 3) := by decide +kernel
theorem d_Pt_endBlock_4 : decode b_Pt_endBlock 4 = .ok (.aload_n 0, 1) := by decide +kernel
theorem d_Pt_endBlock_5 : decode b_Pt_endBlock 5 = .ok (.getfield 101, 3) := by decide +kernel
theorem d_Pt_endBlock_8 : decode b_Pt_endBlock 8 = .ok (.iaload, 1) := by decide +kernel
theorem d_Pt_endBlock_9 : decode b_Pt_endBlock 9 = .ok (.istore_n 1, 1) := by decide +kernel
theorem d_Pt_endBlock_10 : decode b_Pt_endBlock 10 = .ok (.iconst 0, 1) := by decide +kernel
theorem d_Pt_endBlock_11 : decode b_Pt_endBlock 11 = .ok (.istore_n 2, 1) := by decide +kernel
theorem d_Pt_endBlock_12 : decode b_Pt_endBlock 12 = .ok (.iload_n 2, 1) := by decide +kernel
theorem d_Pt_endBlock_13 : decode b_Pt_endBlock 13 = .ok (.sipush 1300, 3) := by decide +kernel
theorem d_Pt_endBlock_16 : decode b_Pt_endBlock 16 = .ok (.if_icmp .ge 42, 3) := by decide +kernel
theorem d_Pt_endBlock_19 : decode b_Pt_endBlock 19 = .ok (.iload_n 1, 1) := by decide +kernel
theorem d_Pt_endBlock_20 : decode b_Pt_endBlock 20 = .ok (.iconst (-1), 1) := by decide +kernel
theorem d_Pt_endBlock_21 : decode b_Pt_endBlock 21 = .ok (.if_icmp .eq 37, 3) := by decide +kernel
theorem d_Pt_endBlock_24 : decode b_Pt_endBlock 24 = .ok (.aload_n 0, 1) := by decide +kernel
theorem d_Pt_endBlock_25 : decode b_Pt_endBlock 25 = .ok (.getfield 27, 3) := by decide +kernel
theorem d_Pt_endBlock_28 : decode b_Pt_endBlock 28 = .ok (.iload_n 1, 1) := by decide +kernel
theorem d_Pt_endBlock_29 : decode b_Pt_endBlock 29 = .ok (.invokevirtual 158, 3) := by decide +kernel
theorem d_Pt_endBlock_32 : decode b_Pt_endBlock 32 = .ok (.istore_n 3, 1) := by decide +kernel
theorem d_Pt_endBlock_33 : decode b_Pt_endBlock 33 = .ok (.aload_n 0, 1) := by decide +kernel
theorem d_Pt_endBlock_34 : decode b_Pt_endBlock 34 = .ok (.getfield 27, 3) := by decide +kernel
theorem d_Pt_endBlock_37 : decode b_Pt_endBlock 37 = .ok (.iload_n 1, 1) := by decide +kernel
theorem d_Pt_endBlock_38 : decode b_Pt_endBlock 38 = .ok (.aload_n 0, 1) := by decide +kernel
theorem d_Pt_endBlock_39 : decode b_Pt_endBlock 39 = .ok (.getfield 27, 3) := by decide +kernel
theorem d_Pt_endBlock_42 : decode b_Pt_endBlock 42 = .ok (.getfield 110, 3) := by decide +kernel
theorem d_Pt_endBlock_45 : decode b_Pt_endBlock 45 = .ok (.iload_n 1, 1) := by decide +kernel
theorem d_Pt_endBlock_46 : decode b_Pt_endBlock 46 = .ok (.isub, 1) := by decide +kernel
theorem d_Pt_endBlock_47 : decode b_Pt_endBlock 47 = .ok (.invokevirtual 161, 3) := by decide +kernel
theorem d_Pt_endBlock_50 : decode b_Pt_endBlock 50 = .ok (.iload_n 3, 1) := by decide +kernel
theorem d_Pt_endBlock_51 : decode b_Pt_endBlock 51 = .ok (.istore_n 1, 1) := by decide +kernel
theorem d_Pt_endBlock_52 : decode b_Pt_endBlock 52 = .ok (.iinc 2 1, 3) := by decide +kernel
theorem d_Pt_endBlock_55 : decode b_Pt_endBlock 55 = .ok (.goto (-43), 3) := by decide +kernel
theorem d_Pt_endBlock_58 : decode b_Pt_endBlock 58 = .ok (.return_, 1) := by decide +kernel
theorem d_Pt_openGroup_0 : decode b_Pt_openGroup 0 = .ok (.aload_n 0, 1) := by decide +kernel
theorem d_Pt_openGroup_1 : decode b_Pt_openGroup 1 = .ok (.getfield 101, 3) := by decide +kernel
theorem d_Pt_openGroup_4 : decode b_Pt_openGroup 4 = .ok (.bipush 30, 2) := by decide +kernel
theorem d_Pt_openGroup_6 : decode b_Pt_openGroup 6 = .ok (.if_icmp .lt 5, 3) := by decide +kernel
theorem d_Pt_openGroup_9 : decode b_Pt_openGroup 9 = .ok (.iconst 0, 1) := by decide +kernel
theorem d_Pt_openGroup_10 : decode b_Pt_openGroup 10 = .ok (.ireturn, 1) := by decide +kernel
theorem d_Pt_openGroup_11 : decode b_Pt_openGroup 11 = .ok (.aload_n 0, 1) := by decide +kernel
theorem d_Pt_openGroup_12 : decode b_Pt_openGroup 12 = .ok (.iconst 0, 1) := by decide +kernel
theorem d_Pt_openGroup_13 : decode b_Pt_openGroup 13 = .ok (.invokevirtual 107, 3) := by decide +kernel
theorem d_Pt_openGroup_16 : decode b_Pt_openGroup 16 = .ok (.bipush (-63), 2) := by decide +kernel
theorem d_Pt_openGroup_18 : decode b_Pt_openGroup 18 = .ok (.if_icmp .ne 25, 3) := by decide +kernel
theorem d_Pt_openGroup_21 : decode b_Pt_openGroup 21 = .ok (.aload_n 0, 1) := by decide +kernel
theorem d_Pt_openGroup_22 : decode b_Pt_openGroup 22 = .ok (.iconst 1, 1) := by decide +kernel
theorem d_Pt_openGroup_23 : decode b_Pt_openGroup 23 = .ok (.invokevirtual 107, 3) := by decide +kernel
theorem d_Pt_openGroup_26 : decode b_Pt_openGroup 26 = .ok (.bipush 58, 2) := by decide +kernel
theorem d_Pt_openGroup_28 : decode b_Pt_openGroup 28 = .ok (.if_icmp .eq 5, 3) := by decide +kernel
theorem d_Pt_openGroup_31 : decode b_Pt_openGroup 31 = .ok (.iconst 0, 1) := by decide +kernel
theorem d_Pt_openGroup_32 : decode b_Pt_openGroup 32 = .ok (.ireturn, 1) := by decide +kernel
theorem d_Pt_openGroup_33 : decode b_Pt_openGroup 33 = .ok (.aload_n 0, 1) := by decide +kernel
theorem d_Pt_openGroup_34 : decode b_Pt_openGroup 34 = .ok (.dup, 1) := by decide +kernel
theorem d_Pt_openGroup_35 : decode b_Pt_openGroup 35 = .ok (.getfield 53, 3) := by decide +kernel
theorem d_Pt_openGroup_38 : decode b_Pt_openGroup 38 = .ok (.iconst 2, 1) := by decide +kernel
theorem d_Pt_openGroup_39 : decode b_Pt_openGroup 39 = .ok (.iadd, 1) := by decide +kernel
theorem d_Pt_openGroup_40 : decode b_Pt_openGroup 40 = .ok (.putfield 53, 3) := by decide +kernel
theorem d_Pt_openGroup_43 : decode b_Pt_openGroup 43 = .ok (.aload_n 0, 1) := by decide +kernel
theorem d_Pt_openGroup_44 : decode b_Pt_openGroup 44 = .ok (.dup, 1) := by decide +kernel
theorem d_Pt_openGroup_45 : decode b_Pt_openGroup 45 = .ok (.getfield 101, 3) := by decide +kernel
theorem d_Pt_openGroup_48 : decode b_Pt_openGroup 48 = .ok (.iconst 1, 1) := by decide +kernel
theorem d_Pt_openGroup_49 : decode b_Pt_openGroup 49 = .ok (.iadd, 1) := by decide +kernel
theorem d_Pt_openGroup_50 : decode b_Pt_openGroup 50 = .ok (.putfield 101, 3) := by decide +kernel
theorem d_Pt_openGroup_53 : decode b_Pt_openGroup 53 = .ok (.aload_n 0, 1) := by decide +kernel
theorem d_Pt_openGroup_54 : decode b_Pt_openGroup 54 = .ok (.invokevirtual 104, 3) := by decide +kernel
theorem d_Pt_openGroup_57 : decode b_Pt_openGroup 57 = .ok (.iconst 1, 1) := by decide +kernel
theorem d_Pt_openGroup_58 : decode b_Pt_openGroup 58 = .ok (.ireturn, 1) := by decide +kernel
theorem d_Pg_insert_0 : decode b_Pg_insert 0 = .ok (.iload_n 1, 1) := by decide +kernel
theorem d_Pg_insert_1 : decode b_Pg_insert 1 = .ok (.ifCond .lt 77, 3) := by decide +kernel
theorem d_Pg_insert_4 : decode b_Pg_insert 4 = .ok (.iload_n 1, 1) := by decide +kernel
theorem d_Pg_insert_5 : decode b_Pg_insert 5 = .ok (.aload_n 0, 1) := by decide +kernel
theorem d_Pg_insert_6 : decode b_Pg_insert 6 = .ok (.getfield 33, 3) := by decide +kernel
theorem d_Pg_insert_9 : decode b_Pg_insert 9 = .ok (.if_icmp .gt 69, 3) := by decide +kernel
theorem d_Pg_insert_12 : decode b_Pg_insert 12 = .ok (.aload_n 0, 1) := by decide +kernel
theorem d_Pg_insert_13 : decode b_Pg_insert 13 = .ok (.getfield 33, 3) := by decide +kernel
theorem d_Pg_insert_16 : decode b_Pg_insert 16 = .ok (.sipush 1300, 3) := by decide +kernel
theorem d_Pg_insert_19 : decode b_Pg_insert 19 = .ok (.if_icmp .ge 59, 3) := by decide +kernel
theorem d_Pg_insert_22 : decode b_Pg_insert 22 = .ok (.aload_n 0, 1) := by decide +kernel
theorem d_Pg_insert_23 : decode b_Pg_insert 23 = .ok (.getfield 9, 3) := by decide +kernel
theorem d_Pg_insert_26 : decode b_Pg_insert 26 = .ok (.iload_n 1, 1) := by decide +kernel
theorem d_Pg_insert_27 : decode b_Pg_insert 27 = .ok (.aload_n 0, 1) := by decide +kernel
theorem d_Pg_insert_28 : decode b_Pg_insert 28 = .ok (.getfield 9, 3) := by decide +kernel
theorem d_Pg_insert_31 : decode b_Pg_insert 31 = .ok (.iload_n 1, 1) := by decide +kernel
theorem d_Pg_insert_32 : decode b_Pg_insert 32 = .ok (.iconst 1, 1) := by decide +kernel
theorem d_Pg_insert_33 : decode b_Pg_insert 33 = .ok (.iadd, 1) := by decide +kernel
theorem d_Pg_insert_34 : decode b_Pg_insert 34 = .ok (.aload_n 0, 1) := by decide +kernel
theorem d_Pg_insert_35 : decode b_Pg_insert 35 = .ok (.getfield 33, 3) := by decide +kernel
theorem d_Pg_insert_38 : decode b_Pg_insert 38 = .ok (.iload_n 1, 1) := by decide +kernel
theorem d_Pg_insert_39 : decode b_Pg_insert 39 = .ok (.isub, 1) := by decide +kernel
theorem d_Pg_insert_40 : decode b_Pg_insert 40 = .ok (.invokestatic 47, 3) := by decide +kernel
theorem d_Pg_insert_43 : decode b_Pg_insert 43 = .ok (.aload_n 0, 1) := by decide +kernel
theorem d_Pg_insert_44 : decode b_Pg_insert 44 = .ok (.getfield 15, 3) := by decide +kernel
theorem d_Pg_insert_47 : decode b_Pg_insert 47 = .ok (.iload_n 1, 1) := by decide +kernel
theorem d_Pg_insert_48 : decode b_Pg_insert 48 = .ok (.aload_n 0, 1) := by decide +kernel
theorem d_Pg_insert_49 : decode b_Pg_insert 49 = .ok (.getfield 15, 3) := by decide +kernel
theorem d_Pg_insert_52 : decode b_Pg_insert 52 = .ok (.iload_n 1, 1) := by decide +kernel
theorem d_Pg_insert_53 : decode b_Pg_insert 53 = .ok (.iconst 1, 1) := by decide +kernel
theorem d_Pg_insert_54 : decode b_Pg_insert 54 = .ok (.iadd, 1) := by decide +kernel
theorem d_Pg_insert_55 : decode b_Pg_insert 55 = .ok (.aload_n 0, 1) := by decide +kernel
theorem d_Pg_insert_56 : decode b_Pg_insert 56 = .ok (.getfield 33, 3) := by decide +kernel
theorem d_Pg_insert_59 : decode b_Pg_insert 59 = .ok (.iload_n 1, 1) := by decide +kernel
theorem d_Pg_insert_60 : decode b_Pg_insert 60 = .ok (.isub, 1) := by decide +kernel
theorem d_Pg_insert_61 : decode b_Pg_insert 61 = .ok (.invokestatic 47, 3) := by decide +kernel
theorem d_Pg_insert_64 : decode b_Pg_insert 64 = .ok (.aload_n 0, 1) := by decide +kernel
theorem d_Pg_insert_65 : decode b_Pg_insert 65 = .ok (.getfield 9, 3) := by decide +kernel
theorem d_Pg_insert_68 : decode b_Pg_insert 68 = .ok (.iload_n 1, 1) := by decide +kernel
theorem d_Pg_insert_69 : decode b_Pg_insert 69 = .ok (.iload_n 2, 1) := by decide +kernel
theorem d_Pg_insert_70 : decode b_Pg_insert 70 = .ok (.iastore, 1) := by decide +kernel
theorem d_Pg_insert_71 : decode b_Pg_insert 71 = .ok (.aload_n 0, 1) := by decide +kernel
theorem d_Pg_insert_72 : decode b_Pg_insert 72 = .ok (.getfield 15, 3) := by decide +kernel
theorem d_Pg_insert_75 : decode b_Pg_insert 75 = .ok (.iload_n 1, 1) := by decide +kernel
theorem d_Pg_insert_76 : decode b_Pg_insert 76 = .ok (.iload_n 3, 1) := by decide +kernel
theorem d_Pg_insert_77 : decode b_Pg_insert 77 = .ok (.iastore, 1) := by decide +kernel
theorem d_Pg_insert_78 : decode b_Pg_insert 78 = .ok (.aload_n 0, 1) := by decide +kernel
theorem d_Pg_insert_79 : decode b_Pg_insert 79 = .ok (.aload_n 0, 1) := by decide +kernel
theorem d_Pg_insert_80 : decode b_Pg_insert 80 = .ok (.getfield 33, 3) := by decide +kernel
theorem d_Pg_insert_83 : decode b_Pg_insert 83 = .ok (.iconst 1, 1) := by decide +kernel
theorem d_Pg_insert_84 : decode b_Pg_insert 84 = .ok (.iadd, 1) := by decide +kernel
theorem d_Pg_insert_85 : decode b_Pg_insert 85 = .ok (.ldc 40, 2) := by decide +kernel
theorem d_Pg_insert_87 : decode b_Pg_insert 87 = .ok (.invokestatic 41, 3) := by decide +kernel
theorem d_Pg_insert_90 : decode b_Pg_insert 90 = .ok (.putfield 33, 3) := by decide +kernel
theorem d_Pg_insert_93 : decode b_Pg_insert 93 = .ok (.return_, 1) := by decide +kernel
theorem d_Pg_emit_0 : decode b_Pg_emit 0 = .ok (.aload_n 0, 1) := by decide +kernel
theorem d_Pg_emit_1 : decode b_Pg_emit 1 = .ok (.getfield 33, 3) := by decide +kernel
theorem d_Pg_emit_4 : decode b_Pg_emit 4 = .ok (.sipush 1300, 3) := by decide +kernel
theorem d_Pg_emit_7 : decode b_Pg_emit 7 = .ok (.if_icmp .ge 23, 3) := by decide +kernel
theorem d_Pg_emit_10 : decode b_Pg_emit 10 = .ok (.aload_n 0, 1) := by decide +kernel
theorem d_Pg_emit_11 : decode b_Pg_emit 11 = .ok (.getfield 9, 3) := by decide +kernel
theorem d_Pg_emit_14 : decode b_Pg_emit 14 = .ok (.aload_n 0, 1) := by decide +kernel
theorem d_Pg_emit_15 : decode b_Pg_emit 15 = .ok (.getfield 33, 3) := by decide +kernel
theorem d_Pg_emit_18 : decode b_Pg_emit 18 = .ok (.iload_n 1, 1) := by decide +kernel
theorem d_Pg_emit_19 : decode b_Pg_emit 19 = .ok (.iastore, 1) := by decide +kernel
theorem d_Pg_emit_20 : decode b_Pg_emit 20 = .ok (.aload_n 0, 1) := by decide +kernel
theorem d_Pg_emit_21 : decode b_Pg_emit 21 = .ok (.getfield 15, 3) := by decide +kernel
theorem d_Pg_emit_24 : decode b_Pg_emit 24 = .ok (.aload_n 0, 1) := by decide +kernel
theorem d_Pg_emit_25 : decode b_Pg_emit 25 = .ok (.getfield 33, 3) := by decide +kernel
theorem d_Pg_emit_28 : decode b_Pg_emit 28 = .ok (.iload_n 2, 1) := by decide +kernel
theorem d_Pg_emit_29 : decode b_Pg_emit 29 = .ok (.iastore, 1) := by decide +kernel
theorem d_Pg_emit_30 : decode b_Pg_emit 30 = .ok (.aload_n 0, 1) := by decide +kernel
theorem d_Pg_emit_31 : decode b_Pg_emit 31 = .ok (.aload_n 0, 1) := by decide +kernel
theorem d_Pg_emit_32 : decode b_Pg_emit 32 = .ok (.getfield 33, 3) := by decide +kernel
theorem d_Pg_emit_35 : decode b_Pg_emit 35 = .ok (.iconst 1, 1) := by decide +kernel
theorem d_Pg_emit_36 : decode b_Pg_emit 36 = .ok (.iadd, 1) := by decide +kernel
theorem d_Pg_emit_37 : decode b_Pg_emit 37 = .ok (.ldc 40, 2) := by decide +kernel
theorem d_Pg_emit_39 : decode b_Pg_emit 39 = .ok (.invokestatic 41, 3) := by decide +kernel
theorem d_Pg_emit_42 : decode b_Pg_emit 42 = .ok (.putfield 33, 3) := by decide +kernel
theorem d_Pg_emit_45 : decode b_Pg_emit 45 = .ok (.return_, 1) := by decide +kernel
theorem d_Pt_nextBranch_0 : decode b_Pt_nextBranch 0 = .ok (.aload_n 0, 1) := by decide +kernel
theorem d_Pt_nextBranch_1 : decode b_Pt_nextBranch 1 = .ok (.getfield 18, 3) := by decide +kernel
theorem d_Pt_nextBranch_4 : decode b_Pt_nextBranch 4 = .ok (.aload_n 0, 1) := by decide +kernel
theorem d_Pt_nextBranch_5 : decode b_Pt_nextBranch 5 = .ok (.getfield 101, 3) := by decide +kernel
theorem d_Pt_nextBranch_8 : decode b_Pt_nextBranch 8 = .ok (.iaload, 1) := by decide +kernel
theorem d_Pt_nextBranch_9 : decode b_Pt_nextBranch 9 = .ok (.istore_n 1, 1) := by decide +kernel
theorem d_Pt_nextBranch_10 : decode b_Pt_nextBranch 10 = .ok (.aload_n 0, 1) := by decide +kernel
theorem d_Pt_nextBranch_11 : decode b_Pt_nextBranch 11 = .ok (.getfield 27, 3) := by decide +kernel
theorem d_Pt_nextBranch_14 : decode b_Pt_nextBranch 14 = .ok (.iload_n 1, 1) := by decide +kernel
theorem d_Pt_nextBranch_15 : decode b_Pt_nextBranch 15 = .ok (.bipush 6, 2) := by decide +kernel
theorem d_Pt_nextBranch_17 : decode b_Pt_nextBranch 17 = .ok (.aload_n 0, 1) := by decide +kernel
theorem d_Pt_nextBranch_18 : decode b_Pt_nextBranch 18 = .ok (.getfield 27, 3) := by decide +kernel
theorem d_Pt_nextBranch_21 : decode b_Pt_nextBranch 21 = .ok (.getfield 110, 3) := by decide +kernel
theorem d_Pt_nextBranch_24 : decode b_Pt_nextBranch 24 = .ok (.iload_n 1, 1) := by decide +kernel
theorem d_Pt_nextBranch_25 : decode b_Pt_nextBranch 25 = .ok (.isub, 1) := by decide +kernel
theorem d_Pt_nextBranch_26 : decode b_Pt_nextBranch 26 = .ok (.iconst 2, 1) := by decide +kernel
theorem d_Pt_nextBranch_27 : decode b_Pt_nextBranch 27 = .ok (.iadd, 1) := by decide +kernel
theorem d_Pt_nextBranch_28 : decode b_Pt_nextBranch 28 = .ok (.invokevirtual 155, 3) := by decide +kernel
theorem d_Pt_nextBranch_31 : decode b_Pt_nextBranch 31 = .ok (.aload_n 0, 1) := by decide +kernel
theorem d_Pt_nextBranch_32 : decode b_Pt_nextBranch 32 = .ok (.getfield 27, 3) := by decide +kernel
theorem d_Pt_nextBranch_35 : decode b_Pt_nextBranch 35 = .ok (.bipush 7, 2) := by decide +kernel
theorem d_Pt_nextBranch_37 : decode b_Pt_nextBranch 37 = .ok (.aload_n 0, 1) := by decide +kernel
theorem d_Pt_nextBranch_38 : decode b_Pt_nextBranch 38 = .ok (.getfield 21, 3) := by decide +kernel
theorem d_Pt_nextBranch_41 : decode b_Pt_nextBranch 41 = .ok (.aload_n 0, 1) := by decide +kernel
theorem d_Pt_nextBranch_42 : decode b_Pt_nextBranch 42 = .ok (.getfield 101, 3) := by decide +kernel
theorem d_Pt_nextBranch_45 : decode b_Pt_nextBranch 45 = .ok (.iaload, 1) := by decide +kernel
theorem d_Pt_nextBranch_46 : decode b_Pt_nextBranch 46 = .ok (.invokevirtual 151, 3) := by decide +kernel
theorem d_Pt_nextBranch_49 : decode b_Pt_nextBranch 49 = .ok (.aload_n 0, 1) := by decide +kernel
theorem d_Pt_nextBranch_50 : decode b_Pt_nextBranch 50 = .ok (.getfield 21, 3) := by decide +kernel
theorem d_Pt_nextBranch_53 : decode b_Pt_nextBranch 53 = .ok (.aload_n 0, 1) := by decide +kernel
theorem d_Pt_nextBranch_54 : decode b_Pt_nextBranch 54 = .ok (.getfield 101, 3) := by decide +kernel
theorem d_Pt_nextBranch_57 : decode b_Pt_nextBranch 57 = .ok (.aload_n 0, 1) := by decide +kernel
theorem d_Pt_nextBranch_58 : decode b_Pt_nextBranch 58 = .ok (.getfield 27, 3) := by decide +kernel
theorem d_Pt_nextBranch_61 : decode b_Pt_nextBranch 61 = .ok (.getfield 110, 3) := by decide +kernel
theorem d_Pt_nextBranch_64 : decode b_Pt_nextBranch 64 = .ok (.iconst 1, 1) := by decide +kernel
theorem d_Pt_nextBranch_65 : decode b_Pt_nextBranch 65 = .ok (.isub, 1) := by decide +kernel
theorem d_Pt_nextBranch_66 : decode b_Pt_nextBranch 66 = .ok (.iastore, 1) := by decide +kernel
theorem d_Pt_nextBranch_67 : decode b_Pt_nextBranch 67 = .ok (.aload_n 0, 1) := by decide +kernel
theorem d_Pt_nextBranch_68 : decode b_Pt_nextBranch 68 = .ok (.getfield 18, 3) := by decide +kernel
theorem d_Pt_nextBranch_71 : decode b_Pt_nextBranch 71 = .ok (.aload_n 0, 1) := by decide +kernel
theorem d_Pt_nextBranch_72 : decode b_Pt_nextBranch 72 = .ok (.getfield 101, 3) := by decide +kernel
theorem d_Pt_nextBranch_75 : decode b_Pt_nextBranch 75 = .ok (.aload_n 0, 1) := by decide +kernel
theorem d_Pt_nextBranch_76 : decode b_Pt_nextBranch 76 = .ok (.getfield 27, 3) := by decide +kernel
theorem d_Pt_nextBranch_79 : decode b_Pt_nextBranch 79 = .ok (.getfield 110, 3) := by decide +kernel
theorem d_Pt_nextBranch_82 : decode b_Pt_nextBranch 82 = .ok (.iastore, 1) := by decide +kernel
theorem d_Pt_nextBranch_83 : decode b_Pt_nextBranch 83 = .ok (.aload_n 0, 1) := by decide +kernel
theorem d_Pt_nextBranch_84 : decode b_Pt_nextBranch 84 = .ok (.dup, 1) := by decide +kernel
theorem d_Pt_nextBranch_85 : decode b_Pt_nextBranch 85 = .ok (.getfield 98, 3) := by decide +kernel
theorem d_Pt_nextBranch_88 : decode b_Pt_nextBranch 88 = .ok (.iconst 1, 1) := by decide +kernel
theorem d_Pt_nextBranch_89 : decode b_Pt_nextBranch 89 = .ok (.iadd, 1) := by decide +kernel
theorem d_Pt_nextBranch_90 : decode b_Pt_nextBranch 90 = .ok (.putfield 98, 3) := by decide +kernel
theorem d_Pt_nextBranch_93 : decode b_Pt_nextBranch 93 = .ok (.return_, 1) := by decide +kernel
