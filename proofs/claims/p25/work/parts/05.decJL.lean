theorem dJ6_bitCount_0f7a4_0 : decode cJ6_bitCount_0f7a4 0 = .ok (.iload_n 0, 1) := by decide +kernel
theorem dJ6_bitCount_0f7a4_1 : decode cJ6_bitCount_0f7a4 1 = .ok (.iload_n 0, 1) := by decide +kernel
theorem dJ6_bitCount_0f7a4_2 : decode cJ6_bitCount_0f7a4 2 = .ok (.iconst 1, 1) := by decide +kernel
theorem dJ6_bitCount_0f7a4_3 : decode cJ6_bitCount_0f7a4 3 = .ok (.iushr, 1) := by decide +kernel
theorem dJ6_bitCount_0f7a4_4 : decode cJ6_bitCount_0f7a4 4 = .ok (.ldc_w 265, 3) := by decide +kernel
theorem dJ6_bitCount_0f7a4_7 : decode cJ6_bitCount_0f7a4 7 = .ok (.iand, 1) := by decide +kernel
theorem dJ6_bitCount_0f7a4_8 : decode cJ6_bitCount_0f7a4 8 = .ok (.isub, 1) := by decide +kernel
theorem dJ6_bitCount_0f7a4_9 : decode cJ6_bitCount_0f7a4 9 = .ok (.istore_n 0, 1) := by decide +kernel
theorem dJ6_bitCount_0f7a4_10 : decode cJ6_bitCount_0f7a4 10 = .ok (.iload_n 0, 1) := by decide +kernel
theorem dJ6_bitCount_0f7a4_11 : decode cJ6_bitCount_0f7a4 11 = .ok (.ldc_w 266, 3) := by decide +kernel
theorem dJ6_bitCount_0f7a4_14 : decode cJ6_bitCount_0f7a4 14 = .ok (.iand, 1) := by decide +kernel
theorem dJ6_bitCount_0f7a4_15 : decode cJ6_bitCount_0f7a4 15 = .ok (.iload_n 0, 1) := by decide +kernel
theorem dJ6_bitCount_0f7a4_16 : decode cJ6_bitCount_0f7a4 16 = .ok (.iconst 2, 1) := by decide +kernel
theorem dJ6_bitCount_0f7a4_17 : decode cJ6_bitCount_0f7a4 17 = .ok (.iushr, 1) := by decide +kernel
theorem dJ6_bitCount_0f7a4_18 : decode cJ6_bitCount_0f7a4 18 = .ok (.ldc_w 266, 3) := by decide +kernel
theorem dJ6_bitCount_0f7a4_21 : decode cJ6_bitCount_0f7a4 21 = .ok (.iand, 1) := by decide +kernel
theorem dJ6_bitCount_0f7a4_22 : decode cJ6_bitCount_0f7a4 22 = .ok (.iadd, 1) := by decide +kernel
theorem dJ6_bitCount_0f7a4_23 : decode cJ6_bitCount_0f7a4 23 = .ok (.istore_n 0, 1) := by decide +kernel
theorem dJ6_bitCount_0f7a4_24 : decode cJ6_bitCount_0f7a4 24 = .ok (.iload_n 0, 1) := by decide +kernel
theorem dJ6_bitCount_0f7a4_25 : decode cJ6_bitCount_0f7a4 25 = .ok (.iload_n 0, 1) := by decide +kernel
theorem dJ6_bitCount_0f7a4_26 : decode cJ6_bitCount_0f7a4 26 = .ok (.iconst 4, 1) := by decide +kernel
theorem dJ6_bitCount_0f7a4_27 : decode cJ6_bitCount_0f7a4 27 = .ok (.iushr, 1) := by decide +kernel
theorem dJ6_bitCount_0f7a4_28 : decode cJ6_bitCount_0f7a4 28 = .ok (.iadd, 1) := by decide +kernel
theorem dJ6_bitCount_0f7a4_29 : decode cJ6_bitCount_0f7a4 29 = .ok (.ldc_w 267, 3) := by decide +kernel
theorem dJ6_bitCount_0f7a4_32 : decode cJ6_bitCount_0f7a4 32 = .ok (.iand, 1) := by decide +kernel
theorem dJ6_bitCount_0f7a4_33 : decode cJ6_bitCount_0f7a4 33 = .ok (.istore_n 0, 1) := by decide +kernel
theorem dJ6_bitCount_0f7a4_34 : decode cJ6_bitCount_0f7a4 34 = .ok (.iload_n 0, 1) := by decide +kernel
theorem dJ6_bitCount_0f7a4_35 : decode cJ6_bitCount_0f7a4 35 = .ok (.iload_n 0, 1) := by decide +kernel
theorem dJ6_bitCount_0f7a4_36 : decode cJ6_bitCount_0f7a4 36 = .ok (.bipush 8, 2) := by decide +kernel
theorem dJ6_bitCount_0f7a4_38 : decode cJ6_bitCount_0f7a4 38 = .ok (.iushr, 1) := by decide +kernel
theorem dJ6_bitCount_0f7a4_39 : decode cJ6_bitCount_0f7a4 39 = .ok (.iadd, 1) := by decide +kernel
theorem dJ6_bitCount_0f7a4_40 : decode cJ6_bitCount_0f7a4 40 = .ok (.istore_n 0, 1) := by decide +kernel
theorem dJ6_bitCount_0f7a4_41 : decode cJ6_bitCount_0f7a4 41 = .ok (.iload_n 0, 1) := by decide +kernel
theorem dJ6_bitCount_0f7a4_42 : decode cJ6_bitCount_0f7a4 42 = .ok (.iload_n 0, 1) := by decide +kernel
theorem dJ6_bitCount_0f7a4_43 : decode cJ6_bitCount_0f7a4 43 = .ok (.bipush 16, 2) := by decide +kernel
theorem dJ6_bitCount_0f7a4_45 : decode cJ6_bitCount_0f7a4 45 = .ok (.iushr, 1) := by decide +kernel
theorem dJ6_bitCount_0f7a4_46 : decode cJ6_bitCount_0f7a4 46 = .ok (.iadd, 1) := by decide +kernel
theorem dJ6_bitCount_0f7a4_47 : decode cJ6_bitCount_0f7a4 47 = .ok (.istore_n 0, 1) := by decide +kernel
theorem dJ6_bitCount_0f7a4_48 : decode cJ6_bitCount_0f7a4 48 = .ok (.iload_n 0, 1) := by decide +kernel
theorem dJ6_bitCount_0f7a4_49 : decode cJ6_bitCount_0f7a4 49 = .ok (.bipush 63, 2) := by decide +kernel
theorem dJ6_bitCount_0f7a4_51 : decode cJ6_bitCount_0f7a4 51 = .ok (.iand, 1) := by decide +kernel
theorem dJ6_bitCount_0f7a4_52 : decode cJ6_bitCount_0f7a4 52 = .ok (.ireturn, 1) := by decide +kernel
theorem dJ9_max_7cf53_0 : decode cJ9_max_7cf53 0 = .ok (.iload_n 0, 1) := by decide +kernel
theorem dJ9_max_7cf53_1 : decode cJ9_max_7cf53 1 = .ok (.iload_n 1, 1) := by decide +kernel
theorem dJ9_max_7cf53_2 : decode cJ9_max_7cf53 2 = .ok (.if_icmp .lt 7, 3) := by decide +kernel
theorem dJ9_max_7cf53_5 : decode cJ9_max_7cf53 5 = .ok (.iload_n 0, 1) := by decide +kernel
theorem dJ9_max_7cf53_6 : decode cJ9_max_7cf53 6 = .ok (.goto 4, 3) := by decide +kernel
theorem dJ9_max_7cf53_9 : decode cJ9_max_7cf53 9 = .ok (.iload_n 1, 1) := by decide +kernel
theorem dJ9_max_7cf53_10 : decode cJ9_max_7cf53 10 = .ok (.ireturn, 1) := by decide +kernel
theorem dJ9_min_7cf53_0 : decode cJ9_min_7cf53 0 = .ok (.iload_n 0, 1) := by decide +kernel
theorem dJ9_min_7cf53_1 : decode cJ9_min_7cf53 1 = .ok (.iload_n 1, 1) := by decide +kernel
theorem dJ9_min_7cf53_2 : decode cJ9_min_7cf53 2 = .ok (.if_icmp .gt 7, 3) := by decide +kernel
theorem dJ9_min_7cf53_5 : decode cJ9_min_7cf53 5 = .ok (.iload_n 0, 1) := by decide +kernel
theorem dJ9_min_7cf53_6 : decode cJ9_min_7cf53 6 = .ok (.goto 4, 3) := by decide +kernel
theorem dJ9_min_7cf53_9 : decode cJ9_min_7cf53 9 = .ok (.iload_n 1, 1) := by decide +kernel
theorem dJ9_min_7cf53_10 : decode cJ9_min_7cf53 10 = .ok (.ireturn, 1) := by decide +kernel
theorem dJ7_rangeCheck_23922_0 : decode cJ7_rangeCheck_23922 0 = .ok (.iload_n 1, 1) := by decide +kernel
theorem dJ7_rangeCheck_23922_1 : decode cJ7_rangeCheck_23922 1 = .ok (.iload_n 2, 1) := by decide +kernel
theorem dJ7_rangeCheck_23922_2 : decode cJ7_rangeCheck_23922 2 = .ok (.if_icmp .le 44, 3) := by decide +kernel
theorem dJ7_rangeCheck_23922_5 : decode cJ7_rangeCheck_23922 5 = .ok (.new 43, 3) := by decide +kernel
theorem dJ7_rangeCheck_23922_8 : decode cJ7_rangeCheck_23922 8 = .ok (.dup, 1) := by decide +kernel
theorem dJ7_rangeCheck_23922_9 : decode cJ7_rangeCheck_23922 9 = .ok (.new 45, 3) := by decide +kernel
theorem dJ7_rangeCheck_23922_12 : decode cJ7_rangeCheck_23922 12 = .ok (.dup, 1) := by decide +kernel
theorem dJ7_rangeCheck_23922_13 : decode cJ7_rangeCheck_23922 13 = .ok (.invokespecial 47, 3) := by decide +kernel
theorem dJ7_rangeCheck_23922_16 : decode cJ7_rangeCheck_23922 16 = .ok (.ldc 48, 2) := by decide +kernel
theorem dJ7_rangeCheck_23922_18 : decode cJ7_rangeCheck_23922 18 = .ok (.invokevirtual 50, 3) := by decide +kernel
theorem dJ7_rangeCheck_23922_21 : decode cJ7_rangeCheck_23922 21 = .ok (.iload_n 1, 1) := by decide +kernel
theorem dJ7_rangeCheck_23922_22 : decode cJ7_rangeCheck_23922 22 = .ok (.invokevirtual 54, 3) := by decide +kernel
theorem dJ7_rangeCheck_23922_25 : decode cJ7_rangeCheck_23922 25 = .ok (.ldc 57, 2) := by decide +kernel
theorem dJ7_rangeCheck_23922_27 : decode cJ7_rangeCheck_23922 27 = .ok (.invokevirtual 50, 3) := by decide +kernel
theorem dJ7_rangeCheck_23922_30 : decode cJ7_rangeCheck_23922 30 = .ok (.iload_n 2, 1) := by decide +kernel
theorem dJ7_rangeCheck_23922_31 : decode cJ7_rangeCheck_23922 31 = .ok (.invokevirtual 54, 3) := by decide +kernel
theorem dJ7_rangeCheck_23922_34 : decode cJ7_rangeCheck_23922 34 = .ok (.ldc 59, 2) := by decide +kernel
theorem dJ7_rangeCheck_23922_36 : decode cJ7_rangeCheck_23922 36 = .ok (.invokevirtual 50, 3) := by decide +kernel
theorem dJ7_rangeCheck_23922_39 : decode cJ7_rangeCheck_23922 39 = .ok (.invokevirtual 61, 3) := by decide +kernel
theorem dJ7_rangeCheck_23922_42 : decode cJ7_rangeCheck_23922 42 = .ok (.invokespecial 65, 3) := by decide +kernel
theorem dJ7_rangeCheck_23922_45 : decode cJ7_rangeCheck_23922 45 = .ok (.athrow, 1) := by decide +kernel
theorem dJ7_rangeCheck_23922_46 : decode cJ7_rangeCheck_23922 46 = .ok (.iload_n 1, 1) := by decide +kernel
theorem dJ7_rangeCheck_23922_47 : decode cJ7_rangeCheck_23922 47 = .ok (.ifCond .ge 12, 3) := by decide +kernel
theorem dJ7_rangeCheck_23922_50 : decode cJ7_rangeCheck_23922 50 = .ok (.new 68, 3) := by decide +kernel
theorem dJ7_rangeCheck_23922_53 : decode cJ7_rangeCheck_23922 53 = .ok (.dup, 1) := by decide +kernel
theorem dJ7_rangeCheck_23922_54 : decode cJ7_rangeCheck_23922 54 = .ok (.iload_n 1, 1) := by decide +kernel
theorem dJ7_rangeCheck_23922_55 : decode cJ7_rangeCheck_23922 55 = .ok (.invokespecial 70, 3) := by decide +kernel
theorem dJ7_rangeCheck_23922_58 : decode cJ7_rangeCheck_23922 58 = .ok (.athrow, 1) := by decide +kernel
theorem dJ7_rangeCheck_23922_59 : decode cJ7_rangeCheck_23922 59 = .ok (.iload_n 2, 1) := by decide +kernel
theorem dJ7_rangeCheck_23922_60 : decode cJ7_rangeCheck_23922 60 = .ok (.iload_n 0, 1) := by decide +kernel
theorem dJ7_rangeCheck_23922_61 : decode cJ7_rangeCheck_23922 61 = .ok (.if_icmp .le 12, 3) := by decide +kernel
theorem dJ7_rangeCheck_23922_64 : decode cJ7_rangeCheck_23922 64 = .ok (.new 68, 3) := by decide +kernel
theorem dJ7_rangeCheck_23922_67 : decode cJ7_rangeCheck_23922 67 = .ok (.dup, 1) := by decide +kernel
theorem dJ7_rangeCheck_23922_68 : decode cJ7_rangeCheck_23922 68 = .ok (.iload_n 2, 1) := by decide +kernel
theorem dJ7_rangeCheck_23922_69 : decode cJ7_rangeCheck_23922 69 = .ok (.invokespecial 70, 3) := by decide +kernel
theorem dJ7_rangeCheck_23922_72 : decode cJ7_rangeCheck_23922 72 = .ok (.athrow, 1) := by decide +kernel
theorem dJ7_rangeCheck_23922_73 : decode cJ7_rangeCheck_23922 73 = .ok (.return_, 1) := by decide +kernel
theorem dJ7_fill_53178_0 : decode cJ7_fill_53178 0 = .ok (.iconst 0, 1) := by decide +kernel
theorem dJ7_fill_53178_1 : decode cJ7_fill_53178 1 = .ok (.istore_n 2, 1) := by decide +kernel
theorem dJ7_fill_53178_2 : decode cJ7_fill_53178 2 = .ok (.aload_n 0, 1) := by decide +kernel
theorem dJ7_fill_53178_3 : decode cJ7_fill_53178 3 = .ok (.arraylength, 1) := by decide +kernel
theorem dJ7_fill_53178_4 : decode cJ7_fill_53178 4 = .ok (.istore_n 3, 1) := by decide +kernel
theorem dJ7_fill_53178_5 : decode cJ7_fill_53178 5 = .ok (.iload_n 2, 1) := by decide +kernel
theorem dJ7_fill_53178_6 : decode cJ7_fill_53178 6 = .ok (.iload_n 3, 1) := by decide +kernel
theorem dJ7_fill_53178_7 : decode cJ7_fill_53178 7 = .ok (.if_icmp .ge 13, 3) := by decide +kernel
theorem dJ7_fill_53178_10 : decode cJ7_fill_53178 10 = .ok (.aload_n 0, 1) := by decide +kernel
theorem dJ7_fill_53178_11 : decode cJ7_fill_53178 11 = .ok (.iload_n 2, 1) := by decide +kernel
theorem dJ7_fill_53178_12 : decode cJ7_fill_53178 12 = .ok (.iload_n 1, 1) := by decide +kernel
theorem dJ7_fill_53178_13 : decode cJ7_fill_53178 13 = .ok (.iastore, 1) := by decide +kernel
theorem dJ7_fill_53178_14 : decode cJ7_fill_53178 14 = .ok (.iinc 2 1, 3) := by decide +kernel
theorem dJ7_fill_53178_17 : decode cJ7_fill_53178 17 = .ok (.goto (-12), 3) := by decide +kernel
theorem dJ7_fill_53178_20 : decode cJ7_fill_53178 20 = .ok (.return_, 1) := by decide +kernel
theorem dJ7_fill_fda19_0 : decode cJ7_fill_fda19 0 = .ok (.aload_n 0, 1) := by decide +kernel
theorem dJ7_fill_fda19_1 : decode cJ7_fill_fda19 1 = .ok (.arraylength, 1) := by decide +kernel
theorem dJ7_fill_fda19_2 : decode cJ7_fill_fda19 2 = .ok (.iload_n 1, 1) := by decide +kernel
theorem dJ7_fill_fda19_3 : decode cJ7_fill_fda19 3 = .ok (.iload_n 2, 1) := by decide +kernel
theorem dJ7_fill_fda19_4 : decode cJ7_fill_fda19 4 = .ok (.invokestatic 13, 3) := by decide +kernel
theorem dJ7_fill_fda19_7 : decode cJ7_fill_fda19 7 = .ok (.iload_n 1, 1) := by decide +kernel
theorem dJ7_fill_fda19_8 : decode cJ7_fill_fda19 8 = .ok (.istore 4, 2) := by decide +kernel
theorem dJ7_fill_fda19_10 : decode cJ7_fill_fda19 10 = .ok (.iload 4, 2) := by decide +kernel
theorem dJ7_fill_fda19_12 : decode cJ7_fill_fda19 12 = .ok (.iload_n 2, 1) := by decide +kernel
theorem dJ7_fill_fda19_13 : decode cJ7_fill_fda19 13 = .ok (.if_icmp .ge 14, 3) := by decide +kernel
theorem dJ7_fill_fda19_16 : decode cJ7_fill_fda19 16 = .ok (.aload_n 0, 1) := by decide +kernel
theorem dJ7_fill_fda19_17 : decode cJ7_fill_fda19 17 = .ok (.iload 4, 2) := by decide +kernel
theorem dJ7_fill_fda19_19 : decode cJ7_fill_fda19 19 = .ok (.iload_n 3, 1) := by decide +kernel
theorem dJ7_fill_fda19_20 : decode cJ7_fill_fda19 20 = .ok (.iastore, 1) := by decide +kernel
theorem dJ7_fill_fda19_21 : decode cJ7_fill_fda19 21 = .ok (.iinc 4 1, 3) := by decide +kernel
theorem dJ7_fill_fda19_24 : decode cJ7_fill_fda19 24 = .ok (.goto (-14), 3) := by decide +kernel
theorem dJ7_fill_fda19_27 : decode cJ7_fill_fda19 27 = .ok (.return_, 1) := by decide +kernel
theorem dL_cell_0 : decode cL_cell 0 = .ok (.iload_n 1, 1) := by decide +kernel
theorem dL_cell_1 : decode cL_cell 1 = .ok (.aload_n 0, 1) := by decide +kernel
theorem dL_cell_2 : decode cL_cell 2 = .ok (.arraylength, 1) := by decide +kernel
theorem dL_cell_3 : decode cL_cell 3 = .ok (.if_icmp .ge 9, 3) := by decide +kernel
theorem dL_cell_6 : decode cL_cell 6 = .ok (.aload_n 0, 1) := by decide +kernel
theorem dL_cell_7 : decode cL_cell 7 = .ok (.iload_n 1, 1) := by decide +kernel
theorem dL_cell_8 : decode cL_cell 8 = .ok (.iaload, 1) := by decide +kernel
theorem dL_cell_9 : decode cL_cell 9 = .ok (.goto 12, 3) := by decide +kernel
theorem dL_cell_12 : decode cL_cell 12 = .ok (.ldc 7, 2) := by decide +kernel
theorem dL_cell_14 : decode cL_cell 14 = .ok (.iload_n 1, 1) := by decide +kernel
theorem dL_cell_15 : decode cL_cell 15 = .ok (.iconst 1, 1) := by decide +kernel
theorem dL_cell_16 : decode cL_cell 16 = .ok (.iadd, 1) := by decide +kernel
theorem dL_cell_17 : decode cL_cell 17 = .ok (.imul, 1) := by decide +kernel
theorem dL_cell_18 : decode cL_cell 18 = .ok (.ldc 8, 2) := by decide +kernel
theorem dL_cell_20 : decode cL_cell 20 = .ok (.iadd, 1) := by decide +kernel
theorem dL_cell_21 : decode cL_cell 21 = .ok (.ireturn, 1) := by decide +kernel
theorem dL_low_0 : decode cL_low 0 = .ok (.iload_n 0, 1) := by decide +kernel
theorem dL_low_1 : decode cL_low 1 = .ok (.ldc 9, 2) := by decide +kernel
theorem dL_low_3 : decode cL_low 3 = .ok (.iand, 1) := by decide +kernel
theorem dL_low_4 : decode cL_low 4 = .ok (.iload_n 1, 1) := by decide +kernel
theorem dL_low_5 : decode cL_low 5 = .ok (.irem, 1) := by decide +kernel
theorem dL_low_6 : decode cL_low 6 = .ok (.ireturn, 1) := by decide +kernel
theorem dL_act_0 : decode cL_act 0 = .ok (.iload_n 1, 1) := by decide +kernel
theorem dL_act_1 : decode cL_act 1 = .ok (.iconst 4, 1) := by decide +kernel
theorem dL_act_2 : decode cL_act 2 = .ok (.ishr, 1) := by decide +kernel
theorem dL_act_3 : decode cL_act 3 = .ok (.iconst 5, 1) := by decide +kernel
theorem dL_act_4 : decode cL_act 4 = .ok (.invokestatic 10, 3) := by decide +kernel
theorem dL_act_7 : decode cL_act 7 = .ok (.istore_n 3, 1) := by decide +kernel
theorem dL_act_8 : decode cL_act 8 = .ok (.iload_n 1, 1) := by decide +kernel
theorem dL_act_9 : decode cL_act 9 = .ok (.bipush 13, 2) := by decide +kernel
theorem dL_act_11 : decode cL_act 11 = .ok (.invokestatic 10, 3) := by decide +kernel
theorem dL_act_14 : decode cL_act 14 = .ok (.tableswitch 191 0 9 #[54, 54, 91, 91, 122, 143, 178, 178, 178, 178], 54) := by decide +kernel
theorem dL_act_68 : decode cL_act 68 = .ok (.aload_n 0, 1) := by decide +kernel
theorem dL_act_69 : decode cL_act 69 = .ok (.iload_n 3, 1) := by decide +kernel
theorem dL_act_70 : decode cL_act 70 = .ok (.iconst 1, 1) := by decide +kernel
theorem dL_act_71 : decode cL_act 71 = .ok (.iload_n 2, 1) := by decide +kernel
theorem dL_act_72 : decode cL_act 72 = .ok (.iload_n 2, 1) := by decide +kernel
theorem dL_act_73 : decode cL_act 73 = .ok (.bipush 8, 2) := by decide +kernel
theorem dL_act_75 : decode cL_act 75 = .ok (.ishr, 1) := by decide +kernel
theorem dL_act_76 : decode cL_act 76 = .ok (.iconst 5, 1) := by decide +kernel
theorem dL_act_77 : decode cL_act 77 = .ok (.invokestatic 10, 3) := by decide +kernel
theorem dL_act_80 : decode cL_act 80 = .ok (.ifCond .ne 8, 3) := by decide +kernel
theorem dL_act_83 : decode cL_act 83 = .ok (.bipush 100, 2) := by decide +kernel
theorem dL_act_85 : decode cL_act 85 = .ok (.goto 5, 3) := by decide +kernel
theorem dL_act_88 : decode cL_act 88 = .ok (.bipush 9, 2) := by decide +kernel
theorem dL_act_90 : decode cL_act 90 = .ok (.invokestatic 10, 3) := by decide +kernel
theorem dL_act_93 : decode cL_act 93 = .ok (.iadd, 1) := by decide +kernel
theorem dL_act_94 : decode cL_act 94 = .ok (.iload_n 2, 1) := by decide +kernel
theorem dL_act_95 : decode cL_act 95 = .ok (.iconst 4, 1) := by decide +kernel
theorem dL_act_96 : decode cL_act 96 = .ok (.ishr, 1) := by decide +kernel
theorem dL_act_97 : decode cL_act 97 = .ok (.iconst 3, 1) := by decide +kernel
theorem dL_act_98 : decode cL_act 98 = .ok (.invokestatic 10, 3) := by decide +kernel
theorem dL_act_101 : decode cL_act 101 = .ok (.invokevirtual 16, 3) := by decide +kernel
theorem dL_act_104 : decode cL_act 104 = .ok (.ireturn, 1) := by decide +kernel
theorem dL_act_105 : decode cL_act 105 = .ok (.aload_n 0, 1) := by decide +kernel
theorem dL_act_106 : decode cL_act 106 = .ok (.iload_n 3, 1) := by decide +kernel
theorem dL_act_107 : decode cL_act 107 = .ok (.iconst 1, 1) := by decide +kernel
theorem dL_act_108 : decode cL_act 108 = .ok (.iload_n 2, 1) := by decide +kernel
theorem dL_act_109 : decode cL_act 109 = .ok (.iload_n 2, 1) := by decide +kernel
theorem dL_act_110 : decode cL_act 110 = .ok (.bipush 8, 2) := by decide +kernel
theorem dL_act_112 : decode cL_act 112 = .ok (.ishr, 1) := by decide +kernel
theorem dL_act_113 : decode cL_act 113 = .ok (.iconst 5, 1) := by decide +kernel
theorem dL_act_114 : decode cL_act 114 = .ok (.invokestatic 10, 3) := by decide +kernel
theorem dL_act_117 : decode cL_act 117 = .ok (.ifCond .ne 9, 3) := by decide +kernel
theorem dL_act_120 : decode cL_act 120 = .ok (.sipush 200, 3) := by decide +kernel
theorem dL_act_123 : decode cL_act 123 = .ok (.goto 5, 3) := by decide +kernel
theorem dL_act_126 : decode cL_act 126 = .ok (.bipush 12, 2) := by decide +kernel
theorem dL_act_128 : decode cL_act 128 = .ok (.invokestatic 10, 3) := by decide +kernel
theorem dL_act_131 : decode cL_act 131 = .ok (.iadd, 1) := by decide +kernel
theorem dL_act_132 : decode cL_act 132 = .ok (.invokevirtual 22, 3) := by decide +kernel
theorem dL_act_135 : decode cL_act 135 = .ok (.ireturn, 1) := by decide +kernel
theorem dL_act_136 : decode cL_act 136 = .ok (.aload_n 0, 1) := by decide +kernel
theorem dL_act_137 : decode cL_act 137 = .ok (.iload_n 3, 1) := by decide +kernel
theorem dL_act_138 : decode cL_act 138 = .ok (.iconst 1, 1) := by decide +kernel
theorem dL_act_139 : decode cL_act 139 = .ok (.iload_n 2, 1) := by decide +kernel
theorem dL_act_140 : decode cL_act 140 = .ok (.bipush 9, 2) := by decide +kernel
theorem dL_act_142 : decode cL_act 142 = .ok (.invokestatic 10, 3) := by decide +kernel
theorem dL_act_145 : decode cL_act 145 = .ok (.iadd, 1) := by decide +kernel
theorem dL_act_146 : decode cL_act 146 = .ok (.iload_n 2, 1) := by decide +kernel
theorem dL_act_147 : decode cL_act 147 = .ok (.iconst 4, 1) := by decide +kernel
theorem dL_act_148 : decode cL_act 148 = .ok (.ishr, 1) := by decide +kernel
theorem dL_act_149 : decode cL_act 149 = .ok (.iconst 3, 1) := by decide +kernel
theorem dL_act_150 : decode cL_act 150 = .ok (.invokestatic 10, 3) := by decide +kernel
theorem dL_act_153 : decode cL_act 153 = .ok (.invokevirtual 25, 3) := by decide +kernel
theorem dL_act_156 : decode cL_act 156 = .ok (.ireturn, 1) := by decide +kernel
theorem dL_act_157 : decode cL_act 157 = .ok (.iload_n 2, 1) := by decide +kernel
theorem dL_act_158 : decode cL_act 158 = .ok (.iconst 3, 1) := by decide +kernel
theorem dL_act_159 : decode cL_act 159 = .ok (.invokestatic 10, 3) := by decide +kernel
theorem dL_act_162 : decode cL_act 162 = .ok (.istore 4, 2) := by decide +kernel
theorem dL_act_164 : decode cL_act 164 = .ok (.aload_n 0, 1) := by decide +kernel
theorem dL_act_165 : decode cL_act 165 = .ok (.iload 4, 2) := by decide +kernel
theorem dL_act_167 : decode cL_act 167 = .ok (.iconst 1, 1) := by decide +kernel
theorem dL_act_168 : decode cL_act 168 = .ok (.iload_n 2, 1) := by decide +kernel
theorem dL_act_169 : decode cL_act 169 = .ok (.iconst 2, 1) := by decide +kernel
theorem dL_act_170 : decode cL_act 170 = .ok (.ishr, 1) := by decide +kernel
theorem dL_act_171 : decode cL_act 171 = .ok (.iload 4, 2) := by decide +kernel
theorem dL_act_173 : decode cL_act 173 = .ok (.iconst 2, 1) := by decide +kernel
theorem dL_act_174 : decode cL_act 174 = .ok (.if_icmp .ne 8, 3) := by decide +kernel
theorem dL_act_177 : decode cL_act 177 = .ok (.bipush 6, 2) := by decide +kernel
theorem dL_act_179 : decode cL_act 179 = .ok (.goto 5, 3) := by decide +kernel
theorem dL_act_182 : decode cL_act 182 = .ok (.bipush 9, 2) := by decide +kernel
theorem dL_act_184 : decode cL_act 184 = .ok (.invokestatic 10, 3) := by decide +kernel
theorem dL_act_187 : decode cL_act 187 = .ok (.iadd, 1) := by decide +kernel
theorem dL_act_188 : decode cL_act 188 = .ok (.invokevirtual 28, 3) := by decide +kernel
theorem dL_act_191 : decode cL_act 191 = .ok (.ireturn, 1) := by decide +kernel
theorem dL_act_192 : decode cL_act 192 = .ok (.aload_n 0, 1) := by decide +kernel
theorem dL_act_193 : decode cL_act 193 = .ok (.iload_n 1, 1) := by decide +kernel
theorem dL_act_194 : decode cL_act 194 = .ok (.iconst 4, 1) := by decide +kernel
theorem dL_act_195 : decode cL_act 195 = .ok (.ishr, 1) := by decide +kernel
theorem dL_act_196 : decode cL_act 196 = .ok (.bipush 6, 2) := by decide +kernel
theorem dL_act_198 : decode cL_act 198 = .ok (.invokestatic 10, 3) := by decide +kernel
theorem dL_act_201 : decode cL_act 201 = .ok (.invokevirtual 31, 3) := by decide +kernel
theorem dL_act_204 : decode cL_act 204 = .ok (.ireturn, 1) := by decide +kernel
theorem dL_act_205 : decode cL_act 205 = .ok (.aload_n 0, 1) := by decide +kernel
theorem dL_act_206 : decode cL_act 206 = .ok (.iconst 1, 1) := by decide +kernel
theorem dL_act_207 : decode cL_act 207 = .ok (.iload_n 2, 1) := by decide +kernel
theorem dL_act_208 : decode cL_act 208 = .ok (.bipush 7, 2) := by decide +kernel
theorem dL_act_210 : decode cL_act 210 = .ok (.invokestatic 10, 3) := by decide +kernel
theorem dL_act_213 : decode cL_act 213 = .ok (.iadd, 1) := by decide +kernel
theorem dL_act_214 : decode cL_act 214 = .ok (.invokevirtual 35, 3) := by decide +kernel
theorem dL_act_217 : decode cL_act 217 = .ok (.ireturn, 1) := by decide +kernel
theorem dL_boards_0 : decode cL_boards 0 = .ok (.iconst 0, 1) := by decide +kernel
theorem dL_boards_1 : decode cL_boards 1 = .ok (.istore_n 1, 1) := by decide +kernel
theorem dL_boards_2 : decode cL_boards 2 = .ok (.iconst 0, 1) := by decide +kernel
theorem dL_boards_3 : decode cL_boards 3 = .ok (.istore_n 2, 1) := by decide +kernel
theorem dL_boards_4 : decode cL_boards 4 = .ok (.iconst 0, 1) := by decide +kernel
theorem dL_boards_5 : decode cL_boards 5 = .ok (.istore_n 3, 1) := by decide +kernel
theorem dL_boards_6 : decode cL_boards 6 = .ok (.iconst 0, 1) := by decide +kernel
theorem dL_boards_7 : decode cL_boards 7 = .ok (.istore 4, 2) := by decide +kernel
theorem dL_boards_9 : decode cL_boards 9 = .ok (.iconst 0, 1) := by decide +kernel
theorem dL_boards_10 : decode cL_boards 10 = .ok (.istore 5, 2) := by decide +kernel
theorem dL_boards_12 : decode cL_boards 12 = .ok (.iload 5, 2) := by decide +kernel
theorem dL_boards_14 : decode cL_boards 14 = .ok (.aload_n 0, 1) := by decide +kernel
theorem dL_boards_15 : decode cL_boards 15 = .ok (.iconst 1, 1) := by decide +kernel
theorem dL_boards_16 : decode cL_boards 16 = .ok (.invokevirtual 38, 3) := by decide +kernel
theorem dL_boards_19 : decode cL_boards 19 = .ok (.if_icmp .ge 498, 3) := by decide +kernel
theorem dL_boards_22 : decode cL_boards 22 = .ok (.aload_n 0, 1) := by decide +kernel
theorem dL_boards_23 : decode cL_boards 23 = .ok (.iload 5, 2) := by decide +kernel
theorem dL_boards_25 : decode cL_boards 25 = .ok (.iconst 0, 1) := by decide +kernel
theorem dL_boards_26 : decode cL_boards 26 = .ok (.invokevirtual 41, 3) := by decide +kernel
theorem dL_boards_29 : decode cL_boards 29 = .ok (.istore 6, 2) := by decide +kernel
theorem dL_boards_31 : decode cL_boards 31 = .ok (.aload_n 0, 1) := by decide +kernel
theorem dL_boards_32 : decode cL_boards 32 = .ok (.iload 5, 2) := by decide +kernel
theorem dL_boards_34 : decode cL_boards 34 = .ok (.iconst 3, 1) := by decide +kernel
theorem dL_boards_35 : decode cL_boards 35 = .ok (.invokevirtual 41, 3) := by decide +kernel
theorem dL_boards_38 : decode cL_boards 38 = .ok (.iconst 2, 1) := by decide +kernel
theorem dL_boards_39 : decode cL_boards 39 = .ok (.if_icmp .eq 20, 3) := by decide +kernel
theorem dL_boards_42 : decode cL_boards 42 = .ok (.iload 6, 2) := by decide +kernel
theorem dL_boards_44 : decode cL_boards 44 = .ok (.ifCond .lt 19, 3) := by decide +kernel
theorem dL_boards_47 : decode cL_boards 47 = .ok (.aload_n 0, 1) := by decide +kernel
theorem dL_boards_48 : decode cL_boards 48 = .ok (.iload 6, 2) := by decide +kernel
theorem dL_boards_50 : decode cL_boards 50 = .ok (.bipush 8, 2) := by decide +kernel
theorem dL_boards_52 : decode cL_boards 52 = .ok (.invokevirtual 41, 3) := by decide +kernel
theorem dL_boards_55 : decode cL_boards 55 = .ok (.iconst 1, 1) := by decide +kernel
theorem dL_boards_56 : decode cL_boards 56 = .ok (.if_icmp .ne 7, 3) := by decide +kernel
theorem dL_boards_59 : decode cL_boards 59 = .ok (.iconst 1, 1) := by decide +kernel
theorem dL_boards_60 : decode cL_boards 60 = .ok (.goto 4, 3) := by decide +kernel
theorem dL_boards_63 : decode cL_boards 63 = .ok (.iconst 0, 1) := by decide +kernel
theorem dL_boards_64 : decode cL_boards 64 = .ok (.istore 7, 2) := by decide +kernel
theorem dL_boards_66 : decode cL_boards 66 = .ok (.iload_n 1, 1) := by decide +kernel
theorem dL_boards_67 : decode cL_boards 67 = .ok (.iload 7, 2) := by decide +kernel
theorem dL_boards_69 : decode cL_boards 69 = .ok (.ifCond .eq 10, 3) := by decide +kernel
theorem dL_boards_72 : decode cL_boards 72 = .ok (.iconst 1, 1) := by decide +kernel
theorem dL_boards_73 : decode cL_boards 73 = .ok (.iload 5, 2) := by decide +kernel
theorem dL_boards_75 : decode cL_boards 75 = .ok (.ishl, 1) := by decide +kernel
theorem dL_boards_76 : decode cL_boards 76 = .ok (.goto 4, 3) := by decide +kernel
theorem dL_boards_79 : decode cL_boards 79 = .ok (.iconst 0, 1) := by decide +kernel
theorem dL_boards_80 : decode cL_boards 80 = .ok (.ior, 1) := by decide +kernel
theorem dL_boards_81 : decode cL_boards 81 = .ok (.istore_n 1, 1) := by decide +kernel
theorem dL_boards_82 : decode cL_boards 82 = .ok (.iload_n 2, 1) := by decide +kernel
theorem dL_boards_83 : decode cL_boards 83 = .ok (.aload_n 0, 1) := by decide +kernel
theorem dL_boards_84 : decode cL_boards 84 = .ok (.iload 5, 2) := by decide +kernel
theorem dL_boards_86 : decode cL_boards 86 = .ok (.iconst 3, 1) := by decide +kernel
theorem dL_boards_87 : decode cL_boards 87 = .ok (.invokevirtual 41, 3) := by decide +kernel
theorem dL_boards_90 : decode cL_boards 90 = .ok (.iconst 2, 1) := by decide +kernel
theorem dL_boards_91 : decode cL_boards 91 = .ok (.if_icmp .ne 10, 3) := by decide +kernel
theorem dL_boards_94 : decode cL_boards 94 = .ok (.iconst 1, 1) := by decide +kernel
theorem dL_boards_95 : decode cL_boards 95 = .ok (.iload 5, 2) := by decide +kernel
theorem dL_boards_97 : decode cL_boards 97 = .ok (.ishl, 1) := by decide +kernel
theorem dL_boards_98 : decode cL_boards 98 = .ok (.goto 4, 3) := by decide +kernel
theorem dL_boards_101 : decode cL_boards 101 = .ok (.iconst 0, 1) := by decide +kernel
theorem dL_boards_102 : decode cL_boards 102 = .ok (.ior, 1) := by decide +kernel
theorem dL_boards_103 : decode cL_boards 103 = .ok (.istore_n 2, 1) := by decide +kernel
theorem dL_boards_104 : decode cL_boards 104 = .ok (.iload_n 3, 1) := by decide +kernel
theorem dL_boards_105 : decode cL_boards 105 = .ok (.aload_n 0, 1) := by decide +kernel
theorem dL_boards_106 : decode cL_boards 106 = .ok (.iload 5, 2) := by decide +kernel
theorem dL_boards_108 : decode cL_boards 108 = .ok (.iconst 3, 1) := by decide +kernel
theorem dL_boards_109 : decode cL_boards 109 = .ok (.invokevirtual 41, 3) := by decide +kernel
theorem dL_boards_112 : decode cL_boards 112 = .ok (.iconst 1, 1) := by decide +kernel
theorem dL_boards_113 : decode cL_boards 113 = .ok (.if_icmp .ne 10, 3) := by decide +kernel
theorem dL_boards_116 : decode cL_boards 116 = .ok (.iconst 1, 1) := by decide +kernel
theorem dL_boards_117 : decode cL_boards 117 = .ok (.iload 5, 2) := by decide +kernel
theorem dL_boards_119 : decode cL_boards 119 = .ok (.ishl, 1) := by decide +kernel
theorem dL_boards_120 : decode cL_boards 120 = .ok (.goto 4, 3) := by decide +kernel
theorem dL_boards_123 : decode cL_boards 123 = .ok (.iconst 0, 1) := by decide +kernel
theorem dL_boards_124 : decode cL_boards 124 = .ok (.ior, 1) := by decide +kernel
theorem dL_boards_125 : decode cL_boards 125 = .ok (.istore_n 3, 1) := by decide +kernel
theorem dL_boards_126 : decode cL_boards 126 = .ok (.iload 4, 2) := by decide +kernel
theorem dL_boards_128 : decode cL_boards 128 = .ok (.aload_n 0, 1) := by decide +kernel
theorem dL_boards_129 : decode cL_boards 129 = .ok (.iload 5, 2) := by decide +kernel
theorem dL_boards_131 : decode cL_boards 131 = .ok (.bipush 11, 2) := by decide +kernel
theorem dL_boards_133 : decode cL_boards 133 = .ok (.invokevirtual 41, 3) := by decide +kernel
theorem dL_boards_136 : decode cL_boards 136 = .ok (.iadd, 1) := by decide +kernel
theorem dL_boards_137 : decode cL_boards 137 = .ok (.istore 4, 2) := by decide +kernel
theorem dL_boards_139 : decode cL_boards 139 = .ok (.iconst 0, 1) := by decide +kernel
theorem dL_boards_140 : decode cL_boards 140 = .ok (.istore 8, 2) := by decide +kernel
theorem dL_boards_142 : decode cL_boards 142 = .ok (.iconst 1, 1) := by decide +kernel
theorem dL_boards_143 : decode cL_boards 143 = .ok (.iload 5, 2) := by decide +kernel
theorem dL_boards_145 : decode cL_boards 145 = .ok (.ishl, 1) := by decide +kernel
theorem dL_boards_146 : decode cL_boards 146 = .ok (.istore 9, 2) := by decide +kernel
theorem dL_boards_148 : decode cL_boards 148 = .ok (.iload 5, 2) := by decide +kernel
theorem dL_boards_150 : decode cL_boards 150 = .ok (.iconst 1, 1) := by decide +kernel
theorem dL_boards_151 : decode cL_boards 151 = .ok (.iadd, 1) := by decide +kernel
theorem dL_boards_152 : decode cL_boards 152 = .ok (.istore 10, 2) := by decide +kernel
theorem dL_boards_154 : decode cL_boards 154 = .ok (.iload 10, 2) := by decide +kernel
theorem dL_boards_156 : decode cL_boards 156 = .ok (.aload_n 0, 1) := by decide +kernel
theorem dL_boards_157 : decode cL_boards 157 = .ok (.iconst 1, 1) := by decide +kernel
theorem dL_boards_158 : decode cL_boards 158 = .ok (.invokevirtual 38, 3) := by decide +kernel
theorem dL_boards_161 : decode cL_boards 161 = .ok (.if_icmp .ge 64, 3) := by decide +kernel
theorem dL_boards_164 : decode cL_boards 164 = .ok (.iload 8, 2) := by decide +kernel
theorem dL_boards_166 : decode cL_boards 166 = .ok (.aload_n 0, 1) := by decide +kernel
theorem dL_boards_167 : decode cL_boards 167 = .ok (.iload 10, 2) := by decide +kernel
theorem dL_boards_169 : decode cL_boards 169 = .ok (.iconst 0, 1) := by decide +kernel
theorem dL_boards_170 : decode cL_boards 170 = .ok (.invokevirtual 41, 3) := by decide +kernel
theorem dL_boards_173 : decode cL_boards 173 = .ok (.iload 5, 2) := by decide +kernel
theorem dL_boards_175 : decode cL_boards 175 = .ok (.if_icmp .ne 13, 3) := by decide +kernel
theorem dL_boards_178 : decode cL_boards 178 = .ok (.aload_n 0, 1) := by decide +kernel
theorem dL_boards_179 : decode cL_boards 179 = .ok (.iload 10, 2) := by decide +kernel
theorem dL_boards_181 : decode cL_boards 181 = .ok (.iconst 4, 1) := by decide +kernel
theorem dL_boards_182 : decode cL_boards 182 = .ok (.invokevirtual 41, 3) := by decide +kernel
theorem dL_boards_185 : decode cL_boards 185 = .ok (.goto 4, 3) := by decide +kernel
theorem dL_boards_188 : decode cL_boards 188 = .ok (.iconst 0, 1) := by decide +kernel
theorem dL_boards_189 : decode cL_boards 189 = .ok (.iadd, 1) := by decide +kernel
theorem dL_boards_190 : decode cL_boards 190 = .ok (.istore 8, 2) := by decide +kernel
theorem dL_boards_192 : decode cL_boards 192 = .ok (.iload 9, 2) := by decide +kernel
theorem dL_boards_194 : decode cL_boards 194 = .ok (.aload_n 0, 1) := by decide +kernel
theorem dL_boards_195 : decode cL_boards 195 = .ok (.iload 10, 2) := by decide +kernel
theorem dL_boards_197 : decode cL_boards 197 = .ok (.iconst 0, 1) := by decide +kernel
theorem dL_boards_198 : decode cL_boards 198 = .ok (.invokevirtual 41, 3) := by decide +kernel
theorem dL_boards_201 : decode cL_boards 201 = .ok (.iload 5, 2) := by decide +kernel
theorem dL_boards_203 : decode cL_boards 203 = .ok (.if_icmp .ne 12, 3) := by decide +kernel
theorem dL_boards_206 : decode cL_boards 206 = .ok (.aload_n 0, 1) := by decide +kernel
theorem dL_boards_207 : decode cL_boards 207 = .ok (.iload 10, 2) := by decide +kernel
theorem dL_boards_209 : decode cL_boards 209 = .ok (.invokevirtual 44, 3) := by decide +kernel
theorem dL_boards_212 : decode cL_boards 212 = .ok (.goto 4, 3) := by decide +kernel
theorem dL_boards_215 : decode cL_boards 215 = .ok (.iconst 0, 1) := by decide +kernel
theorem dL_boards_216 : decode cL_boards 216 = .ok (.ior, 1) := by decide +kernel
theorem dL_boards_217 : decode cL_boards 217 = .ok (.istore 9, 2) := by decide +kernel
theorem dL_boards_219 : decode cL_boards 219 = .ok (.iinc 10 1, 3) := by decide +kernel
theorem dL_boards_222 : decode cL_boards 222 = .ok (.goto (-68), 3) := by decide +kernel
theorem dL_boards_225 : decode cL_boards 225 = .ok (.iconst 0, 1) := by decide +kernel
theorem dL_boards_226 : decode cL_boards 226 = .ok (.istore 10, 2) := by decide +kernel
theorem dL_boards_228 : decode cL_boards 228 = .ok (.iload 10, 2) := by decide +kernel
theorem dL_boards_230 : decode cL_boards 230 = .ok (.aload_n 0, 1) := by decide +kernel
theorem dL_boards_231 : decode cL_boards 231 = .ok (.iconst 2, 1) := by decide +kernel
theorem dL_boards_232 : decode cL_boards 232 = .ok (.invokevirtual 38, 3) := by decide +kernel
theorem dL_boards_235 : decode cL_boards 235 = .ok (.if_icmp .ge 45, 3) := by decide +kernel
theorem dL_boards_238 : decode cL_boards 238 = .ok (.iload 8, 2) := by decide +kernel
theorem dL_boards_240 : decode cL_boards 240 = .ok (.aload_n 0, 1) := by decide +kernel
theorem dL_boards_241 : decode cL_boards 241 = .ok (.iload 10, 2) := by decide +kernel
theorem dL_boards_243 : decode cL_boards 243 = .ok (.iconst 0, 1) := by decide +kernel
theorem dL_boards_244 : decode cL_boards 244 = .ok (.invokevirtual 47, 3) := by decide +kernel
theorem dL_boards_247 : decode cL_boards 247 = .ok (.iload 5, 2) := by decide +kernel
theorem dL_boards_249 : decode cL_boards 249 = .ok (.if_icmp .ne 21, 3) := by decide +kernel
theorem dL_boards_252 : decode cL_boards 252 = .ok (.aload_n 0, 1) := by decide +kernel
theorem dL_boards_253 : decode cL_boards 253 = .ok (.iload 10, 2) := by decide +kernel
theorem dL_boards_255 : decode cL_boards 255 = .ok (.iconst 1, 1) := by decide +kernel
theorem dL_boards_256 : decode cL_boards 256 = .ok (.invokevirtual 47, 3) := by decide +kernel
theorem dL_boards_259 : decode cL_boards 259 = .ok (.aload_n 0, 1) := by decide +kernel
theorem dL_boards_260 : decode cL_boards 260 = .ok (.iload 10, 2) := by decide +kernel
theorem dL_boards_262 : decode cL_boards 262 = .ok (.iconst 3, 1) := by decide +kernel
theorem dL_boards_263 : decode cL_boards 263 = .ok (.invokevirtual 47, 3) := by decide +kernel
theorem dL_boards_266 : decode cL_boards 266 = .ok (.imul, 1) := by decide +kernel
theorem dL_boards_267 : decode cL_boards 267 = .ok (.goto 4, 3) := by decide +kernel
theorem dL_boards_270 : decode cL_boards 270 = .ok (.iconst 0, 1) := by decide +kernel
theorem dL_boards_271 : decode cL_boards 271 = .ok (.iadd, 1) := by decide +kernel
theorem dL_boards_272 : decode cL_boards 272 = .ok (.istore 8, 2) := by decide +kernel
theorem dL_boards_274 : decode cL_boards 274 = .ok (.iinc 10 1, 3) := by decide +kernel
theorem dL_boards_277 : decode cL_boards 277 = .ok (.goto (-49), 3) := by decide +kernel
theorem dL_boards_280 : decode cL_boards 280 = .ok (.iload 5, 2) := by decide +kernel
theorem dL_boards_282 : decode cL_boards 282 = .ok (.ifCond .ne 7, 3) := by decide +kernel
theorem dL_boards_285 : decode cL_boards 285 = .ok (.iconst 1, 1) := by decide +kernel
theorem dL_boards_286 : decode cL_boards 286 = .ok (.goto 4, 3) := by decide +kernel
theorem dL_boards_289 : decode cL_boards 289 = .ok (.iconst 0, 1) := by decide +kernel
theorem dL_boards_290 : decode cL_boards 290 = .ok (.iload 6, 2) := by decide +kernel
theorem dL_boards_292 : decode cL_boards 292 = .ok (.bipush (-6), 2) := by decide +kernel
theorem dL_boards_294 : decode cL_boards 294 = .ok (.if_icmp .ne 7, 3) := by decide +kernel
theorem dL_boards_297 : decode cL_boards 297 = .ok (.iconst 1, 1) := by decide +kernel
theorem dL_boards_298 : decode cL_boards 298 = .ok (.goto 4, 3) := by decide +kernel
theorem dL_boards_301 : decode cL_boards 301 = .ok (.iconst 0, 1) := by decide +kernel
theorem dL_boards_302 : decode cL_boards 302 = .ok (.if_icmp .ne 207, 3) := by decide +kernel
theorem dL_boards_305 : decode cL_boards 305 = .ok (.iload 5, 2) := by decide +kernel
theorem dL_boards_307 : decode cL_boards 307 = .ok (.ifCond .le 36, 3) := by decide +kernel
theorem dL_boards_310 : decode cL_boards 310 = .ok (.iload 6, 2) := by decide +kernel
theorem dL_boards_312 : decode cL_boards 312 = .ok (.ifCond .lt 197, 3) := by decide +kernel
theorem dL_boards_315 : decode cL_boards 315 = .ok (.iload 6, 2) := by decide +kernel
theorem dL_boards_317 : decode cL_boards 317 = .ok (.iload 5, 2) := by decide +kernel
theorem dL_boards_319 : decode cL_boards 319 = .ok (.if_icmp .ge 190, 3) := by decide +kernel
theorem dL_boards_322 : decode cL_boards 322 = .ok (.aload_n 0, 1) := by decide +kernel
theorem dL_boards_323 : decode cL_boards 323 = .ok (.iload 5, 2) := by decide +kernel
theorem dL_boards_325 : decode cL_boards 325 = .ok (.bipush 9, 2) := by decide +kernel
theorem dL_boards_327 : decode cL_boards 327 = .ok (.invokevirtual 41, 3) := by decide +kernel
theorem dL_boards_330 : decode cL_boards 330 = .ok (.aload_n 0, 1) := by decide +kernel
theorem dL_boards_331 : decode cL_boards 331 = .ok (.iload 6, 2) := by decide +kernel
theorem dL_boards_333 : decode cL_boards 333 = .ok (.bipush 9, 2) := by decide +kernel
theorem dL_boards_335 : decode cL_boards 335 = .ok (.invokevirtual 41, 3) := by decide +kernel
theorem dL_boards_338 : decode cL_boards 338 = .ok (.iconst 1, 1) := by decide +kernel
theorem dL_boards_339 : decode cL_boards 339 = .ok (.iadd, 1) := by decide +kernel
theorem dL_boards_340 : decode cL_boards 340 = .ok (.if_icmp .ne 169, 3) := by decide +kernel
theorem dL_boards_343 : decode cL_boards 343 = .ok (.aload_n 0, 1) := by decide +kernel
theorem dL_boards_344 : decode cL_boards 344 = .ok (.iload 5, 2) := by decide +kernel
theorem dL_boards_346 : decode cL_boards 346 = .ok (.bipush 8, 2) := by decide +kernel
theorem dL_boards_348 : decode cL_boards 348 = .ok (.invokevirtual 41, 3) := by decide +kernel
theorem dL_boards_351 : decode cL_boards 351 = .ok (.iload 7, 2) := by decide +kernel
theorem dL_boards_353 : decode cL_boards 353 = .ok (.ifCond .eq 7, 3) := by decide +kernel
theorem dL_boards_356 : decode cL_boards 356 = .ok (.iconst 1, 1) := by decide +kernel
theorem dL_boards_357 : decode cL_boards 357 = .ok (.goto 4, 3) := by decide +kernel
theorem dL_boards_360 : decode cL_boards 360 = .ok (.iconst 0, 1) := by decide +kernel
theorem dL_boards_361 : decode cL_boards 361 = .ok (.if_icmp .ne 148, 3) := by decide +kernel
theorem dL_boards_364 : decode cL_boards 364 = .ok (.aload_n 0, 1) := by decide +kernel
theorem dL_boards_365 : decode cL_boards 365 = .ok (.iload 5, 2) := by decide +kernel
theorem dL_boards_367 : decode cL_boards 367 = .ok (.iconst 4, 1) := by decide +kernel
theorem dL_boards_368 : decode cL_boards 368 = .ok (.invokevirtual 41, 3) := by decide +kernel
theorem dL_boards_371 : decode cL_boards 371 = .ok (.iload 8, 2) := by decide +kernel
theorem dL_boards_373 : decode cL_boards 373 = .ok (.if_icmp .ne 136, 3) := by decide +kernel
theorem dL_boards_376 : decode cL_boards 376 = .ok (.iload 7, 2) := by decide +kernel
theorem dL_boards_378 : decode cL_boards 378 = .ok (.ifCond .eq 8, 3) := by decide +kernel
theorem dL_boards_381 : decode cL_boards 381 = .ok (.iload 8, 2) := by decide +kernel
theorem dL_boards_383 : decode cL_boards 383 = .ok (.ifCond .ne 126, 3) := by decide +kernel
theorem dL_boards_386 : decode cL_boards 386 = .ok (.aload_n 0, 1) := by decide +kernel
theorem dL_boards_387 : decode cL_boards 387 = .ok (.iload 5, 2) := by decide +kernel
theorem dL_boards_389 : decode cL_boards 389 = .ok (.invokevirtual 44, 3) := by decide +kernel
theorem dL_boards_392 : decode cL_boards 392 = .ok (.iload 9, 2) := by decide +kernel
theorem dL_boards_394 : decode cL_boards 394 = .ok (.if_icmp .ne 115, 3) := by decide +kernel
theorem dL_boards_397 : decode cL_boards 397 = .ok (.aload_n 0, 1) := by decide +kernel
theorem dL_boards_398 : decode cL_boards 398 = .ok (.iload 5, 2) := by decide +kernel
theorem dL_boards_400 : decode cL_boards 400 = .ok (.iconst 5, 1) := by decide +kernel
theorem dL_boards_401 : decode cL_boards 401 = .ok (.invokevirtual 41, 3) := by decide +kernel
theorem dL_boards_404 : decode cL_boards 404 = .ok (.ifCond .lt 105, 3) := by decide +kernel
theorem dL_boards_407 : decode cL_boards 407 = .ok (.aload_n 0, 1) := by decide +kernel
theorem dL_boards_408 : decode cL_boards 408 = .ok (.iload 5, 2) := by decide +kernel
theorem dL_boards_410 : decode cL_boards 410 = .ok (.iconst 5, 1) := by decide +kernel
theorem dL_boards_411 : decode cL_boards 411 = .ok (.invokevirtual 41, 3) := by decide +kernel
theorem dL_boards_414 : decode cL_boards 414 = .ok (.ldc 50, 2) := by decide +kernel
theorem dL_boards_416 : decode cL_boards 416 = .ok (.if_icmp .gt 93, 3) := by decide +kernel
theorem dL_boards_419 : decode cL_boards 419 = .ok (.aload_n 0, 1) := by decide +kernel
theorem dL_boards_420 : decode cL_boards 420 = .ok (.iload 5, 2) := by decide +kernel
theorem dL_boards_422 : decode cL_boards 422 = .ok (.bipush 6, 2) := by decide +kernel
theorem dL_boards_424 : decode cL_boards 424 = .ok (.invokevirtual 41, 3) := by decide +kernel
theorem dL_boards_427 : decode cL_boards 427 = .ok (.iconst 1, 1) := by decide +kernel
theorem dL_boards_428 : decode cL_boards 428 = .ok (.if_icmp .lt 81, 3) := by decide +kernel
theorem dL_boards_431 : decode cL_boards 431 = .ok (.aload_n 0, 1) := by decide +kernel
theorem dL_boards_432 : decode cL_boards 432 = .ok (.iload 5, 2) := by decide +kernel
theorem dL_boards_434 : decode cL_boards 434 = .ok (.iconst 3, 1) := by decide +kernel
theorem dL_boards_435 : decode cL_boards 435 = .ok (.invokevirtual 41, 3) := by decide +kernel
theorem dL_boards_438 : decode cL_boards 438 = .ok (.iconst 1, 1) := by decide +kernel
theorem dL_boards_439 : decode cL_boards 439 = .ok (.if_icmp .ne 7, 3) := by decide +kernel
theorem dL_boards_442 : decode cL_boards 442 = .ok (.iconst 1, 1) := by decide +kernel
theorem dL_boards_443 : decode cL_boards 443 = .ok (.goto 4, 3) := by decide +kernel
theorem dL_boards_446 : decode cL_boards 446 = .ok (.iconst 0, 1) := by decide +kernel
theorem dL_boards_447 : decode cL_boards 447 = .ok (.aload_n 0, 1) := by decide +kernel
theorem dL_boards_448 : decode cL_boards 448 = .ok (.iload 5, 2) := by decide +kernel
theorem dL_boards_450 : decode cL_boards 450 = .ok (.bipush 10, 2) := by decide +kernel
theorem dL_boards_452 : decode cL_boards 452 = .ok (.invokevirtual 41, 3) := by decide +kernel
theorem dL_boards_455 : decode cL_boards 455 = .ok (.ifCond .le 7, 3) := by decide +kernel
theorem dL_boards_458 : decode cL_boards 458 = .ok (.iconst 1, 1) := by decide +kernel
theorem dL_boards_459 : decode cL_boards 459 = .ok (.goto 4, 3) := by decide +kernel
theorem dL_boards_462 : decode cL_boards 462 = .ok (.iconst 0, 1) := by decide +kernel
theorem dL_boards_463 : decode cL_boards 463 = .ok (.if_icmp .ne 46, 3) := by decide +kernel
theorem dL_boards_466 : decode cL_boards 466 = .ok (.aload_n 0, 1) := by decide +kernel
theorem dL_boards_467 : decode cL_boards 467 = .ok (.iload 5, 2) := by decide +kernel
theorem dL_boards_469 : decode cL_boards 469 = .ok (.iconst 3, 1) := by decide +kernel
theorem dL_boards_470 : decode cL_boards 470 = .ok (.invokevirtual 41, 3) := by decide +kernel
theorem dL_boards_473 : decode cL_boards 473 = .ok (.ifCond .eq 14, 3) := by decide +kernel
theorem dL_boards_476 : decode cL_boards 476 = .ok (.aload_n 0, 1) := by decide +kernel
theorem dL_boards_477 : decode cL_boards 477 = .ok (.iload 5, 2) := by decide +kernel
theorem dL_boards_479 : decode cL_boards 479 = .ok (.bipush 11, 2) := by decide +kernel
theorem dL_boards_481 : decode cL_boards 481 = .ok (.invokevirtual 41, 3) := by decide +kernel
theorem dL_boards_484 : decode cL_boards 484 = .ok (.ifCond .eq 25, 3) := by decide +kernel
theorem dL_boards_487 : decode cL_boards 487 = .ok (.aload_n 0, 1) := by decide +kernel
theorem dL_boards_488 : decode cL_boards 488 = .ok (.iload 5, 2) := by decide +kernel
theorem dL_boards_490 : decode cL_boards 490 = .ok (.iconst 2, 1) := by decide +kernel
theorem dL_boards_491 : decode cL_boards 491 = .ok (.invokevirtual 41, 3) := by decide +kernel
theorem dL_boards_494 : decode cL_boards 494 = .ok (.iconst 2, 1) := by decide +kernel
theorem dL_boards_495 : decode cL_boards 495 = .ok (.if_icmp .eq 16, 3) := by decide +kernel
theorem dL_boards_498 : decode cL_boards 498 = .ok (.aload_n 0, 1) := by decide +kernel
theorem dL_boards_499 : decode cL_boards 499 = .ok (.iload 5, 2) := by decide +kernel
theorem dL_boards_501 : decode cL_boards 501 = .ok (.bipush 7, 2) := by decide +kernel
theorem dL_boards_503 : decode cL_boards 503 = .ok (.invokevirtual 41, 3) := by decide +kernel
theorem dL_boards_506 : decode cL_boards 506 = .ok (.ifCond .eq 5, 3) := by decide +kernel
theorem dL_boards_509 : decode cL_boards 509 = .ok (.iconst 0, 1) := by decide +kernel
theorem dL_boards_510 : decode cL_boards 510 = .ok (.ireturn, 1) := by decide +kernel
theorem dL_boards_511 : decode cL_boards 511 = .ok (.iinc 5 1, 3) := by decide +kernel
theorem dL_boards_514 : decode cL_boards 514 = .ok (.goto (-502), 3) := by decide +kernel
theorem dL_boards_517 : decode cL_boards 517 = .ok (.aload_n 0, 1) := by decide +kernel
theorem dL_boards_518 : decode cL_boards 518 = .ok (.iconst 3, 1) := by decide +kernel
theorem dL_boards_519 : decode cL_boards 519 = .ok (.invokevirtual 38, 3) := by decide +kernel
theorem dL_boards_522 : decode cL_boards 522 = .ok (.iload_n 1, 1) := by decide +kernel
theorem dL_boards_523 : decode cL_boards 523 = .ok (.if_icmp .ne 64, 3) := by decide +kernel
theorem dL_boards_526 : decode cL_boards 526 = .ok (.aload_n 0, 1) := by decide +kernel
theorem dL_boards_527 : decode cL_boards 527 = .ok (.iconst 5, 1) := by decide +kernel
theorem dL_boards_528 : decode cL_boards 528 = .ok (.invokevirtual 38, 3) := by decide +kernel
theorem dL_boards_531 : decode cL_boards 531 = .ok (.iload_n 2, 1) := by decide +kernel
theorem dL_boards_532 : decode cL_boards 532 = .ok (.if_icmp .ne 55, 3) := by decide +kernel
theorem dL_boards_535 : decode cL_boards 535 = .ok (.aload_n 0, 1) := by decide +kernel
theorem dL_boards_536 : decode cL_boards 536 = .ok (.bipush 6, 2) := by decide +kernel
theorem dL_boards_538 : decode cL_boards 538 = .ok (.invokevirtual 38, 3) := by decide +kernel
theorem dL_boards_541 : decode cL_boards 541 = .ok (.iload_n 3, 1) := by decide +kernel
theorem dL_boards_542 : decode cL_boards 542 = .ok (.if_icmp .ne 45, 3) := by decide +kernel
theorem dL_boards_545 : decode cL_boards 545 = .ok (.aload_n 0, 1) := by decide +kernel
theorem dL_boards_546 : decode cL_boards 546 = .ok (.bipush 7, 2) := by decide +kernel
theorem dL_boards_548 : decode cL_boards 548 = .ok (.invokevirtual 38, 3) := by decide +kernel
theorem dL_boards_551 : decode cL_boards 551 = .ok (.iload 4, 2) := by decide +kernel
theorem dL_boards_553 : decode cL_boards 553 = .ok (.if_icmp .ne 34, 3) := by decide +kernel
theorem dL_boards_556 : decode cL_boards 556 = .ok (.aload_n 0, 1) := by decide +kernel
theorem dL_boards_557 : decode cL_boards 557 = .ok (.bipush 8, 2) := by decide +kernel
theorem dL_boards_559 : decode cL_boards 559 = .ok (.invokevirtual 38, 3) := by decide +kernel
theorem dL_boards_562 : decode cL_boards 562 = .ok (.aload_n 0, 1) := by decide +kernel
theorem dL_boards_563 : decode cL_boards 563 = .ok (.iconst 1, 1) := by decide +kernel
theorem dL_boards_564 : decode cL_boards 564 = .ok (.invokevirtual 38, 3) := by decide +kernel
theorem dL_boards_567 : decode cL_boards 567 = .ok (.ifCond .ne 7, 3) := by decide +kernel
theorem dL_boards_570 : decode cL_boards 570 = .ok (.iconst 0, 1) := by decide +kernel
theorem dL_boards_571 : decode cL_boards 571 = .ok (.goto 9, 3) := by decide +kernel
theorem dL_boards_574 : decode cL_boards 574 = .ok (.aload_n 0, 1) := by decide +kernel
theorem dL_boards_575 : decode cL_boards 575 = .ok (.iconst 0, 1) := by decide +kernel
theorem dL_boards_576 : decode cL_boards 576 = .ok (.iconst 4, 1) := by decide +kernel
theorem dL_boards_577 : decode cL_boards 577 = .ok (.invokevirtual 41, 3) := by decide +kernel
theorem dL_boards_580 : decode cL_boards 580 = .ok (.if_icmp .ne 7, 3) := by decide +kernel
theorem dL_boards_583 : decode cL_boards 583 = .ok (.iconst 1, 1) := by decide +kernel
theorem dL_boards_584 : decode cL_boards 584 = .ok (.goto 4, 3) := by decide +kernel
theorem dL_boards_587 : decode cL_boards 587 = .ok (.iconst 0, 1) := by decide +kernel
theorem dL_boards_588 : decode cL_boards 588 = .ok (.ireturn, 1) := by decide +kernel
theorem dL_hangs_0 : decode cL_hangs 0 = .ok (.iconst 0, 1) := by decide +kernel
theorem dL_hangs_1 : decode cL_hangs 1 = .ok (.istore_n 1, 1) := by decide +kernel
theorem dL_hangs_2 : decode cL_hangs 2 = .ok (.iconst 0, 1) := by decide +kernel
theorem dL_hangs_3 : decode cL_hangs 3 = .ok (.istore_n 2, 1) := by decide +kernel
theorem dL_hangs_4 : decode cL_hangs 4 = .ok (.iload_n 2, 1) := by decide +kernel
theorem dL_hangs_5 : decode cL_hangs 5 = .ok (.aload_n 0, 1) := by decide +kernel
theorem dL_hangs_6 : decode cL_hangs 6 = .ok (.iconst 2, 1) := by decide +kernel
theorem dL_hangs_7 : decode cL_hangs 7 = .ok (.invokevirtual 38, 3) := by decide +kernel
theorem dL_hangs_10 : decode cL_hangs 10 = .ok (.if_icmp .ge 58, 3) := by decide +kernel
theorem dL_hangs_13 : decode cL_hangs 13 = .ok (.aload_n 0, 1) := by decide +kernel
theorem dL_hangs_14 : decode cL_hangs 14 = .ok (.iload_n 2, 1) := by decide +kernel
theorem dL_hangs_15 : decode cL_hangs 15 = .ok (.iconst 2, 1) := by decide +kernel
theorem dL_hangs_16 : decode cL_hangs 16 = .ok (.invokevirtual 47, 3) := by decide +kernel
theorem dL_hangs_19 : decode cL_hangs 19 = .ok (.iconst 1, 1) := by decide +kernel
theorem dL_hangs_20 : decode cL_hangs 20 = .ok (.if_icmp .ne 22, 3) := by decide +kernel
theorem dL_hangs_23 : decode cL_hangs 23 = .ok (.aload_n 0, 1) := by decide +kernel
theorem dL_hangs_24 : decode cL_hangs 24 = .ok (.aload_n 0, 1) := by decide +kernel
theorem dL_hangs_25 : decode cL_hangs 25 = .ok (.iload_n 2, 1) := by decide +kernel
theorem dL_hangs_26 : decode cL_hangs 26 = .ok (.iconst 0, 1) := by decide +kernel
theorem dL_hangs_27 : decode cL_hangs 27 = .ok (.invokevirtual 47, 3) := by decide +kernel
theorem dL_hangs_30 : decode cL_hangs 30 = .ok (.bipush 8, 2) := by decide +kernel
theorem dL_hangs_32 : decode cL_hangs 32 = .ok (.invokevirtual 41, 3) := by decide +kernel
theorem dL_hangs_35 : decode cL_hangs 35 = .ok (.ifCond .ne 7, 3) := by decide +kernel
theorem dL_hangs_38 : decode cL_hangs 38 = .ok (.iconst 1, 1) := by decide +kernel
theorem dL_hangs_39 : decode cL_hangs 39 = .ok (.goto 4, 3) := by decide +kernel
theorem dL_hangs_42 : decode cL_hangs 42 = .ok (.iconst 0, 1) := by decide +kernel
theorem dL_hangs_43 : decode cL_hangs 43 = .ok (.istore_n 3, 1) := by decide +kernel
theorem dL_hangs_44 : decode cL_hangs 44 = .ok (.iload_n 1, 1) := by decide +kernel
theorem dL_hangs_45 : decode cL_hangs 45 = .ok (.iload_n 3, 1) := by decide +kernel
theorem dL_hangs_46 : decode cL_hangs 46 = .ok (.iload_n 2, 1) := by decide +kernel
theorem dL_hangs_47 : decode cL_hangs 47 = .ok (.ishl, 1) := by decide +kernel
theorem dL_hangs_48 : decode cL_hangs 48 = .ok (.ior, 1) := by decide +kernel
theorem dL_hangs_49 : decode cL_hangs 49 = .ok (.istore_n 1, 1) := by decide +kernel
theorem dL_hangs_50 : decode cL_hangs 50 = .ok (.aload_n 0, 1) := by decide +kernel
theorem dL_hangs_51 : decode cL_hangs 51 = .ok (.iload_n 2, 1) := by decide +kernel
theorem dL_hangs_52 : decode cL_hangs 52 = .ok (.iconst 3, 1) := by decide +kernel
theorem dL_hangs_53 : decode cL_hangs 53 = .ok (.invokevirtual 47, 3) := by decide +kernel
theorem dL_hangs_56 : decode cL_hangs 56 = .ok (.iload_n 3, 1) := by decide +kernel
theorem dL_hangs_57 : decode cL_hangs 57 = .ok (.if_icmp .eq 5, 3) := by decide +kernel
theorem dL_hangs_60 : decode cL_hangs 60 = .ok (.iconst 0, 1) := by decide +kernel
theorem dL_hangs_61 : decode cL_hangs 61 = .ok (.ireturn, 1) := by decide +kernel
theorem dL_hangs_62 : decode cL_hangs 62 = .ok (.iinc 2 1, 3) := by decide +kernel
theorem dL_hangs_65 : decode cL_hangs 65 = .ok (.goto (-61), 3) := by decide +kernel
theorem dL_hangs_68 : decode cL_hangs 68 = .ok (.iconst 0, 1) := by decide +kernel
theorem dL_hangs_69 : decode cL_hangs 69 = .ok (.istore_n 2, 1) := by decide +kernel
theorem dL_hangs_70 : decode cL_hangs 70 = .ok (.iload_n 2, 1) := by decide +kernel
theorem dL_hangs_71 : decode cL_hangs 71 = .ok (.aload_n 0, 1) := by decide +kernel
theorem dL_hangs_72 : decode cL_hangs 72 = .ok (.iconst 1, 1) := by decide +kernel
theorem dL_hangs_73 : decode cL_hangs 73 = .ok (.invokevirtual 38, 3) := by decide +kernel
theorem dL_hangs_76 : decode cL_hangs 76 = .ok (.if_icmp .ge 49, 3) := by decide +kernel
theorem dL_hangs_79 : decode cL_hangs 79 = .ok (.aload_n 0, 1) := by decide +kernel
theorem dL_hangs_80 : decode cL_hangs 80 = .ok (.iload_n 2, 1) := by decide +kernel
theorem dL_hangs_81 : decode cL_hangs 81 = .ok (.invokevirtual 51, 3) := by decide +kernel
theorem dL_hangs_84 : decode cL_hangs 84 = .ok (.istore_n 3, 1) := by decide +kernel
theorem dL_hangs_85 : decode cL_hangs 85 = .ok (.iload_n 3, 1) := by decide +kernel
theorem dL_hangs_86 : decode cL_hangs 86 = .ok (.iload_n 1, 1) := by decide +kernel
theorem dL_hangs_87 : decode cL_hangs 87 = .ok (.iconst (-1), 1) := by decide +kernel
theorem dL_hangs_88 : decode cL_hangs 88 = .ok (.ixor, 1) := by decide +kernel
theorem dL_hangs_89 : decode cL_hangs 89 = .ok (.iand, 1) := by decide +kernel
theorem dL_hangs_90 : decode cL_hangs 90 = .ok (.ifCond .ne 27, 3) := by decide +kernel
theorem dL_hangs_93 : decode cL_hangs 93 = .ok (.aload_n 0, 1) := by decide +kernel
theorem dL_hangs_94 : decode cL_hangs 94 = .ok (.iload_n 2, 1) := by decide +kernel
theorem dL_hangs_95 : decode cL_hangs 95 = .ok (.bipush 8, 2) := by decide +kernel
theorem dL_hangs_97 : decode cL_hangs 97 = .ok (.invokevirtual 41, 3) := by decide +kernel
theorem dL_hangs_100 : decode cL_hangs 100 = .ok (.iconst 1, 1) := by decide +kernel
theorem dL_hangs_101 : decode cL_hangs 101 = .ok (.if_icmp .ne 7, 3) := by decide +kernel
theorem dL_hangs_104 : decode cL_hangs 104 = .ok (.iload_n 3, 1) := by decide +kernel
theorem dL_hangs_105 : decode cL_hangs 105 = .ok (.ifCond .ne 12, 3) := by decide +kernel
theorem dL_hangs_108 : decode cL_hangs 108 = .ok (.iload_n 2, 1) := by decide +kernel
theorem dL_hangs_109 : decode cL_hangs 109 = .ok (.ifCond .ne 10, 3) := by decide +kernel
theorem dL_hangs_112 : decode cL_hangs 112 = .ok (.iload_n 3, 1) := by decide +kernel
theorem dL_hangs_113 : decode cL_hangs 113 = .ok (.iload_n 1, 1) := by decide +kernel
theorem dL_hangs_114 : decode cL_hangs 114 = .ok (.if_icmp .eq 5, 3) := by decide +kernel
theorem dL_hangs_117 : decode cL_hangs 117 = .ok (.iconst 0, 1) := by decide +kernel
theorem dL_hangs_118 : decode cL_hangs 118 = .ok (.ireturn, 1) := by decide +kernel
theorem dL_hangs_119 : decode cL_hangs 119 = .ok (.iinc 2 1, 3) := by decide +kernel
theorem dL_hangs_122 : decode cL_hangs 122 = .ok (.goto (-52), 3) := by decide +kernel
theorem dL_hangs_125 : decode cL_hangs 125 = .ok (.aload_n 0, 1) := by decide +kernel
theorem dL_hangs_126 : decode cL_hangs 126 = .ok (.bipush 7, 2) := by decide +kernel
theorem dL_hangs_128 : decode cL_hangs 128 = .ok (.invokevirtual 38, 3) := by decide +kernel
theorem dL_hangs_131 : decode cL_hangs 131 = .ok (.bipush 8, 2) := by decide +kernel
theorem dL_hangs_133 : decode cL_hangs 133 = .ok (.if_icmp .ge 12, 3) := by decide +kernel
theorem dL_hangs_136 : decode cL_hangs 136 = .ok (.aload_n 0, 1) := by decide +kernel
theorem dL_hangs_137 : decode cL_hangs 137 = .ok (.bipush 7, 2) := by decide +kernel
theorem dL_hangs_139 : decode cL_hangs 139 = .ok (.invokevirtual 38, 3) := by decide +kernel
theorem dL_hangs_142 : decode cL_hangs 142 = .ok (.goto 5, 3) := by decide +kernel
theorem dL_hangs_145 : decode cL_hangs 145 = .ok (.bipush 8, 2) := by decide +kernel
theorem dL_hangs_147 : decode cL_hangs 147 = .ok (.istore_n 2, 1) := by decide +kernel
theorem dL_hangs_148 : decode cL_hangs 148 = .ok (.iconst 0, 1) := by decide +kernel
theorem dL_hangs_149 : decode cL_hangs 149 = .ok (.istore_n 3, 1) := by decide +kernel
theorem dL_hangs_150 : decode cL_hangs 150 = .ok (.iload_n 3, 1) := by decide +kernel
theorem dL_hangs_151 : decode cL_hangs 151 = .ok (.bipush 8, 2) := by decide +kernel
theorem dL_hangs_153 : decode cL_hangs 153 = .ok (.if_icmp .ge 58, 3) := by decide +kernel
theorem dL_hangs_156 : decode cL_hangs 156 = .ok (.aload_n 0, 1) := by decide +kernel
theorem dL_hangs_157 : decode cL_hangs 157 = .ok (.iload_n 3, 1) := by decide +kernel
theorem dL_hangs_158 : decode cL_hangs 158 = .ok (.invokevirtual 54, 3) := by decide +kernel
theorem dL_hangs_161 : decode cL_hangs 161 = .ok (.istore 4, 2) := by decide +kernel
theorem dL_hangs_163 : decode cL_hangs 163 = .ok (.iload_n 3, 1) := by decide +kernel
theorem dL_hangs_164 : decode cL_hangs 164 = .ok (.iload_n 2, 1) := by decide +kernel
theorem dL_hangs_165 : decode cL_hangs 165 = .ok (.if_icmp .ge 32, 3) := by decide +kernel
theorem dL_hangs_168 : decode cL_hangs 168 = .ok (.iload 4, 2) := by decide +kernel
theorem dL_hangs_170 : decode cL_hangs 170 = .ok (.ifCond .lt 33, 3) := by decide +kernel
theorem dL_hangs_173 : decode cL_hangs 173 = .ok (.iload 4, 2) := by decide +kernel
theorem dL_hangs_175 : decode cL_hangs 175 = .ok (.aload_n 0, 1) := by decide +kernel
theorem dL_hangs_176 : decode cL_hangs 176 = .ok (.iconst 1, 1) := by decide +kernel
theorem dL_hangs_177 : decode cL_hangs 177 = .ok (.invokevirtual 38, 3) := by decide +kernel
theorem dL_hangs_180 : decode cL_hangs 180 = .ok (.if_icmp .ge 23, 3) := by decide +kernel
theorem dL_hangs_183 : decode cL_hangs 183 = .ok (.aload_n 0, 1) := by decide +kernel
theorem dL_hangs_184 : decode cL_hangs 184 = .ok (.iload 4, 2) := by decide +kernel
theorem dL_hangs_186 : decode cL_hangs 186 = .ok (.bipush 11, 2) := by decide +kernel
theorem dL_hangs_188 : decode cL_hangs 188 = .ok (.invokevirtual 41, 3) := by decide +kernel
theorem dL_hangs_191 : decode cL_hangs 191 = .ok (.ifCond .ne 14, 3) := by decide +kernel
theorem dL_hangs_194 : decode cL_hangs 194 = .ok (.goto 9, 3) := by decide +kernel
theorem dL_hangs_197 : decode cL_hangs 197 = .ok (.iload 4, 2) := by decide +kernel
theorem dL_hangs_199 : decode cL_hangs 199 = .ok (.iconst (-1), 1) := by decide +kernel
theorem dL_hangs_200 : decode cL_hangs 200 = .ok (.if_icmp .eq 5, 3) := by decide +kernel
theorem dL_hangs_203 : decode cL_hangs 203 = .ok (.iconst 0, 1) := by decide +kernel
theorem dL_hangs_204 : decode cL_hangs 204 = .ok (.ireturn, 1) := by decide +kernel
theorem dL_hangs_205 : decode cL_hangs 205 = .ok (.iinc 3 1, 3) := by decide +kernel
theorem dL_hangs_208 : decode cL_hangs 208 = .ok (.goto (-58), 3) := by decide +kernel
theorem dL_hangs_211 : decode cL_hangs 211 = .ok (.aload_n 0, 1) := by decide +kernel
theorem dL_hangs_212 : decode cL_hangs 212 = .ok (.iconst 4, 1) := by decide +kernel
theorem dL_hangs_213 : decode cL_hangs 213 = .ok (.invokevirtual 38, 3) := by decide +kernel
theorem dL_hangs_216 : decode cL_hangs 216 = .ok (.iload_n 1, 1) := by decide +kernel
theorem dL_hangs_217 : decode cL_hangs 217 = .ok (.if_icmp .ne 14, 3) := by decide +kernel
theorem dL_hangs_220 : decode cL_hangs 220 = .ok (.aload_n 0, 1) := by decide +kernel
theorem dL_hangs_221 : decode cL_hangs 221 = .ok (.invokestatic 57, 3) := by decide +kernel
theorem dL_hangs_224 : decode cL_hangs 224 = .ok (.ifCond .eq 7, 3) := by decide +kernel
theorem dL_hangs_227 : decode cL_hangs 227 = .ok (.iconst 1, 1) := by decide +kernel
theorem dL_hangs_228 : decode cL_hangs 228 = .ok (.goto 4, 3) := by decide +kernel
theorem dL_hangs_231 : decode cL_hangs 231 = .ok (.iconst 0, 1) := by decide +kernel
theorem dL_hangs_232 : decode cL_hangs 232 = .ok (.ireturn, 1) := by decide +kernel
theorem dL_print_0 : decode cL_print 0 = .ok (.ldc2_w 61, 3) := by decide +kernel
theorem dL_print_3 : decode cL_print 3 = .ok (.lstore_n 1, 1) := by decide +kernel
theorem dL_print_4 : decode cL_print 4 = .ok (.iconst 0, 1) := by decide +kernel
theorem dL_print_5 : decode cL_print 5 = .ok (.istore_n 3, 1) := by decide +kernel
theorem dL_print_6 : decode cL_print 6 = .ok (.iload_n 3, 1) := by decide +kernel
theorem dL_print_7 : decode cL_print 7 = .ok (.bipush 12, 2) := by decide +kernel
theorem dL_print_9 : decode cL_print 9 = .ok (.if_icmp .ge 22, 3) := by decide +kernel
theorem dL_print_12 : decode cL_print 12 = .ok (.ldc2_w 63, 3) := by decide +kernel
theorem dL_print_15 : decode cL_print 15 = .ok (.lload_n 1, 1) := by decide +kernel
theorem dL_print_16 : decode cL_print 16 = .ok (.lmul, 1) := by decide +kernel
theorem dL_print_17 : decode cL_print 17 = .ok (.aload_n 0, 1) := by decide +kernel
theorem dL_print_18 : decode cL_print 18 = .ok (.iload_n 3, 1) := by decide +kernel
theorem dL_print_19 : decode cL_print 19 = .ok (.invokevirtual 38, 3) := by decide +kernel
theorem dL_print_22 : decode cL_print 22 = .ok (.i2l, 1) := by decide +kernel
theorem dL_print_23 : decode cL_print 23 = .ok (.ladd, 1) := by decide +kernel
theorem dL_print_24 : decode cL_print 24 = .ok (.lstore_n 1, 1) := by decide +kernel
theorem dL_print_25 : decode cL_print 25 = .ok (.iinc 3 1, 3) := by decide +kernel
theorem dL_print_28 : decode cL_print 28 = .ok (.goto (-22), 3) := by decide +kernel
theorem dL_print_31 : decode cL_print 31 = .ok (.iconst 0, 1) := by decide +kernel
theorem dL_print_32 : decode cL_print 32 = .ok (.istore_n 3, 1) := by decide +kernel
theorem dL_print_33 : decode cL_print 33 = .ok (.iload_n 3, 1) := by decide +kernel
theorem dL_print_34 : decode cL_print 34 = .ok (.bipush 12, 2) := by decide +kernel
theorem dL_print_36 : decode cL_print 36 = .ok (.aload_n 0, 1) := by decide +kernel
theorem dL_print_37 : decode cL_print 37 = .ok (.iconst 1, 1) := by decide +kernel
theorem dL_print_38 : decode cL_print 38 = .ok (.invokevirtual 38, 3) := by decide +kernel
theorem dL_print_41 : decode cL_print 41 = .ok (.imul, 1) := by decide +kernel
theorem dL_print_42 : decode cL_print 42 = .ok (.if_icmp .ge 29, 3) := by decide +kernel
theorem dL_print_45 : decode cL_print 45 = .ok (.ldc2_w 63, 3) := by decide +kernel
theorem dL_print_48 : decode cL_print 48 = .ok (.lload_n 1, 1) := by decide +kernel
theorem dL_print_49 : decode cL_print 49 = .ok (.lmul, 1) := by decide +kernel
theorem dL_print_50 : decode cL_print 50 = .ok (.aload_n 0, 1) := by decide +kernel
theorem dL_print_51 : decode cL_print 51 = .ok (.iload_n 3, 1) := by decide +kernel
theorem dL_print_52 : decode cL_print 52 = .ok (.bipush 12, 2) := by decide +kernel
theorem dL_print_54 : decode cL_print 54 = .ok (.idiv, 1) := by decide +kernel
theorem dL_print_55 : decode cL_print 55 = .ok (.iload_n 3, 1) := by decide +kernel
theorem dL_print_56 : decode cL_print 56 = .ok (.bipush 12, 2) := by decide +kernel
theorem dL_print_58 : decode cL_print 58 = .ok (.irem, 1) := by decide +kernel
theorem dL_print_59 : decode cL_print 59 = .ok (.invokevirtual 41, 3) := by decide +kernel
theorem dL_print_62 : decode cL_print 62 = .ok (.i2l, 1) := by decide +kernel
theorem dL_print_63 : decode cL_print 63 = .ok (.ladd, 1) := by decide +kernel
theorem dL_print_64 : decode cL_print 64 = .ok (.lstore_n 1, 1) := by decide +kernel
theorem dL_print_65 : decode cL_print 65 = .ok (.iinc 3 1, 3) := by decide +kernel
theorem dL_print_68 : decode cL_print 68 = .ok (.goto (-35), 3) := by decide +kernel
theorem dL_print_71 : decode cL_print 71 = .ok (.iconst 0, 1) := by decide +kernel
theorem dL_print_72 : decode cL_print 72 = .ok (.istore_n 3, 1) := by decide +kernel
theorem dL_print_73 : decode cL_print 73 = .ok (.iload_n 3, 1) := by decide +kernel
theorem dL_print_74 : decode cL_print 74 = .ok (.iconst 3, 1) := by decide +kernel
theorem dL_print_75 : decode cL_print 75 = .ok (.aload_n 0, 1) := by decide +kernel
theorem dL_print_76 : decode cL_print 76 = .ok (.iconst 2, 1) := by decide +kernel
theorem dL_print_77 : decode cL_print 77 = .ok (.invokevirtual 38, 3) := by decide +kernel
theorem dL_print_80 : decode cL_print 80 = .ok (.imul, 1) := by decide +kernel
theorem dL_print_81 : decode cL_print 81 = .ok (.if_icmp .ge 27, 3) := by decide +kernel
theorem dL_print_84 : decode cL_print 84 = .ok (.ldc2_w 63, 3) := by decide +kernel
theorem dL_print_87 : decode cL_print 87 = .ok (.lload_n 1, 1) := by decide +kernel
theorem dL_print_88 : decode cL_print 88 = .ok (.lmul, 1) := by decide +kernel
theorem dL_print_89 : decode cL_print 89 = .ok (.aload_n 0, 1) := by decide +kernel
theorem dL_print_90 : decode cL_print 90 = .ok (.iload_n 3, 1) := by decide +kernel
theorem dL_print_91 : decode cL_print 91 = .ok (.iconst 3, 1) := by decide +kernel
theorem dL_print_92 : decode cL_print 92 = .ok (.idiv, 1) := by decide +kernel
theorem dL_print_93 : decode cL_print 93 = .ok (.iload_n 3, 1) := by decide +kernel
theorem dL_print_94 : decode cL_print 94 = .ok (.iconst 3, 1) := by decide +kernel
theorem dL_print_95 : decode cL_print 95 = .ok (.irem, 1) := by decide +kernel
theorem dL_print_96 : decode cL_print 96 = .ok (.invokevirtual 47, 3) := by decide +kernel
theorem dL_print_99 : decode cL_print 99 = .ok (.i2l, 1) := by decide +kernel
theorem dL_print_100 : decode cL_print 100 = .ok (.ladd, 1) := by decide +kernel
theorem dL_print_101 : decode cL_print 101 = .ok (.lstore_n 1, 1) := by decide +kernel
theorem dL_print_102 : decode cL_print 102 = .ok (.iinc 3 1, 3) := by decide +kernel
theorem dL_print_105 : decode cL_print 105 = .ok (.goto (-32), 3) := by decide +kernel
theorem dL_print_108 : decode cL_print 108 = .ok (.iconst 0, 1) := by decide +kernel
theorem dL_print_109 : decode cL_print 109 = .ok (.istore_n 3, 1) := by decide +kernel
theorem dL_print_110 : decode cL_print 110 = .ok (.iload_n 3, 1) := by decide +kernel
theorem dL_print_111 : decode cL_print 111 = .ok (.bipush 8, 2) := by decide +kernel
theorem dL_print_113 : decode cL_print 113 = .ok (.if_icmp .ge 22, 3) := by decide +kernel
theorem dL_print_116 : decode cL_print 116 = .ok (.ldc2_w 63, 3) := by decide +kernel
theorem dL_print_119 : decode cL_print 119 = .ok (.lload_n 1, 1) := by decide +kernel
theorem dL_print_120 : decode cL_print 120 = .ok (.lmul, 1) := by decide +kernel
theorem dL_print_121 : decode cL_print 121 = .ok (.aload_n 0, 1) := by decide +kernel
theorem dL_print_122 : decode cL_print 122 = .ok (.iload_n 3, 1) := by decide +kernel
theorem dL_print_123 : decode cL_print 123 = .ok (.invokevirtual 54, 3) := by decide +kernel
theorem dL_print_126 : decode cL_print 126 = .ok (.i2l, 1) := by decide +kernel
theorem dL_print_127 : decode cL_print 127 = .ok (.ladd, 1) := by decide +kernel
theorem dL_print_128 : decode cL_print 128 = .ok (.lstore_n 1, 1) := by decide +kernel
theorem dL_print_129 : decode cL_print 129 = .ok (.iinc 3 1, 3) := by decide +kernel
theorem dL_print_132 : decode cL_print 132 = .ok (.goto (-22), 3) := by decide +kernel
theorem dL_print_135 : decode cL_print 135 = .ok (.lload_n 1, 1) := by decide +kernel
theorem dL_print_136 : decode cL_print 136 = .ok (.lreturn, 1) := by decide +kernel
theorem dL_goes_0 : decode cL_goes 0 = .ok (.aload_n 0, 1) := by decide +kernel
theorem dL_goes_1 : decode cL_goes 1 = .ok (.iconst 0, 1) := by decide +kernel
theorem dL_goes_2 : decode cL_goes 2 = .ok (.invokevirtual 65, 3) := by decide +kernel
theorem dL_goes_5 : decode cL_goes 5 = .ok (.istore_n 1, 1) := by decide +kernel
theorem dL_goes_6 : decode cL_goes 6 = .ok (.aload_n 0, 1) := by decide +kernel
theorem dL_goes_7 : decode cL_goes 7 = .ok (.iconst 1, 1) := by decide +kernel
theorem dL_goes_8 : decode cL_goes 8 = .ok (.invokevirtual 65, 3) := by decide +kernel
theorem dL_goes_11 : decode cL_goes 11 = .ok (.istore_n 2, 1) := by decide +kernel
theorem dL_goes_12 : decode cL_goes 12 = .ok (.iload_n 1, 1) := by decide +kernel
theorem dL_goes_13 : decode cL_goes 13 = .ok (.ifCond .ge 20, 3) := by decide +kernel
theorem dL_goes_16 : decode cL_goes 16 = .ok (.iload_n 1, 1) := by decide +kernel
theorem dL_goes_17 : decode cL_goes 17 = .ok (.bipush (-6), 2) := by decide +kernel
theorem dL_goes_19 : decode cL_goes 19 = .ok (.if_icmp .ne 12, 3) := by decide +kernel
theorem dL_goes_22 : decode cL_goes 22 = .ok (.iload_n 2, 1) := by decide +kernel
theorem dL_goes_23 : decode cL_goes 23 = .ok (.iload_n 1, 1) := by decide +kernel
theorem dL_goes_24 : decode cL_goes 24 = .ok (.if_icmp .ne 7, 3) := by decide +kernel
theorem dL_goes_27 : decode cL_goes 27 = .ok (.iconst 1, 1) := by decide +kernel
theorem dL_goes_28 : decode cL_goes 28 = .ok (.goto 4, 3) := by decide +kernel
theorem dL_goes_31 : decode cL_goes 31 = .ok (.iconst 0, 1) := by decide +kernel
theorem dL_goes_32 : decode cL_goes 32 = .ok (.ireturn, 1) := by decide +kernel
theorem dL_goes_33 : decode cL_goes 33 = .ok (.aload_n 0, 1) := by decide +kernel
theorem dL_goes_34 : decode cL_goes 34 = .ok (.invokestatic 68, 3) := by decide +kernel
theorem dL_goes_37 : decode cL_goes 37 = .ok (.lstore_n 3, 1) := by decide +kernel
theorem dL_goes_38 : decode cL_goes 38 = .ok (.aload_n 0, 1) := by decide +kernel
theorem dL_goes_39 : decode cL_goes 39 = .ok (.bipush 7, 2) := by decide +kernel
theorem dL_goes_41 : decode cL_goes 41 = .ok (.invokevirtual 38, 3) := by decide +kernel
theorem dL_goes_44 : decode cL_goes 44 = .ok (.istore 5, 2) := by decide +kernel
theorem dL_goes_46 : decode cL_goes 46 = .ok (.iload_n 1, 1) := by decide +kernel
theorem dL_goes_47 : decode cL_goes 47 = .ok (.ifCond .le 31, 3) := by decide +kernel
theorem dL_goes_50 : decode cL_goes 50 = .ok (.iload_n 1, 1) := by decide +kernel
theorem dL_goes_51 : decode cL_goes 51 = .ok (.sipush 200, 3) := by decide +kernel
theorem dL_goes_54 : decode cL_goes 54 = .ok (.if_icmp .gt 24, 3) := by decide +kernel
theorem dL_goes_57 : decode cL_goes 57 = .ok (.iload_n 2, 1) := by decide +kernel
theorem dL_goes_58 : decode cL_goes 58 = .ok (.ifCond .lt 20, 3) := by decide +kernel
theorem dL_goes_61 : decode cL_goes 61 = .ok (.aload_n 0, 1) := by decide +kernel
theorem dL_goes_62 : decode cL_goes 62 = .ok (.iconst 1, 1) := by decide +kernel
theorem dL_goes_63 : decode cL_goes 63 = .ok (.invokevirtual 72, 3) := by decide +kernel
theorem dL_goes_66 : decode cL_goes 66 = .ok (.aload_n 0, 1) := by decide +kernel
theorem dL_goes_67 : decode cL_goes 67 = .ok (.iconst 1, 1) := by decide +kernel
theorem dL_goes_68 : decode cL_goes 68 = .ok (.invokevirtual 38, 3) := by decide +kernel
theorem dL_goes_71 : decode cL_goes 71 = .ok (.if_icmp .ne 7, 3) := by decide +kernel
theorem dL_goes_74 : decode cL_goes 74 = .ok (.iconst 1, 1) := by decide +kernel
theorem dL_goes_75 : decode cL_goes 75 = .ok (.goto 4, 3) := by decide +kernel
theorem dL_goes_78 : decode cL_goes 78 = .ok (.iconst 0, 1) := by decide +kernel
theorem dL_goes_79 : decode cL_goes 79 = .ok (.istore 6, 2) := by decide +kernel
theorem dL_goes_81 : decode cL_goes 81 = .ok (.iload_n 1, 1) := by decide +kernel
theorem dL_goes_82 : decode cL_goes 82 = .ok (.iconst 1, 1) := by decide +kernel
theorem dL_goes_83 : decode cL_goes 83 = .ok (.isub, 1) := by decide +kernel
theorem dL_goes_84 : decode cL_goes 84 = .ok (.istore 7, 2) := by decide +kernel
theorem dL_goes_86 : decode cL_goes 86 = .ok (.iload 7, 2) := by decide +kernel
theorem dL_goes_88 : decode cL_goes 88 = .ok (.ifCond .le 58, 3) := by decide +kernel
theorem dL_goes_91 : decode cL_goes 91 = .ok (.iload 6, 2) := by decide +kernel
theorem dL_goes_93 : decode cL_goes 93 = .ok (.ifCond .eq 53, 3) := by decide +kernel
theorem dL_goes_96 : decode cL_goes 96 = .ok (.aload_n 0, 1) := by decide +kernel
theorem dL_goes_97 : decode cL_goes 97 = .ok (.iload 7, 2) := by decide +kernel
theorem dL_goes_99 : decode cL_goes 99 = .ok (.bipush 99, 2) := by decide +kernel
theorem dL_goes_101 : decode cL_goes 101 = .ok (.if_icmp .le 8, 3) := by decide +kernel
theorem dL_goes_104 : decode cL_goes 104 = .ok (.bipush 99, 2) := by decide +kernel
theorem dL_goes_106 : decode cL_goes 106 = .ok (.goto 5, 3) := by decide +kernel
theorem dL_goes_109 : decode cL_goes 109 = .ok (.iload 7, 2) := by decide +kernel
theorem dL_goes_111 : decode cL_goes 111 = .ok (.invokevirtual 35, 3) := by decide +kernel
theorem dL_goes_114 : decode cL_goes 114 = .ok (.ifCond .ne 7, 3) := by decide +kernel
theorem dL_goes_117 : decode cL_goes 117 = .ok (.iconst 1, 1) := by decide +kernel
theorem dL_goes_118 : decode cL_goes 118 = .ok (.goto 4, 3) := by decide +kernel
theorem dL_goes_121 : decode cL_goes 121 = .ok (.iconst 0, 1) := by decide +kernel
theorem dL_goes_122 : decode cL_goes 122 = .ok (.istore 6, 2) := by decide +kernel
theorem dL_goes_124 : decode cL_goes 124 = .ok (.iload 7, 2) := by decide +kernel
theorem dL_goes_126 : decode cL_goes 126 = .ok (.iload 7, 2) := by decide +kernel
theorem dL_goes_128 : decode cL_goes 128 = .ok (.bipush 99, 2) := by decide +kernel
theorem dL_goes_130 : decode cL_goes 130 = .ok (.if_icmp .le 8, 3) := by decide +kernel
theorem dL_goes_133 : decode cL_goes 133 = .ok (.bipush 99, 2) := by decide +kernel
theorem dL_goes_135 : decode cL_goes 135 = .ok (.goto 5, 3) := by decide +kernel
theorem dL_goes_138 : decode cL_goes 138 = .ok (.iload 7, 2) := by decide +kernel
theorem dL_goes_140 : decode cL_goes 140 = .ok (.isub, 1) := by decide +kernel
theorem dL_goes_141 : decode cL_goes 141 = .ok (.istore 7, 2) := by decide +kernel
theorem dL_goes_143 : decode cL_goes 143 = .ok (.goto (-57), 3) := by decide +kernel
theorem dL_goes_146 : decode cL_goes 146 = .ok (.iload_n 2, 1) := by decide +kernel
theorem dL_goes_147 : decode cL_goes 147 = .ok (.ifCond .ge 7, 3) := by decide +kernel
theorem dL_goes_150 : decode cL_goes 150 = .ok (.iconst 0, 1) := by decide +kernel
theorem dL_goes_151 : decode cL_goes 151 = .ok (.goto 10, 3) := by decide +kernel
theorem dL_goes_154 : decode cL_goes 154 = .ok (.aload_n 0, 1) := by decide +kernel
theorem dL_goes_155 : decode cL_goes 155 = .ok (.iload_n 2, 1) := by decide +kernel
theorem dL_goes_156 : decode cL_goes 156 = .ok (.bipush 11, 2) := by decide +kernel
theorem dL_goes_158 : decode cL_goes 158 = .ok (.invokevirtual 41, 3) := by decide +kernel
theorem dL_goes_161 : decode cL_goes 161 = .ok (.istore 7, 2) := by decide +kernel
theorem dL_goes_163 : decode cL_goes 163 = .ok (.iload 6, 2) := by decide +kernel
theorem dL_goes_165 : decode cL_goes 165 = .ok (.ifCond .eq 113, 3) := by decide +kernel
theorem dL_goes_168 : decode cL_goes 168 = .ok (.aload_n 0, 1) := by decide +kernel
theorem dL_goes_169 : decode cL_goes 169 = .ok (.bipush 7, 2) := by decide +kernel
theorem dL_goes_171 : decode cL_goes 171 = .ok (.invokevirtual 38, 3) := by decide +kernel
theorem dL_goes_174 : decode cL_goes 174 = .ok (.iload 5, 2) := by decide +kernel
theorem dL_goes_176 : decode cL_goes 176 = .ok (.if_icmp .ne 102, 3) := by decide +kernel
theorem dL_goes_179 : decode cL_goes 179 = .ok (.aload_n 0, 1) := by decide +kernel
theorem dL_goes_180 : decode cL_goes 180 = .ok (.iconst 0, 1) := by decide +kernel
theorem dL_goes_181 : decode cL_goes 181 = .ok (.invokevirtual 65, 3) := by decide +kernel
theorem dL_goes_184 : decode cL_goes 184 = .ok (.iconst 1, 1) := by decide +kernel
theorem dL_goes_185 : decode cL_goes 185 = .ok (.if_icmp .ne 93, 3) := by decide +kernel
theorem dL_goes_188 : decode cL_goes 188 = .ok (.aload_n 0, 1) := by decide +kernel
theorem dL_goes_189 : decode cL_goes 189 = .ok (.iconst 1, 1) := by decide +kernel
theorem dL_goes_190 : decode cL_goes 190 = .ok (.invokevirtual 65, 3) := by decide +kernel
theorem dL_goes_193 : decode cL_goes 193 = .ok (.iload_n 2, 1) := by decide +kernel
theorem dL_goes_194 : decode cL_goes 194 = .ok (.if_icmp .ne 84, 3) := by decide +kernel
theorem dL_goes_197 : decode cL_goes 197 = .ok (.aload_n 0, 1) := by decide +kernel
theorem dL_goes_198 : decode cL_goes 198 = .ok (.iconst 1, 1) := by decide +kernel
theorem dL_goes_199 : decode cL_goes 199 = .ok (.invokevirtual 35, 3) := by decide +kernel
theorem dL_goes_202 : decode cL_goes 202 = .ok (.ifCond .le 76, 3) := by decide +kernel
theorem dL_goes_205 : decode cL_goes 205 = .ok (.aload_n 0, 1) := by decide +kernel
theorem dL_goes_206 : decode cL_goes 206 = .ok (.iload_n 2, 1) := by decide +kernel
theorem dL_goes_207 : decode cL_goes 207 = .ok (.bipush 11, 2) := by decide +kernel
theorem dL_goes_209 : decode cL_goes 209 = .ok (.invokevirtual 41, 3) := by decide +kernel
theorem dL_goes_212 : decode cL_goes 212 = .ok (.iload 7, 2) := by decide +kernel
theorem dL_goes_214 : decode cL_goes 214 = .ok (.iconst 1, 1) := by decide +kernel
theorem dL_goes_215 : decode cL_goes 215 = .ok (.iadd, 1) := by decide +kernel
theorem dL_goes_216 : decode cL_goes 216 = .ok (.if_icmp .ne 62, 3) := by decide +kernel
theorem dL_goes_219 : decode cL_goes 219 = .ok (.aload_n 0, 1) := by decide +kernel
theorem dL_goes_220 : decode cL_goes 220 = .ok (.iload_n 2, 1) := by decide +kernel
theorem dL_goes_221 : decode cL_goes 221 = .ok (.iconst 3, 1) := by decide +kernel
theorem dL_goes_222 : decode cL_goes 222 = .ok (.invokevirtual 41, 3) := by decide +kernel
theorem dL_goes_225 : decode cL_goes 225 = .ok (.aload_n 0, 1) := by decide +kernel
theorem dL_goes_226 : decode cL_goes 226 = .ok (.bipush 9, 2) := by decide +kernel
theorem dL_goes_228 : decode cL_goes 228 = .ok (.invokevirtual 38, 3) := by decide +kernel
theorem dL_goes_231 : decode cL_goes 231 = .ok (.ifCond .ne 7, 3) := by decide +kernel
theorem dL_goes_234 : decode cL_goes 234 = .ok (.iconst 2, 1) := by decide +kernel
theorem dL_goes_235 : decode cL_goes 235 = .ok (.goto 4, 3) := by decide +kernel
theorem dL_goes_238 : decode cL_goes 238 = .ok (.iconst 1, 1) := by decide +kernel
theorem dL_goes_239 : decode cL_goes 239 = .ok (.if_icmp .ne 39, 3) := by decide +kernel
theorem dL_goes_242 : decode cL_goes 242 = .ok (.aload_n 0, 1) := by decide +kernel
theorem dL_goes_243 : decode cL_goes 243 = .ok (.iload_n 2, 1) := by decide +kernel
theorem dL_goes_244 : decode cL_goes 244 = .ok (.bipush 10, 2) := by decide +kernel
theorem dL_goes_246 : decode cL_goes 246 = .ok (.invokevirtual 41, 3) := by decide +kernel
theorem dL_goes_249 : decode cL_goes 249 = .ok (.aload_n 0, 1) := by decide +kernel
theorem dL_goes_250 : decode cL_goes 250 = .ok (.bipush 9, 2) := by decide +kernel
theorem dL_goes_252 : decode cL_goes 252 = .ok (.invokevirtual 38, 3) := by decide +kernel
theorem dL_goes_255 : decode cL_goes 255 = .ok (.if_icmp .ne 23, 3) := by decide +kernel
theorem dL_goes_258 : decode cL_goes 258 = .ok (.aload_n 0, 1) := by decide +kernel
theorem dL_goes_259 : decode cL_goes 259 = .ok (.iload_n 2, 1) := by decide +kernel
theorem dL_goes_260 : decode cL_goes 260 = .ok (.iconst 5, 1) := by decide +kernel
theorem dL_goes_261 : decode cL_goes 261 = .ok (.invokevirtual 41, 3) := by decide +kernel
theorem dL_goes_264 : decode cL_goes 264 = .ok (.aload_n 0, 1) := by decide +kernel
theorem dL_goes_265 : decode cL_goes 265 = .ok (.iload_n 2, 1) := by decide +kernel
theorem dL_goes_266 : decode cL_goes 266 = .ok (.bipush 6, 2) := by decide +kernel
theorem dL_goes_268 : decode cL_goes 268 = .ok (.invokevirtual 41, 3) := by decide +kernel
theorem dL_goes_271 : decode cL_goes 271 = .ok (.if_icmp .lt 7, 3) := by decide +kernel
theorem dL_goes_274 : decode cL_goes 274 = .ok (.iconst 1, 1) := by decide +kernel
theorem dL_goes_275 : decode cL_goes 275 = .ok (.goto 4, 3) := by decide +kernel
theorem dL_goes_278 : decode cL_goes 278 = .ok (.iconst 0, 1) := by decide +kernel
theorem dL_goes_279 : decode cL_goes 279 = .ok (.istore 6, 2) := by decide +kernel
theorem dL_goes_281 : decode cL_goes 281 = .ok (.iload 6, 2) := by decide +kernel
theorem dL_goes_283 : decode cL_goes 283 = .ok (.ifCond .eq 24, 3) := by decide +kernel
theorem dL_goes_286 : decode cL_goes 286 = .ok (.aload_n 0, 1) := by decide +kernel
theorem dL_goes_287 : decode cL_goes 287 = .ok (.iconst 1, 1) := by decide +kernel
theorem dL_goes_288 : decode cL_goes 288 = .ok (.invokevirtual 75, 3) := by decide +kernel
theorem dL_goes_291 : decode cL_goes 291 = .ok (.ifCond .lt 16, 3) := by decide +kernel
theorem dL_goes_294 : decode cL_goes 294 = .ok (.aload_n 0, 1) := by decide +kernel
theorem dL_goes_295 : decode cL_goes 295 = .ok (.invokestatic 68, 3) := by decide +kernel
theorem dL_goes_298 : decode cL_goes 298 = .ok (.lload_n 3, 1) := by decide +kernel
theorem dL_goes_299 : decode cL_goes 299 = .ok (.lcmp, 1) := by decide +kernel
theorem dL_goes_300 : decode cL_goes 300 = .ok (.ifCond .ne 7, 3) := by decide +kernel
theorem dL_goes_303 : decode cL_goes 303 = .ok (.iconst 1, 1) := by decide +kernel
theorem dL_goes_304 : decode cL_goes 304 = .ok (.goto 4, 3) := by decide +kernel
theorem dL_goes_307 : decode cL_goes 307 = .ok (.iconst 0, 1) := by decide +kernel
theorem dL_goes_308 : decode cL_goes 308 = .ok (.ireturn, 1) := by decide +kernel
theorem dL_tests_0 : decode cL_tests 0 = .ok (.aload_n 0, 1) := by decide +kernel
theorem dL_tests_1 : decode cL_tests 1 = .ok (.iload_n 1, 1) := by decide +kernel
theorem dL_tests_2 : decode cL_tests 2 = .ok (.iload_n 2, 1) := by decide +kernel
theorem dL_tests_3 : decode cL_tests 3 = .ok (.iconst 0, 1) := by decide +kernel
theorem dL_tests_4 : decode cL_tests 4 = .ok (.invokevirtual 78, 3) := by decide +kernel
theorem dL_tests_7 : decode cL_tests 7 = .ok (.istore_n 3, 1) := by decide +kernel
theorem dL_tests_8 : decode cL_tests 8 = .ok (.aload_n 0, 1) := by decide +kernel
theorem dL_tests_9 : decode cL_tests 9 = .ok (.iload_n 1, 1) := by decide +kernel
theorem dL_tests_10 : decode cL_tests 10 = .ok (.iload_n 2, 1) := by decide +kernel
theorem dL_tests_11 : decode cL_tests 11 = .ok (.iconst 1, 1) := by decide +kernel
theorem dL_tests_12 : decode cL_tests 12 = .ok (.invokevirtual 78, 3) := by decide +kernel
theorem dL_tests_15 : decode cL_tests 15 = .ok (.istore 4, 2) := by decide +kernel
theorem dL_tests_17 : decode cL_tests 17 = .ok (.iload_n 1, 1) := by decide +kernel
theorem dL_tests_18 : decode cL_tests 18 = .ok (.aload_n 0, 1) := by decide +kernel
theorem dL_tests_19 : decode cL_tests 19 = .ok (.iconst 1, 1) := by decide +kernel
theorem dL_tests_20 : decode cL_tests 20 = .ok (.invokevirtual 38, 3) := by decide +kernel
theorem dL_tests_23 : decode cL_tests 23 = .ok (.if_icmp .lt 20, 3) := by decide +kernel
theorem dL_tests_26 : decode cL_tests 26 = .ok (.iload_n 3, 1) := by decide +kernel
theorem dL_tests_27 : decode cL_tests 27 = .ok (.iconst (-1), 1) := by decide +kernel
theorem dL_tests_28 : decode cL_tests 28 = .ok (.if_icmp .ne 13, 3) := by decide +kernel
theorem dL_tests_31 : decode cL_tests 31 = .ok (.iload 4, 2) := by decide +kernel
theorem dL_tests_33 : decode cL_tests 33 = .ok (.iload_n 3, 1) := by decide +kernel
theorem dL_tests_34 : decode cL_tests 34 = .ok (.if_icmp .ne 7, 3) := by decide +kernel
theorem dL_tests_37 : decode cL_tests 37 = .ok (.iconst 1, 1) := by decide +kernel
theorem dL_tests_38 : decode cL_tests 38 = .ok (.goto 4, 3) := by decide +kernel
theorem dL_tests_41 : decode cL_tests 41 = .ok (.iconst 0, 1) := by decide +kernel
theorem dL_tests_42 : decode cL_tests 42 = .ok (.ireturn, 1) := by decide +kernel
theorem dL_tests_43 : decode cL_tests 43 = .ok (.aload_n 0, 1) := by decide +kernel
theorem dL_tests_44 : decode cL_tests 44 = .ok (.invokestatic 68, 3) := by decide +kernel
theorem dL_tests_47 : decode cL_tests 47 = .ok (.lstore 5, 2) := by decide +kernel
theorem dL_tests_49 : decode cL_tests 49 = .ok (.iload_n 3, 1) := by decide +kernel
theorem dL_tests_50 : decode cL_tests 50 = .ok (.ifCond .ge 7, 3) := by decide +kernel
theorem dL_tests_53 : decode cL_tests 53 = .ok (.iconst 1, 1) := by decide +kernel
theorem dL_tests_54 : decode cL_tests 54 = .ok (.goto 4, 3) := by decide +kernel
theorem dL_tests_57 : decode cL_tests 57 = .ok (.iconst 0, 1) := by decide +kernel
theorem dL_tests_58 : decode cL_tests 58 = .ok (.iload 4, 2) := by decide +kernel
theorem dL_tests_60 : decode cL_tests 60 = .ok (.ifCond .ge 7, 3) := by decide +kernel
theorem dL_tests_63 : decode cL_tests 63 = .ok (.iconst 1, 1) := by decide +kernel
theorem dL_tests_64 : decode cL_tests 64 = .ok (.goto 4, 3) := by decide +kernel
theorem dL_tests_67 : decode cL_tests 67 = .ok (.iconst 0, 1) := by decide +kernel
theorem dL_tests_68 : decode cL_tests 68 = .ok (.if_icmp .ne 51, 3) := by decide +kernel
theorem dL_tests_71 : decode cL_tests 71 = .ok (.iload_n 3, 1) := by decide +kernel
theorem dL_tests_72 : decode cL_tests 72 = .ok (.ifCond .ge 12, 3) := by decide +kernel
theorem dL_tests_75 : decode cL_tests 75 = .ok (.iload_n 3, 1) := by decide +kernel
theorem dL_tests_76 : decode cL_tests 76 = .ok (.bipush (-6), 2) := by decide +kernel
theorem dL_tests_78 : decode cL_tests 78 = .ok (.if_icmp .ne 41, 3) := by decide +kernel
theorem dL_tests_81 : decode cL_tests 81 = .ok (.goto 34, 3) := by decide +kernel
theorem dL_tests_84 : decode cL_tests 84 = .ok (.iload_n 3, 1) := by decide +kernel
theorem dL_tests_85 : decode cL_tests 85 = .ok (.sipush 200, 3) := by decide +kernel
theorem dL_tests_88 : decode cL_tests 88 = .ok (.if_icmp .gt 31, 3) := by decide +kernel
theorem dL_tests_91 : decode cL_tests 91 = .ok (.aload_n 0, 1) := by decide +kernel
theorem dL_tests_92 : decode cL_tests 92 = .ok (.iload 4, 2) := by decide +kernel
theorem dL_tests_94 : decode cL_tests 94 = .ok (.invokevirtual 44, 3) := by decide +kernel
theorem dL_tests_97 : decode cL_tests 97 = .ok (.iload_n 1, 1) := by decide +kernel
theorem dL_tests_98 : decode cL_tests 98 = .ok (.ishr, 1) := by decide +kernel
theorem dL_tests_99 : decode cL_tests 99 = .ok (.iconst 1, 1) := by decide +kernel
theorem dL_tests_100 : decode cL_tests 100 = .ok (.iand, 1) := by decide +kernel
theorem dL_tests_101 : decode cL_tests 101 = .ok (.iconst 1, 1) := by decide +kernel
theorem dL_tests_102 : decode cL_tests 102 = .ok (.if_icmp .ne 17, 3) := by decide +kernel
theorem dL_tests_105 : decode cL_tests 105 = .ok (.aload_n 0, 1) := by decide +kernel
theorem dL_tests_106 : decode cL_tests 106 = .ok (.iload 4, 2) := by decide +kernel
theorem dL_tests_108 : decode cL_tests 108 = .ok (.iconst 3, 1) := by decide +kernel
theorem dL_tests_109 : decode cL_tests 109 = .ok (.invokevirtual 41, 3) := by decide +kernel
theorem dL_tests_112 : decode cL_tests 112 = .ok (.ifCond .ne 7, 3) := by decide +kernel
theorem dL_tests_115 : decode cL_tests 115 = .ok (.iconst 1, 1) := by decide +kernel
theorem dL_tests_116 : decode cL_tests 116 = .ok (.goto 4, 3) := by decide +kernel
theorem dL_tests_119 : decode cL_tests 119 = .ok (.iconst 0, 1) := by decide +kernel
theorem dL_tests_120 : decode cL_tests 120 = .ok (.istore 7, 2) := by decide +kernel
theorem dL_tests_122 : decode cL_tests 122 = .ok (.bipush 100, 2) := by decide +kernel
theorem dL_tests_124 : decode cL_tests 124 = .ok (.istore 8, 2) := by decide +kernel
theorem dL_tests_126 : decode cL_tests 126 = .ok (.iload_n 1, 1) := by decide +kernel
theorem dL_tests_127 : decode cL_tests 127 = .ok (.istore 9, 2) := by decide +kernel
theorem dL_tests_129 : decode cL_tests 129 = .ok (.iload 9, 2) := by decide +kernel
theorem dL_tests_131 : decode cL_tests 131 = .ok (.ifCond .lt 41, 3) := by decide +kernel
theorem dL_tests_134 : decode cL_tests 134 = .ok (.aload_n 0, 1) := by decide +kernel
theorem dL_tests_135 : decode cL_tests 135 = .ok (.iload 9, 2) := by decide +kernel
theorem dL_tests_137 : decode cL_tests 137 = .ok (.iconst 1, 1) := by decide +kernel
theorem dL_tests_138 : decode cL_tests 138 = .ok (.invokevirtual 41, 3) := by decide +kernel
theorem dL_tests_141 : decode cL_tests 141 = .ok (.iload 8, 2) := by decide +kernel
theorem dL_tests_143 : decode cL_tests 143 = .ok (.if_icmp .ge 13, 3) := by decide +kernel
theorem dL_tests_146 : decode cL_tests 146 = .ok (.aload_n 0, 1) := by decide +kernel
theorem dL_tests_147 : decode cL_tests 147 = .ok (.iload 9, 2) := by decide +kernel
theorem dL_tests_149 : decode cL_tests 149 = .ok (.iconst 1, 1) := by decide +kernel
theorem dL_tests_150 : decode cL_tests 150 = .ok (.invokevirtual 41, 3) := by decide +kernel
theorem dL_tests_153 : decode cL_tests 153 = .ok (.goto 5, 3) := by decide +kernel
theorem dL_tests_156 : decode cL_tests 156 = .ok (.iload 8, 2) := by decide +kernel
theorem dL_tests_158 : decode cL_tests 158 = .ok (.istore 8, 2) := by decide +kernel
theorem dL_tests_160 : decode cL_tests 160 = .ok (.aload_n 0, 1) := by decide +kernel
theorem dL_tests_161 : decode cL_tests 161 = .ok (.iload 9, 2) := by decide +kernel
theorem dL_tests_163 : decode cL_tests 163 = .ok (.iconst 0, 1) := by decide +kernel
theorem dL_tests_164 : decode cL_tests 164 = .ok (.invokevirtual 41, 3) := by decide +kernel
theorem dL_tests_167 : decode cL_tests 167 = .ok (.istore 9, 2) := by decide +kernel
theorem dL_tests_169 : decode cL_tests 169 = .ok (.goto (-40), 3) := by decide +kernel
theorem dL_tests_172 : decode cL_tests 172 = .ok (.iload 7, 2) := by decide +kernel
theorem dL_tests_174 : decode cL_tests 174 = .ok (.ifCond .eq 35, 3) := by decide +kernel
theorem dL_tests_177 : decode cL_tests 177 = .ok (.iload_n 2, 1) := by decide +kernel
theorem dL_tests_178 : decode cL_tests 178 = .ok (.iload 8, 2) := by decide +kernel
theorem dL_tests_180 : decode cL_tests 180 = .ok (.if_icmp .gt 9, 3) := by decide +kernel
theorem dL_tests_183 : decode cL_tests 183 = .ok (.iload_n 3, 1) := by decide +kernel
theorem dL_tests_184 : decode cL_tests 184 = .ok (.bipush (-6), 2) := by decide +kernel
theorem dL_tests_186 : decode cL_tests 186 = .ok (.if_icmp .ne 23, 3) := by decide +kernel
theorem dL_tests_189 : decode cL_tests 189 = .ok (.aload_n 0, 1) := by decide +kernel
theorem dL_tests_190 : decode cL_tests 190 = .ok (.iload_n 1, 1) := by decide +kernel
theorem dL_tests_191 : decode cL_tests 191 = .ok (.bipush 8, 2) := by decide +kernel
theorem dL_tests_193 : decode cL_tests 193 = .ok (.invokevirtual 41, 3) := by decide +kernel
theorem dL_tests_196 : decode cL_tests 196 = .ok (.ifCond .eq 9, 3) := by decide +kernel
theorem dL_tests_199 : decode cL_tests 199 = .ok (.iload_n 3, 1) := by decide +kernel
theorem dL_tests_200 : decode cL_tests 200 = .ok (.bipush (-6), 2) := by decide +kernel
theorem dL_tests_202 : decode cL_tests 202 = .ok (.if_icmp .ne 7, 3) := by decide +kernel
theorem dL_tests_205 : decode cL_tests 205 = .ok (.iconst 1, 1) := by decide +kernel
theorem dL_tests_206 : decode cL_tests 206 = .ok (.goto 4, 3) := by decide +kernel
theorem dL_tests_209 : decode cL_tests 209 = .ok (.iconst 0, 1) := by decide +kernel
theorem dL_tests_210 : decode cL_tests 210 = .ok (.istore 7, 2) := by decide +kernel
theorem dL_tests_212 : decode cL_tests 212 = .ok (.iload 7, 2) := by decide +kernel
theorem dL_tests_214 : decode cL_tests 214 = .ok (.ifCond .eq 17, 3) := by decide +kernel
theorem dL_tests_217 : decode cL_tests 217 = .ok (.aload_n 0, 1) := by decide +kernel
theorem dL_tests_218 : decode cL_tests 218 = .ok (.invokestatic 68, 3) := by decide +kernel
theorem dL_tests_221 : decode cL_tests 221 = .ok (.lload 5, 2) := by decide +kernel
theorem dL_tests_223 : decode cL_tests 223 = .ok (.lcmp, 1) := by decide +kernel
theorem dL_tests_224 : decode cL_tests 224 = .ok (.ifCond .ne 7, 3) := by decide +kernel
theorem dL_tests_227 : decode cL_tests 227 = .ok (.iconst 1, 1) := by decide +kernel
theorem dL_tests_228 : decode cL_tests 228 = .ok (.goto 4, 3) := by decide +kernel
theorem dL_tests_231 : decode cL_tests 231 = .ok (.iconst 0, 1) := by decide +kernel
theorem dL_tests_232 : decode cL_tests 232 = .ok (.ireturn, 1) := by decide +kernel
theorem dL_faults_0 : decode cL_faults 0 = .ok (.iconst 0, 1) := by decide +kernel
theorem dL_faults_1 : decode cL_faults 1 = .ok (.istore_n 2, 1) := by decide +kernel
theorem dL_faults_2 : decode cL_faults 2 = .ok (.iconst 0, 1) := by decide +kernel
theorem dL_faults_3 : decode cL_faults 3 = .ok (.istore_n 3, 1) := by decide +kernel
theorem dL_faults_4 : decode cL_faults 4 = .ok (.iload_n 3, 1) := by decide +kernel
theorem dL_faults_5 : decode cL_faults 5 = .ok (.aload_n 0, 1) := by decide +kernel
theorem dL_faults_6 : decode cL_faults 6 = .ok (.iconst 1, 1) := by decide +kernel
theorem dL_faults_7 : decode cL_faults 7 = .ok (.invokevirtual 38, 3) := by decide +kernel
theorem dL_faults_10 : decode cL_faults 10 = .ok (.if_icmp .ge 46, 3) := by decide +kernel
theorem dL_faults_13 : decode cL_faults 13 = .ok (.aload_n 0, 1) := by decide +kernel
theorem dL_faults_14 : decode cL_faults 14 = .ok (.iload_n 3, 1) := by decide +kernel
theorem dL_faults_15 : decode cL_faults 15 = .ok (.iload_n 1, 1) := by decide +kernel
theorem dL_faults_16 : decode cL_faults 16 = .ok (.aload_n 0, 1) := by decide +kernel
theorem dL_faults_17 : decode cL_faults 17 = .ok (.iload_n 3, 1) := by decide +kernel
theorem dL_faults_18 : decode cL_faults 18 = .ok (.iconst 1, 1) := by decide +kernel
theorem dL_faults_19 : decode cL_faults 19 = .ok (.invokevirtual 41, 3) := by decide +kernel
theorem dL_faults_22 : decode cL_faults 22 = .ok (.imul, 1) := by decide +kernel
theorem dL_faults_23 : decode cL_faults 23 = .ok (.iconst 1, 1) := by decide +kernel
theorem dL_faults_24 : decode cL_faults 24 = .ok (.invokevirtual 78, 3) := by decide +kernel
theorem dL_faults_27 : decode cL_faults 27 = .ok (.istore 4, 2) := by decide +kernel
theorem dL_faults_29 : decode cL_faults 29 = .ok (.iload_n 2, 1) := by decide +kernel
theorem dL_faults_30 : decode cL_faults 30 = .ok (.iload 4, 2) := by decide +kernel
theorem dL_faults_32 : decode cL_faults 32 = .ok (.ifCond .lt 15, 3) := by decide +kernel
theorem dL_faults_35 : decode cL_faults 35 = .ok (.iload 4, 2) := by decide +kernel
theorem dL_faults_37 : decode cL_faults 37 = .ok (.iload_n 3, 1) := by decide +kernel
theorem dL_faults_38 : decode cL_faults 38 = .ok (.if_icmp .eq 9, 3) := by decide +kernel
theorem dL_faults_41 : decode cL_faults 41 = .ok (.iconst 1, 1) := by decide +kernel
theorem dL_faults_42 : decode cL_faults 42 = .ok (.iload_n 3, 1) := by decide +kernel
theorem dL_faults_43 : decode cL_faults 43 = .ok (.ishl, 1) := by decide +kernel
theorem dL_faults_44 : decode cL_faults 44 = .ok (.goto 4, 3) := by decide +kernel
theorem dL_faults_47 : decode cL_faults 47 = .ok (.iconst 0, 1) := by decide +kernel
theorem dL_faults_48 : decode cL_faults 48 = .ok (.ior, 1) := by decide +kernel
theorem dL_faults_49 : decode cL_faults 49 = .ok (.istore_n 2, 1) := by decide +kernel
theorem dL_faults_50 : decode cL_faults 50 = .ok (.iinc 3 1, 3) := by decide +kernel
theorem dL_faults_53 : decode cL_faults 53 = .ok (.goto (-49), 3) := by decide +kernel
theorem dL_faults_56 : decode cL_faults 56 = .ok (.aload_n 0, 1) := by decide +kernel
theorem dL_faults_57 : decode cL_faults 57 = .ok (.iload_n 1, 1) := by decide +kernel
theorem dL_faults_58 : decode cL_faults 58 = .ok (.invokevirtual 81, 3) := by decide +kernel
theorem dL_faults_61 : decode cL_faults 61 = .ok (.iload_n 2, 1) := by decide +kernel
theorem dL_faults_62 : decode cL_faults 62 = .ok (.if_icmp .ne 13, 3) := by decide +kernel
theorem dL_faults_65 : decode cL_faults 65 = .ok (.iload_n 2, 1) := by decide +kernel
theorem dL_faults_66 : decode cL_faults 66 = .ok (.iconst 1, 1) := by decide +kernel
theorem dL_faults_67 : decode cL_faults 67 = .ok (.iand, 1) := by decide +kernel
theorem dL_faults_68 : decode cL_faults 68 = .ok (.ifCond .ne 7, 3) := by decide +kernel
theorem dL_faults_71 : decode cL_faults 71 = .ok (.iconst 1, 1) := by decide +kernel
theorem dL_faults_72 : decode cL_faults 72 = .ok (.goto 4, 3) := by decide +kernel
theorem dL_faults_75 : decode cL_faults 75 = .ok (.iconst 0, 1) := by decide +kernel
theorem dL_faults_76 : decode cL_faults 76 = .ok (.ireturn, 1) := by decide +kernel
theorem dL_law_0 : decode cL_law 0 = .ok (.new 17, 3) := by decide +kernel
theorem dL_law_3 : decode cL_law 3 = .ok (.dup, 1) := by decide +kernel
theorem dL_law_4 : decode cL_law 4 = .ok (.invokespecial 84, 3) := by decide +kernel
theorem dL_law_7 : decode cL_law 7 = .ok (.astore_n 1, 1) := by decide +kernel
theorem dL_law_8 : decode cL_law 8 = .ok (.aload_n 1, 1) := by decide +kernel
theorem dL_law_9 : decode cL_law 9 = .ok (.invokestatic 85, 3) := by decide +kernel
theorem dL_law_12 : decode cL_law 12 = .ok (.ifCond .eq 22, 3) := by decide +kernel
theorem dL_law_15 : decode cL_law 15 = .ok (.aload_n 1, 1) := by decide +kernel
theorem dL_law_16 : decode cL_law 16 = .ok (.invokestatic 88, 3) := by decide +kernel
theorem dL_law_19 : decode cL_law 19 = .ok (.ifCond .eq 15, 3) := by decide +kernel
theorem dL_law_22 : decode cL_law 22 = .ok (.aload_n 1, 1) := by decide +kernel
theorem dL_law_23 : decode cL_law 23 = .ok (.iconst 2, 1) := by decide +kernel
theorem dL_law_24 : decode cL_law 24 = .ok (.invokestatic 91, 3) := by decide +kernel
theorem dL_law_27 : decode cL_law 27 = .ok (.ifCond .eq 7, 3) := by decide +kernel
theorem dL_law_30 : decode cL_law 30 = .ok (.iconst 1, 1) := by decide +kernel
theorem dL_law_31 : decode cL_law 31 = .ok (.goto 4, 3) := by decide +kernel
theorem dL_law_34 : decode cL_law 34 = .ok (.iconst 0, 1) := by decide +kernel
theorem dL_law_35 : decode cL_law 35 = .ok (.istore_n 2, 1) := by decide +kernel
theorem dL_law_36 : decode cL_law 36 = .ok (.iconst 0, 1) := by decide +kernel
theorem dL_law_37 : decode cL_law 37 = .ok (.istore_n 3, 1) := by decide +kernel
theorem dL_law_38 : decode cL_law 38 = .ok (.iload_n 3, 1) := by decide +kernel
theorem dL_law_39 : decode cL_law 39 = .ok (.bipush 46, 2) := by decide +kernel
theorem dL_law_41 : decode cL_law 41 = .ok (.if_icmp .ge 380, 3) := by decide +kernel
theorem dL_law_44 : decode cL_law 44 = .ok (.iload_n 2, 1) := by decide +kernel
theorem dL_law_45 : decode cL_law 45 = .ok (.ifCond .eq 376, 3) := by decide +kernel
theorem dL_law_48 : decode cL_law 48 = .ok (.aload_n 0, 1) := by decide +kernel
theorem dL_law_49 : decode cL_law 49 = .ok (.iconst 2, 1) := by decide +kernel
theorem dL_law_50 : decode cL_law 50 = .ok (.iload_n 3, 1) := by decide +kernel
theorem dL_law_51 : decode cL_law 51 = .ok (.imul, 1) := by decide +kernel
theorem dL_law_52 : decode cL_law 52 = .ok (.invokestatic 95, 3) := by decide +kernel
theorem dL_law_55 : decode cL_law 55 = .ok (.istore 4, 2) := by decide +kernel
theorem dL_law_57 : decode cL_law 57 = .ok (.aload_n 0, 1) := by decide +kernel
theorem dL_law_58 : decode cL_law 58 = .ok (.iconst 2, 1) := by decide +kernel
theorem dL_law_59 : decode cL_law 59 = .ok (.iload_n 3, 1) := by decide +kernel
theorem dL_law_60 : decode cL_law 60 = .ok (.imul, 1) := by decide +kernel
theorem dL_law_61 : decode cL_law 61 = .ok (.iconst 1, 1) := by decide +kernel
theorem dL_law_62 : decode cL_law 62 = .ok (.iadd, 1) := by decide +kernel
theorem dL_law_63 : decode cL_law 63 = .ok (.invokestatic 95, 3) := by decide +kernel
theorem dL_law_66 : decode cL_law 66 = .ok (.istore 5, 2) := by decide +kernel
theorem dL_law_68 : decode cL_law 68 = .ok (.aload_n 1, 1) := by decide +kernel
theorem dL_law_69 : decode cL_law 69 = .ok (.bipush 13, 2) := by decide +kernel
theorem dL_law_71 : decode cL_law 71 = .ok (.invokevirtual 38, 3) := by decide +kernel
theorem dL_law_74 : decode cL_law 74 = .ok (.istore 6, 2) := by decide +kernel
theorem dL_law_76 : decode cL_law 76 = .ok (.aload_n 1, 1) := by decide +kernel
theorem dL_law_77 : decode cL_law 77 = .ok (.invokestatic 68, 3) := by decide +kernel
theorem dL_law_80 : decode cL_law 80 = .ok (.lstore 7, 2) := by decide +kernel
theorem dL_law_82 : decode cL_law 82 = .ok (.iload_n 3, 1) := by decide +kernel
theorem dL_law_83 : decode cL_law 83 = .ok (.iconst 4, 1) := by decide +kernel
theorem dL_law_84 : decode cL_law 84 = .ok (.if_icmp .ge 57, 3) := by decide +kernel
theorem dL_law_87 : decode cL_law 87 = .ok (.aload_n 1, 1) := by decide +kernel
theorem dL_law_88 : decode cL_law 88 = .ok (.iload 4, 2) := by decide +kernel
theorem dL_law_90 : decode cL_law 90 = .ok (.iload_n 3, 1) := by decide +kernel
theorem dL_law_91 : decode cL_law 91 = .ok (.iconst 1, 1) := by decide +kernel
theorem dL_law_92 : decode cL_law 92 = .ok (.iadd, 1) := by decide +kernel
theorem dL_law_93 : decode cL_law 93 = .ok (.invokestatic 10, 3) := by decide +kernel
theorem dL_law_96 : decode cL_law 96 = .ok (.iload_n 3, 1) := by decide +kernel
theorem dL_law_97 : decode cL_law 97 = .ok (.ifCond .le 19, 3) := by decide +kernel
theorem dL_law_100 : decode cL_law 100 = .ok (.iload 4, 2) := by decide +kernel
theorem dL_law_102 : decode cL_law 102 = .ok (.iload_n 3, 1) := by decide +kernel
theorem dL_law_103 : decode cL_law 103 = .ok (.iconst 1, 1) := by decide +kernel
theorem dL_law_104 : decode cL_law 104 = .ok (.iadd, 1) := by decide +kernel
theorem dL_law_105 : decode cL_law 105 = .ok (.invokestatic 10, 3) := by decide +kernel
theorem dL_law_108 : decode cL_law 108 = .ok (.iload_n 3, 1) := by decide +kernel
theorem dL_law_109 : decode cL_law 109 = .ok (.if_icmp .ne 7, 3) := by decide +kernel
theorem dL_law_112 : decode cL_law 112 = .ok (.iconst 1, 1) := by decide +kernel
theorem dL_law_113 : decode cL_law 113 = .ok (.goto 4, 3) := by decide +kernel
theorem dL_law_116 : decode cL_law 116 = .ok (.iconst 0, 1) := by decide +kernel
theorem dL_law_117 : decode cL_law 117 = .ok (.isub, 1) := by decide +kernel
theorem dL_law_118 : decode cL_law 118 = .ok (.iconst 1, 1) := by decide +kernel
theorem dL_law_119 : decode cL_law 119 = .ok (.iload 5, 2) := by decide +kernel
theorem dL_law_121 : decode cL_law 121 = .ok (.bipush 9, 2) := by decide +kernel
theorem dL_law_123 : decode cL_law 123 = .ok (.invokestatic 10, 3) := by decide +kernel
theorem dL_law_126 : decode cL_law 126 = .ok (.iadd, 1) := by decide +kernel
theorem dL_law_127 : decode cL_law 127 = .ok (.iload 5, 2) := by decide +kernel
theorem dL_law_129 : decode cL_law 129 = .ok (.iconst 4, 1) := by decide +kernel
theorem dL_law_130 : decode cL_law 130 = .ok (.ishr, 1) := by decide +kernel
theorem dL_law_131 : decode cL_law 131 = .ok (.iconst 3, 1) := by decide +kernel
theorem dL_law_132 : decode cL_law 132 = .ok (.invokestatic 10, 3) := by decide +kernel
theorem dL_law_135 : decode cL_law 135 = .ok (.invokevirtual 16, 3) := by decide +kernel
theorem dL_law_138 : decode cL_law 138 = .ok (.goto 39, 3) := by decide +kernel
theorem dL_law_141 : decode cL_law 141 = .ok (.iload_n 3, 1) := by decide +kernel
theorem dL_law_142 : decode cL_law 142 = .ok (.bipush 8, 2) := by decide +kernel
theorem dL_law_144 : decode cL_law 144 = .ok (.if_icmp .ge 25, 3) := by decide +kernel
theorem dL_law_147 : decode cL_law 147 = .ok (.aload_n 1, 1) := by decide +kernel
theorem dL_law_148 : decode cL_law 148 = .ok (.iload 4, 2) := by decide +kernel
theorem dL_law_150 : decode cL_law 150 = .ok (.iconst 4, 1) := by decide +kernel
theorem dL_law_151 : decode cL_law 151 = .ok (.invokestatic 10, 3) := by decide +kernel
theorem dL_law_154 : decode cL_law 154 = .ok (.iconst 1, 1) := by decide +kernel
theorem dL_law_155 : decode cL_law 155 = .ok (.iload 5, 2) := by decide +kernel
theorem dL_law_157 : decode cL_law 157 = .ok (.bipush 14, 2) := by decide +kernel
theorem dL_law_159 : decode cL_law 159 = .ok (.invokestatic 10, 3) := by decide +kernel
theorem dL_law_162 : decode cL_law 162 = .ok (.iadd, 1) := by decide +kernel
theorem dL_law_163 : decode cL_law 163 = .ok (.invokevirtual 22, 3) := by decide +kernel
theorem dL_law_166 : decode cL_law 166 = .ok (.goto 11, 3) := by decide +kernel
theorem dL_law_169 : decode cL_law 169 = .ok (.aload_n 1, 1) := by decide +kernel
theorem dL_law_170 : decode cL_law 170 = .ok (.iload 4, 2) := by decide +kernel
theorem dL_law_172 : decode cL_law 172 = .ok (.iload 5, 2) := by decide +kernel
theorem dL_law_174 : decode cL_law 174 = .ok (.invokestatic 99, 3) := by decide +kernel
theorem dL_law_177 : decode cL_law 177 = .ok (.istore 9, 2) := by decide +kernel
theorem dL_law_179 : decode cL_law 179 = .ok (.iload 9, 2) := by decide +kernel
theorem dL_law_181 : decode cL_law 181 = .ok (.ifCond .ge 33, 3) := by decide +kernel
theorem dL_law_184 : decode cL_law 184 = .ok (.aload_n 1, 1) := by decide +kernel
theorem dL_law_185 : decode cL_law 185 = .ok (.bipush 13, 2) := by decide +kernel
theorem dL_law_187 : decode cL_law 187 = .ok (.invokevirtual 38, 3) := by decide +kernel
theorem dL_law_190 : decode cL_law 190 = .ok (.iload 6, 2) := by decide +kernel
theorem dL_law_192 : decode cL_law 192 = .ok (.if_icmp .ne 17, 3) := by decide +kernel
theorem dL_law_195 : decode cL_law 195 = .ok (.aload_n 1, 1) := by decide +kernel
theorem dL_law_196 : decode cL_law 196 = .ok (.invokestatic 68, 3) := by decide +kernel
theorem dL_law_199 : decode cL_law 199 = .ok (.lload 7, 2) := by decide +kernel
theorem dL_law_201 : decode cL_law 201 = .ok (.lcmp, 1) := by decide +kernel
theorem dL_law_202 : decode cL_law 202 = .ok (.ifCond .ne 7, 3) := by decide +kernel
theorem dL_law_205 : decode cL_law 205 = .ok (.iconst 1, 1) := by decide +kernel
theorem dL_law_206 : decode cL_law 206 = .ok (.goto 4, 3) := by decide +kernel
theorem dL_law_209 : decode cL_law 209 = .ok (.iconst 0, 1) := by decide +kernel
theorem dL_law_210 : decode cL_law 210 = .ok (.istore_n 2, 1) := by decide +kernel
theorem dL_law_211 : decode cL_law 211 = .ok (.goto 104, 3) := by decide +kernel
theorem dL_law_214 : decode cL_law 214 = .ok (.aload_n 1, 1) := by decide +kernel
theorem dL_law_215 : decode cL_law 215 = .ok (.bipush 13, 2) := by decide +kernel
theorem dL_law_217 : decode cL_law 217 = .ok (.invokevirtual 38, 3) := by decide +kernel
theorem dL_law_220 : decode cL_law 220 = .ok (.iload 6, 2) := by decide +kernel
theorem dL_law_222 : decode cL_law 222 = .ok (.bipush 6, 2) := by decide +kernel
theorem dL_law_224 : decode cL_law 224 = .ok (.if_icmp .ge 10, 3) := by decide +kernel
theorem dL_law_227 : decode cL_law 227 = .ok (.iload 6, 2) := by decide +kernel
theorem dL_law_229 : decode cL_law 229 = .ok (.iconst 1, 1) := by decide +kernel
theorem dL_law_230 : decode cL_law 230 = .ok (.iadd, 1) := by decide +kernel
theorem dL_law_231 : decode cL_law 231 = .ok (.goto 5, 3) := by decide +kernel
theorem dL_law_234 : decode cL_law 234 = .ok (.bipush 6, 2) := by decide +kernel
theorem dL_law_236 : decode cL_law 236 = .ok (.if_icmp .ne 7, 3) := by decide +kernel
theorem dL_law_239 : decode cL_law 239 = .ok (.iconst 1, 1) := by decide +kernel
theorem dL_law_240 : decode cL_law 240 = .ok (.goto 4, 3) := by decide +kernel
theorem dL_law_243 : decode cL_law 243 = .ok (.iconst 0, 1) := by decide +kernel
theorem dL_law_244 : decode cL_law 244 = .ok (.istore_n 2, 1) := by decide +kernel
theorem dL_law_245 : decode cL_law 245 = .ok (.iload_n 2, 1) := by decide +kernel
theorem dL_law_246 : decode cL_law 246 = .ok (.ifCond .eq 69, 3) := by decide +kernel
theorem dL_law_249 : decode cL_law 249 = .ok (.iload_n 3, 1) := by decide +kernel
theorem dL_law_250 : decode cL_law 250 = .ok (.bipush 7, 2) := by decide +kernel
theorem dL_law_252 : decode cL_law 252 = .ok (.if_icmp .le 63, 3) := by decide +kernel
theorem dL_law_255 : decode cL_law 255 = .ok (.iload 5, 2) := by decide +kernel
theorem dL_law_257 : decode cL_law 257 = .ok (.iconst 5, 1) := by decide +kernel
theorem dL_law_258 : decode cL_law 258 = .ok (.ishr, 1) := by decide +kernel
theorem dL_law_259 : decode cL_law 259 = .ok (.iconst 4, 1) := by decide +kernel
theorem dL_law_260 : decode cL_law 260 = .ok (.invokestatic 10, 3) := by decide +kernel
theorem dL_law_263 : decode cL_law 263 = .ok (.ifCond .ne 52, 3) := by decide +kernel
theorem dL_law_266 : decode cL_law 266 = .ok (.aload_n 1, 1) := by decide +kernel
theorem dL_law_267 : decode cL_law 267 = .ok (.invokevirtual 103, 3) := by decide +kernel
theorem dL_law_270 : decode cL_law 270 = .ok (.iload 6, 2) := by decide +kernel
theorem dL_law_272 : decode cL_law 272 = .ok (.bipush 6, 2) := by decide +kernel
theorem dL_law_274 : decode cL_law 274 = .ok (.if_icmp .ge 8, 3) := by decide +kernel
theorem dL_law_277 : decode cL_law 277 = .ok (.iload 6, 2) := by decide +kernel
theorem dL_law_279 : decode cL_law 279 = .ok (.goto 4, 3) := by decide +kernel
theorem dL_law_282 : decode cL_law 282 = .ok (.iconst 5, 1) := by decide +kernel
theorem dL_law_283 : decode cL_law 283 = .ok (.if_icmp .ne 30, 3) := by decide +kernel
theorem dL_law_286 : decode cL_law 286 = .ok (.aload_n 1, 1) := by decide +kernel
theorem dL_law_287 : decode cL_law 287 = .ok (.invokestatic 68, 3) := by decide +kernel
theorem dL_law_290 : decode cL_law 290 = .ok (.lload 7, 2) := by decide +kernel
theorem dL_law_292 : decode cL_law 292 = .ok (.lcmp, 1) := by decide +kernel
theorem dL_law_293 : decode cL_law 293 = .ok (.ifCond .ne 20, 3) := by decide +kernel
theorem dL_law_296 : decode cL_law 296 = .ok (.aload_n 1, 1) := by decide +kernel
theorem dL_law_297 : decode cL_law 297 = .ok (.iload 4, 2) := by decide +kernel
theorem dL_law_299 : decode cL_law 299 = .ok (.iload 5, 2) := by decide +kernel
theorem dL_law_301 : decode cL_law 301 = .ok (.invokestatic 99, 3) := by decide +kernel
theorem dL_law_304 : decode cL_law 304 = .ok (.iload 9, 2) := by decide +kernel
theorem dL_law_306 : decode cL_law 306 = .ok (.if_icmp .ne 7, 3) := by decide +kernel
theorem dL_law_309 : decode cL_law 309 = .ok (.iconst 1, 1) := by decide +kernel
theorem dL_law_310 : decode cL_law 310 = .ok (.goto 4, 3) := by decide +kernel
theorem dL_law_313 : decode cL_law 313 = .ok (.iconst 0, 1) := by decide +kernel
theorem dL_law_314 : decode cL_law 314 = .ok (.istore_n 2, 1) := by decide +kernel
theorem dL_law_315 : decode cL_law 315 = .ok (.iload_n 2, 1) := by decide +kernel
theorem dL_law_316 : decode cL_law 316 = .ok (.ifCond .eq 97, 3) := by decide +kernel
theorem dL_law_319 : decode cL_law 319 = .ok (.aload_n 1, 1) := by decide +kernel
theorem dL_law_320 : decode cL_law 320 = .ok (.invokestatic 85, 3) := by decide +kernel
theorem dL_law_323 : decode cL_law 323 = .ok (.ifCond .eq 90, 3) := by decide +kernel
theorem dL_law_326 : decode cL_law 326 = .ok (.iload_n 3, 1) := by decide +kernel
theorem dL_law_327 : decode cL_law 327 = .ok (.iconst 3, 1) := by decide +kernel
theorem dL_law_328 : decode cL_law 328 = .ok (.irem, 1) := by decide +kernel
theorem dL_law_329 : decode cL_law 329 = .ok (.ifCond .gt 10, 3) := by decide +kernel
theorem dL_law_332 : decode cL_law 332 = .ok (.aload_n 1, 1) := by decide +kernel
theorem dL_law_333 : decode cL_law 333 = .ok (.invokestatic 88, 3) := by decide +kernel
theorem dL_law_336 : decode cL_law 336 = .ok (.ifCond .eq 77, 3) := by decide +kernel
theorem dL_law_339 : decode cL_law 339 = .ok (.aload_n 1, 1) := by decide +kernel
theorem dL_law_340 : decode cL_law 340 = .ok (.iload 4, 2) := by decide +kernel
theorem dL_law_342 : decode cL_law 342 = .ok (.bipush 6, 2) := by decide +kernel
theorem dL_law_344 : decode cL_law 344 = .ok (.ishr, 1) := by decide +kernel
theorem dL_law_345 : decode cL_law 345 = .ok (.bipush 6, 2) := by decide +kernel
theorem dL_law_347 : decode cL_law 347 = .ok (.invokestatic 10, 3) := by decide +kernel
theorem dL_law_350 : decode cL_law 350 = .ok (.iconst 1, 1) := by decide +kernel
theorem dL_law_351 : decode cL_law 351 = .ok (.iload 5, 2) := by decide +kernel
theorem dL_law_353 : decode cL_law 353 = .ok (.iconst 3, 1) := by decide +kernel
theorem dL_law_354 : decode cL_law 354 = .ok (.ishr, 1) := by decide +kernel
theorem dL_law_355 : decode cL_law 355 = .ok (.iload 5, 2) := by decide +kernel
theorem dL_law_357 : decode cL_law 357 = .ok (.bipush 9, 2) := by decide +kernel
theorem dL_law_359 : decode cL_law 359 = .ok (.ishr, 1) := by decide +kernel
theorem dL_law_360 : decode cL_law 360 = .ok (.iconst 3, 1) := by decide +kernel
theorem dL_law_361 : decode cL_law 361 = .ok (.invokestatic 10, 3) := by decide +kernel
theorem dL_law_364 : decode cL_law 364 = .ok (.ifCond .ne 9, 3) := by decide +kernel
theorem dL_law_367 : decode cL_law 367 = .ok (.sipush 500, 3) := by decide +kernel
theorem dL_law_370 : decode cL_law 370 = .ok (.goto 5, 3) := by decide +kernel
theorem dL_law_373 : decode cL_law 373 = .ok (.bipush 20, 2) := by decide +kernel
theorem dL_law_375 : decode cL_law 375 = .ok (.invokestatic 10, 3) := by decide +kernel
theorem dL_law_378 : decode cL_law 378 = .ok (.iadd, 1) := by decide +kernel
theorem dL_law_379 : decode cL_law 379 = .ok (.invokestatic 107, 3) := by decide +kernel
theorem dL_law_382 : decode cL_law 382 = .ok (.ifCond .eq 31, 3) := by decide +kernel
theorem dL_law_385 : decode cL_law 385 = .ok (.iload_n 3, 1) := by decide +kernel
theorem dL_law_386 : decode cL_law 386 = .ok (.iconst 5, 1) := by decide +kernel
theorem dL_law_387 : decode cL_law 387 = .ok (.irem, 1) := by decide +kernel
theorem dL_law_388 : decode cL_law 388 = .ok (.ifCond .gt 21, 3) := by decide +kernel
theorem dL_law_391 : decode cL_law 391 = .ok (.aload_n 1, 1) := by decide +kernel
theorem dL_law_392 : decode cL_law 392 = .ok (.iconst 2, 1) := by decide +kernel
theorem dL_law_393 : decode cL_law 393 = .ok (.iload 4, 2) := by decide +kernel
theorem dL_law_395 : decode cL_law 395 = .ok (.iconst 4, 1) := by decide +kernel
theorem dL_law_396 : decode cL_law 396 = .ok (.ishr, 1) := by decide +kernel
theorem dL_law_397 : decode cL_law 397 = .ok (.bipush 19, 2) := by decide +kernel
theorem dL_law_399 : decode cL_law 399 = .ok (.invokestatic 10, 3) := by decide +kernel
theorem dL_law_402 : decode cL_law 402 = .ok (.iadd, 1) := by decide +kernel
theorem dL_law_403 : decode cL_law 403 = .ok (.invokestatic 91, 3) := by decide +kernel
theorem dL_law_406 : decode cL_law 406 = .ok (.ifCond .eq 7, 3) := by decide +kernel
theorem dL_law_409 : decode cL_law 409 = .ok (.iconst 1, 1) := by decide +kernel
theorem dL_law_410 : decode cL_law 410 = .ok (.goto 4, 3) := by decide +kernel
theorem dL_law_413 : decode cL_law 413 = .ok (.iconst 0, 1) := by decide +kernel
theorem dL_law_414 : decode cL_law 414 = .ok (.istore_n 2, 1) := by decide +kernel
theorem dL_law_415 : decode cL_law 415 = .ok (.iinc 3 1, 3) := by decide +kernel
theorem dL_law_418 : decode cL_law 418 = .ok (.goto (-380), 3) := by decide +kernel
theorem dL_law_421 : decode cL_law 421 = .ok (.iload_n 2, 1) := by decide +kernel
theorem dL_law_422 : decode cL_law 422 = .ok (.ifCond .eq 14, 3) := by decide +kernel
theorem dL_law_425 : decode cL_law 425 = .ok (.aload_n 1, 1) := by decide +kernel
theorem dL_law_426 : decode cL_law 426 = .ok (.invokestatic 85, 3) := by decide +kernel
theorem dL_law_429 : decode cL_law 429 = .ok (.ifCond .eq 7, 3) := by decide +kernel
theorem dL_law_432 : decode cL_law 432 = .ok (.iconst 1, 1) := by decide +kernel
theorem dL_law_433 : decode cL_law 433 = .ok (.goto 4, 3) := by decide +kernel
theorem dL_law_436 : decode cL_law 436 = .ok (.iconst 0, 1) := by decide +kernel
theorem dL_law_437 : decode cL_law 437 = .ok (.ireturn, 1) := by decide +kernel
