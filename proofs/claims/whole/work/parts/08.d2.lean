theorem dX5_init_0 : decode prog_7_method_1_code 0 = .ok (.aload_n 0, 1) := by decide +kernel
theorem dX5_init_1 : decode prog_7_method_1_code 1 = .ok (.invokespecial 1, 3) := by decide +kernel
theorem dX5_init_4 : decode prog_7_method_1_code 4 = .ok (.aload_n 0, 1) := by decide +kernel
theorem dX5_init_5 : decode prog_7_method_1_code 5 = .ok (.iconst 0, 1) := by decide +kernel
theorem dX5_init_6 : decode prog_7_method_1_code 6 = .ok (.putfield 7, 3) := by decide +kernel
theorem dX5_init_9 : decode prog_7_method_1_code 9 = .ok (.aload_n 0, 1) := by decide +kernel
theorem dX5_init_10 : decode prog_7_method_1_code 10 = .ok (.iconst 0, 1) := by decide +kernel
theorem dX5_init_11 : decode prog_7_method_1_code 11 = .ok (.putfield 13, 3) := by decide +kernel
theorem dX5_init_14 : decode prog_7_method_1_code 14 = .ok (.aload_n 0, 1) := by decide +kernel
theorem dX5_init_15 : decode prog_7_method_1_code 15 = .ok (.iconst 0, 1) := by decide +kernel
theorem dX5_init_16 : decode prog_7_method_1_code 16 = .ok (.putfield 16, 3) := by decide +kernel
theorem dX5_init_19 : decode prog_7_method_1_code 19 = .ok (.aload_n 0, 1) := by decide +kernel
theorem dX5_init_20 : decode prog_7_method_1_code 20 = .ok (.iconst 0, 1) := by decide +kernel
theorem dX5_init_21 : decode prog_7_method_1_code 21 = .ok (.putfield 19, 3) := by decide +kernel
theorem dX5_init_24 : decode prog_7_method_1_code 24 = .ok (.aload_n 0, 1) := by decide +kernel
theorem dX5_init_25 : decode prog_7_method_1_code 25 = .ok (.bipush 6, 2) := by decide +kernel
theorem dX5_init_27 : decode prog_7_method_1_code 27 = .ok (.newarray .boolean, 2) := by decide +kernel
theorem dX5_init_29 : decode prog_7_method_1_code 29 = .ok (.putfield 22, 3) := by decide +kernel
theorem dX5_init_32 : decode prog_7_method_1_code 32 = .ok (.aload_n 0, 1) := by decide +kernel
theorem dX5_init_33 : decode prog_7_method_1_code 33 = .ok (.bipush 6, 2) := by decide +kernel
theorem dX5_init_35 : decode prog_7_method_1_code 35 = .ok (.newarray .long, 2) := by decide +kernel
theorem dX5_init_37 : decode prog_7_method_1_code 37 = .ok (.putfield 26, 3) := by decide +kernel
theorem dX5_init_40 : decode prog_7_method_1_code 40 = .ok (.aload_n 0, 1) := by decide +kernel
theorem dX5_init_41 : decode prog_7_method_1_code 41 = .ok (.iconst 0, 1) := by decide +kernel
theorem dX5_init_42 : decode prog_7_method_1_code 42 = .ok (.putfield 30, 3) := by decide +kernel
theorem dX5_init_45 : decode prog_7_method_1_code 45 = .ok (.aload_n 0, 1) := by decide +kernel
theorem dX5_init_46 : decode prog_7_method_1_code 46 = .ok (.bipush 20, 2) := by decide +kernel
theorem dX5_init_48 : decode prog_7_method_1_code 48 = .ok (.newarray .int, 2) := by decide +kernel
theorem dX5_init_50 : decode prog_7_method_1_code 50 = .ok (.putfield 33, 3) := by decide +kernel
theorem dX5_init_53 : decode prog_7_method_1_code 53 = .ok (.aload_n 0, 1) := by decide +kernel
theorem dX5_init_54 : decode prog_7_method_1_code 54 = .ok (.iconst 0, 1) := by decide +kernel
theorem dX5_init_55 : decode prog_7_method_1_code 55 = .ok (.putfield 37, 3) := by decide +kernel
theorem dX5_init_58 : decode prog_7_method_1_code 58 = .ok (.aload_n 0, 1) := by decide +kernel
theorem dX5_init_59 : decode prog_7_method_1_code 59 = .ok (.bipush 30, 2) := by decide +kernel
theorem dX5_init_61 : decode prog_7_method_1_code 61 = .ok (.newarray .int, 2) := by decide +kernel
theorem dX5_init_63 : decode prog_7_method_1_code 63 = .ok (.putfield 40, 3) := by decide +kernel
theorem dX5_init_66 : decode prog_7_method_1_code 66 = .ok (.aload_n 0, 1) := by decide +kernel
theorem dX5_init_67 : decode prog_7_method_1_code 67 = .ok (.bipush 30, 2) := by decide +kernel
theorem dX5_init_69 : decode prog_7_method_1_code 69 = .ok (.newarray .int, 2) := by decide +kernel
theorem dX5_init_71 : decode prog_7_method_1_code 71 = .ok (.putfield 43, 3) := by decide +kernel
theorem dX5_init_74 : decode prog_7_method_1_code 74 = .ok (.aload_n 0, 1) := by decide +kernel
theorem dX5_init_75 : decode prog_7_method_1_code 75 = .ok (.bipush 30, 2) := by decide +kernel
theorem dX5_init_77 : decode prog_7_method_1_code 77 = .ok (.newarray .int, 2) := by decide +kernel
theorem dX5_init_79 : decode prog_7_method_1_code 79 = .ok (.putfield 46, 3) := by decide +kernel
theorem dX5_init_82 : decode prog_7_method_1_code 82 = .ok (.aload_n 0, 1) := by decide +kernel
theorem dX5_init_83 : decode prog_7_method_1_code 83 = .ok (.bipush 30, 2) := by decide +kernel
theorem dX5_init_85 : decode prog_7_method_1_code 85 = .ok (.newarray .int, 2) := by decide +kernel
theorem dX5_init_87 : decode prog_7_method_1_code 87 = .ok (.putfield 49, 3) := by decide +kernel
theorem dX5_init_90 : decode prog_7_method_1_code 90 = .ok (.aload_n 0, 1) := by decide +kernel
theorem dX5_init_91 : decode prog_7_method_1_code 91 = .ok (.bipush 30, 2) := by decide +kernel
theorem dX5_init_93 : decode prog_7_method_1_code 93 = .ok (.newarray .int, 2) := by decide +kernel
theorem dX5_init_95 : decode prog_7_method_1_code 95 = .ok (.putfield 52, 3) := by decide +kernel
theorem dX5_init_98 : decode prog_7_method_1_code 98 = .ok (.aload_n 0, 1) := by decide +kernel
theorem dX5_init_99 : decode prog_7_method_1_code 99 = .ok (.sipush 240, 3) := by decide +kernel
theorem dX5_init_102 : decode prog_7_method_1_code 102 = .ok (.newarray .int, 2) := by decide +kernel
theorem dX5_init_104 : decode prog_7_method_1_code 104 = .ok (.putfield 55, 3) := by decide +kernel
theorem dX5_init_107 : decode prog_7_method_1_code 107 = .ok (.aload_n 0, 1) := by decide +kernel
theorem dX5_init_108 : decode prog_7_method_1_code 108 = .ok (.sipush 240, 3) := by decide +kernel
theorem dX5_init_111 : decode prog_7_method_1_code 111 = .ok (.newarray .long, 2) := by decide +kernel
theorem dX5_init_113 : decode prog_7_method_1_code 113 = .ok (.putfield 58, 3) := by decide +kernel
theorem dX5_init_116 : decode prog_7_method_1_code 116 = .ok (.aload_n 0, 1) := by decide +kernel
theorem dX5_init_117 : decode prog_7_method_1_code 117 = .ok (.sipush 240, 3) := by decide +kernel
theorem dX5_init_120 : decode prog_7_method_1_code 120 = .ok (.newarray .boolean, 2) := by decide +kernel
theorem dX5_init_122 : decode prog_7_method_1_code 122 = .ok (.putfield 61, 3) := by decide +kernel
theorem dX5_init_125 : decode prog_7_method_1_code 125 = .ok (.aload_n 0, 1) := by decide +kernel
theorem dX5_init_126 : decode prog_7_method_1_code 126 = .ok (.iconst 0, 1) := by decide +kernel
theorem dX5_init_127 : decode prog_7_method_1_code 127 = .ok (.putfield 64, 3) := by decide +kernel
theorem dX5_init_130 : decode prog_7_method_1_code 130 = .ok (.aload_n 0, 1) := by decide +kernel
theorem dX5_init_131 : decode prog_7_method_1_code 131 = .ok (.bipush 20, 2) := by decide +kernel
theorem dX5_init_133 : decode prog_7_method_1_code 133 = .ok (.newarray .int, 2) := by decide +kernel
theorem dX5_init_135 : decode prog_7_method_1_code 135 = .ok (.putfield 67, 3) := by decide +kernel
theorem dX5_init_138 : decode prog_7_method_1_code 138 = .ok (.aload_n 0, 1) := by decide +kernel
theorem dX5_init_139 : decode prog_7_method_1_code 139 = .ok (.bipush 20, 2) := by decide +kernel
theorem dX5_init_141 : decode prog_7_method_1_code 141 = .ok (.newarray .long, 2) := by decide +kernel
theorem dX5_init_143 : decode prog_7_method_1_code 143 = .ok (.putfield 70, 3) := by decide +kernel
theorem dX5_init_146 : decode prog_7_method_1_code 146 = .ok (.aload_n 0, 1) := by decide +kernel
theorem dX5_init_147 : decode prog_7_method_1_code 147 = .ok (.bipush 20, 2) := by decide +kernel
theorem dX5_init_149 : decode prog_7_method_1_code 149 = .ok (.newarray .int, 2) := by decide +kernel
theorem dX5_init_151 : decode prog_7_method_1_code 151 = .ok (.putfield 73, 3) := by decide +kernel
theorem dX5_init_154 : decode prog_7_method_1_code 154 = .ok (.aload_n 0, 1) := by decide +kernel
theorem dX5_init_155 : decode prog_7_method_1_code 155 = .ok (.bipush 20, 2) := by decide +kernel
theorem dX5_init_157 : decode prog_7_method_1_code 157 = .ok (.newarray .int, 2) := by decide +kernel
theorem dX5_init_159 : decode prog_7_method_1_code 159 = .ok (.putfield 76, 3) := by decide +kernel
theorem dX5_init_162 : decode prog_7_method_1_code 162 = .ok (.aload_n 0, 1) := by decide +kernel
theorem dX5_init_163 : decode prog_7_method_1_code 163 = .ok (.bipush 20, 2) := by decide +kernel
theorem dX5_init_165 : decode prog_7_method_1_code 165 = .ok (.newarray .boolean, 2) := by decide +kernel
theorem dX5_init_167 : decode prog_7_method_1_code 167 = .ok (.putfield 79, 3) := by decide +kernel
theorem dX5_init_170 : decode prog_7_method_1_code 170 = .ok (.aload_n 0, 1) := by decide +kernel
theorem dX5_init_171 : decode prog_7_method_1_code 171 = .ok (.iconst 0, 1) := by decide +kernel
theorem dX5_init_172 : decode prog_7_method_1_code 172 = .ok (.putfield 82, 3) := by decide +kernel
theorem dX5_init_175 : decode prog_7_method_1_code 175 = .ok (.return_, 1) := by decide +kernel
theorem dX5_not_0 : decode prog_7_method_2_code 0 = .ok (.lload_n 0, 1) := by decide +kernel
theorem dX5_not_1 : decode prog_7_method_2_code 1 = .ok (.lload_n 2, 1) := by decide +kernel
theorem dX5_not_2 : decode prog_7_method_2_code 2 = .ok (.lcmp, 1) := by decide +kernel
theorem dX5_not_3 : decode prog_7_method_2_code 3 = .ok (.ifCond .lt 10, 3) := by decide +kernel
theorem dX5_not_6 : decode prog_7_method_2_code 6 = .ok (.lload_n 0, 1) := by decide +kernel
theorem dX5_not_7 : decode prog_7_method_2_code 7 = .ok (.lload 4, 2) := by decide +kernel
theorem dX5_not_9 : decode prog_7_method_2_code 9 = .ok (.lcmp, 1) := by decide +kernel
theorem dX5_not_10 : decode prog_7_method_2_code 10 = .ok (.ifCond .le 7, 3) := by decide +kernel
theorem dX5_not_13 : decode prog_7_method_2_code 13 = .ok (.iconst 1, 1) := by decide +kernel
theorem dX5_not_14 : decode prog_7_method_2_code 14 = .ok (.goto 4, 3) := by decide +kernel
theorem dX5_not_17 : decode prog_7_method_2_code 17 = .ok (.iconst 0, 1) := by decide +kernel
theorem dX5_not_18 : decode prog_7_method_2_code 18 = .ok (.ireturn, 1) := by decide +kernel
theorem dX5_noOwner_0 : decode prog_7_method_3_code 0 = .ok (.iload_n 1, 1) := by decide +kernel
theorem dX5_noOwner_1 : decode prog_7_method_3_code 1 = .ok (.ifCond .lt 11, 3) := by decide +kernel
theorem dX5_noOwner_4 : decode prog_7_method_3_code 4 = .ok (.iload_n 1, 1) := by decide +kernel
theorem dX5_noOwner_5 : decode prog_7_method_3_code 5 = .ok (.aload_n 0, 1) := by decide +kernel
theorem dX5_noOwner_6 : decode prog_7_method_3_code 6 = .ok (.getfield 19, 3) := by decide +kernel
theorem dX5_noOwner_9 : decode prog_7_method_3_code 9 = .ok (.if_icmp .lt 7, 3) := by decide +kernel
theorem dX5_noOwner_12 : decode prog_7_method_3_code 12 = .ok (.iconst 1, 1) := by decide +kernel
theorem dX5_noOwner_13 : decode prog_7_method_3_code 13 = .ok (.goto 4, 3) := by decide +kernel
theorem dX5_noOwner_16 : decode prog_7_method_3_code 16 = .ok (.iconst 0, 1) := by decide +kernel
theorem dX5_noOwner_17 : decode prog_7_method_3_code 17 = .ok (.ireturn, 1) := by decide +kernel
theorem dX5_noBatch_0 : decode prog_7_method_4_code 0 = .ok (.iload_n 1, 1) := by decide +kernel
theorem dX5_noBatch_1 : decode prog_7_method_4_code 1 = .ok (.iconst 1, 1) := by decide +kernel
theorem dX5_noBatch_2 : decode prog_7_method_4_code 2 = .ok (.if_icmp .lt 11, 3) := by decide +kernel
theorem dX5_noBatch_5 : decode prog_7_method_4_code 5 = .ok (.iload_n 1, 1) := by decide +kernel
theorem dX5_noBatch_6 : decode prog_7_method_4_code 6 = .ok (.aload_n 0, 1) := by decide +kernel
theorem dX5_noBatch_7 : decode prog_7_method_4_code 7 = .ok (.getfield 37, 3) := by decide +kernel
theorem dX5_noBatch_10 : decode prog_7_method_4_code 10 = .ok (.if_icmp .le 7, 3) := by decide +kernel
theorem dX5_noBatch_13 : decode prog_7_method_4_code 13 = .ok (.iconst 1, 1) := by decide +kernel
theorem dX5_noBatch_14 : decode prog_7_method_4_code 14 = .ok (.goto 4, 3) := by decide +kernel
theorem dX5_noBatch_17 : decode prog_7_method_4_code 17 = .ok (.iconst 0, 1) := by decide +kernel
theorem dX5_noBatch_18 : decode prog_7_method_4_code 18 = .ok (.ireturn, 1) := by decide +kernel
theorem dX5_noInvoice_0 : decode prog_7_method_5_code 0 = .ok (.iload_n 1, 1) := by decide +kernel
theorem dX5_noInvoice_1 : decode prog_7_method_5_code 1 = .ok (.iconst 1, 1) := by decide +kernel
theorem dX5_noInvoice_2 : decode prog_7_method_5_code 2 = .ok (.if_icmp .lt 11, 3) := by decide +kernel
theorem dX5_noInvoice_5 : decode prog_7_method_5_code 5 = .ok (.iload_n 1, 1) := by decide +kernel
theorem dX5_noInvoice_6 : decode prog_7_method_5_code 6 = .ok (.aload_n 0, 1) := by decide +kernel
theorem dX5_noInvoice_7 : decode prog_7_method_5_code 7 = .ok (.getfield 64, 3) := by decide +kernel
theorem dX5_noInvoice_10 : decode prog_7_method_5_code 10 = .ok (.if_icmp .le 7, 3) := by decide +kernel
theorem dX5_noInvoice_13 : decode prog_7_method_5_code 13 = .ok (.iconst 1, 1) := by decide +kernel
theorem dX5_noInvoice_14 : decode prog_7_method_5_code 14 = .ok (.goto 4, 3) := by decide +kernel
theorem dX5_noInvoice_17 : decode prog_7_method_5_code 17 = .ok (.iconst 0, 1) := by decide +kernel
theorem dX5_noInvoice_18 : decode prog_7_method_5_code 18 = .ok (.ireturn, 1) := by decide +kernel
theorem dX5_overdue_0 : decode prog_7_method_6_code 0 = .ok (.aload_n 0, 1) := by decide +kernel
theorem dX5_overdue_1 : decode prog_7_method_6_code 1 = .ok (.getfield 70, 3) := by decide +kernel
theorem dX5_overdue_4 : decode prog_7_method_6_code 4 = .ok (.iload_n 1, 1) := by decide +kernel
theorem dX5_overdue_5 : decode prog_7_method_6_code 5 = .ok (.laload, 1) := by decide +kernel
theorem dX5_overdue_6 : decode prog_7_method_6_code 6 = .ok (.lconst 0, 1) := by decide +kernel
theorem dX5_overdue_7 : decode prog_7_method_6_code 7 = .ok (.lcmp, 1) := by decide +kernel
theorem dX5_overdue_8 : decode prog_7_method_6_code 8 = .ok (.ifCond .le 29, 3) := by decide +kernel
theorem dX5_overdue_11 : decode prog_7_method_6_code 11 = .ok (.aload_n 0, 1) := by decide +kernel
theorem dX5_overdue_12 : decode prog_7_method_6_code 12 = .ok (.getfield 79, 3) := by decide +kernel
theorem dX5_overdue_15 : decode prog_7_method_6_code 15 = .ok (.iload_n 1, 1) := by decide +kernel
theorem dX5_overdue_16 : decode prog_7_method_6_code 16 = .ok (.baload, 1) := by decide +kernel
theorem dX5_overdue_17 : decode prog_7_method_6_code 17 = .ok (.ifCond .ne 20, 3) := by decide +kernel
theorem dX5_overdue_20 : decode prog_7_method_6_code 20 = .ok (.aload_n 0, 1) := by decide +kernel
theorem dX5_overdue_21 : decode prog_7_method_6_code 21 = .ok (.getfield 13, 3) := by decide +kernel
theorem dX5_overdue_24 : decode prog_7_method_6_code 24 = .ok (.aload_n 0, 1) := by decide +kernel
theorem dX5_overdue_25 : decode prog_7_method_6_code 25 = .ok (.getfield 73, 3) := by decide +kernel
theorem dX5_overdue_28 : decode prog_7_method_6_code 28 = .ok (.iload_n 1, 1) := by decide +kernel
theorem dX5_overdue_29 : decode prog_7_method_6_code 29 = .ok (.iaload, 1) := by decide +kernel
theorem dX5_overdue_30 : decode prog_7_method_6_code 30 = .ok (.if_icmp .le 7, 3) := by decide +kernel
theorem dX5_overdue_33 : decode prog_7_method_6_code 33 = .ok (.iconst 1, 1) := by decide +kernel
theorem dX5_overdue_34 : decode prog_7_method_6_code 34 = .ok (.goto 4, 3) := by decide +kernel
theorem dX5_overdue_37 : decode prog_7_method_6_code 37 = .ok (.iconst 0, 1) := by decide +kernel
theorem dX5_overdue_38 : decode prog_7_method_6_code 38 = .ok (.ireturn, 1) := by decide +kernel
theorem dX5_overdues_0 : decode prog_7_method_7_code 0 = .ok (.iconst 0, 1) := by decide +kernel
theorem dX5_overdues_1 : decode prog_7_method_7_code 1 = .ok (.istore_n 2, 1) := by decide +kernel
theorem dX5_overdues_2 : decode prog_7_method_7_code 2 = .ok (.iconst 0, 1) := by decide +kernel
theorem dX5_overdues_3 : decode prog_7_method_7_code 3 = .ok (.istore_n 3, 1) := by decide +kernel
theorem dX5_overdues_4 : decode prog_7_method_7_code 4 = .ok (.iload_n 3, 1) := by decide +kernel
theorem dX5_overdues_5 : decode prog_7_method_7_code 5 = .ok (.aload_n 0, 1) := by decide +kernel
theorem dX5_overdues_6 : decode prog_7_method_7_code 6 = .ok (.getfield 64, 3) := by decide +kernel
theorem dX5_overdues_9 : decode prog_7_method_7_code 9 = .ok (.if_icmp .ge 35, 3) := by decide +kernel
theorem dX5_overdues_12 : decode prog_7_method_7_code 12 = .ok (.iload_n 2, 1) := by decide +kernel
theorem dX5_overdues_13 : decode prog_7_method_7_code 13 = .ok (.aload_n 0, 1) := by decide +kernel
theorem dX5_overdues_14 : decode prog_7_method_7_code 14 = .ok (.getfield 67, 3) := by decide +kernel
theorem dX5_overdues_17 : decode prog_7_method_7_code 17 = .ok (.iload_n 3, 1) := by decide +kernel
theorem dX5_overdues_18 : decode prog_7_method_7_code 18 = .ok (.iaload, 1) := by decide +kernel
theorem dX5_overdues_19 : decode prog_7_method_7_code 19 = .ok (.iload_n 1, 1) := by decide +kernel
theorem dX5_overdues_20 : decode prog_7_method_7_code 20 = .ok (.if_icmp .ne 15, 3) := by decide +kernel
theorem dX5_overdues_23 : decode prog_7_method_7_code 23 = .ok (.aload_n 0, 1) := by decide +kernel
theorem dX5_overdues_24 : decode prog_7_method_7_code 24 = .ok (.iload_n 3, 1) := by decide +kernel
theorem dX5_overdues_25 : decode prog_7_method_7_code 25 = .ok (.invokevirtual 85, 3) := by decide +kernel
theorem dX5_overdues_28 : decode prog_7_method_7_code 28 = .ok (.ifCond .eq 7, 3) := by decide +kernel
theorem dX5_overdues_31 : decode prog_7_method_7_code 31 = .ok (.iconst 1, 1) := by decide +kernel
theorem dX5_overdues_32 : decode prog_7_method_7_code 32 = .ok (.goto 4, 3) := by decide +kernel
theorem dX5_overdues_35 : decode prog_7_method_7_code 35 = .ok (.iconst 0, 1) := by decide +kernel
theorem dX5_overdues_36 : decode prog_7_method_7_code 36 = .ok (.iadd, 1) := by decide +kernel
theorem dX5_overdues_37 : decode prog_7_method_7_code 37 = .ok (.istore_n 2, 1) := by decide +kernel
theorem dX5_overdues_38 : decode prog_7_method_7_code 38 = .ok (.iinc 3 1, 3) := by decide +kernel
theorem dX5_overdues_41 : decode prog_7_method_7_code 41 = .ok (.goto (-37), 3) := by decide +kernel
theorem dX5_overdues_44 : decode prog_7_method_7_code 44 = .ok (.iload_n 2, 1) := by decide +kernel
theorem dX5_overdues_45 : decode prog_7_method_7_code 45 = .ok (.ireturn, 1) := by decide +kernel
theorem dX5_sumOf_0 : decode prog_7_method_8_code 0 = .ok (.lconst 0, 1) := by decide +kernel
theorem dX5_sumOf_1 : decode prog_7_method_8_code 1 = .ok (.lstore_n 3, 1) := by decide +kernel
theorem dX5_sumOf_2 : decode prog_7_method_8_code 2 = .ok (.bipush 8, 2) := by decide +kernel
theorem dX5_sumOf_4 : decode prog_7_method_8_code 4 = .ok (.iload_n 1, 1) := by decide +kernel
theorem dX5_sumOf_5 : decode prog_7_method_8_code 5 = .ok (.imul, 1) := by decide +kernel
theorem dX5_sumOf_6 : decode prog_7_method_8_code 6 = .ok (.istore 5, 2) := by decide +kernel
theorem dX5_sumOf_8 : decode prog_7_method_8_code 8 = .ok (.iload 5, 2) := by decide +kernel
theorem dX5_sumOf_10 : decode prog_7_method_8_code 10 = .ok (.bipush 8, 2) := by decide +kernel
theorem dX5_sumOf_12 : decode prog_7_method_8_code 12 = .ok (.iload_n 1, 1) := by decide +kernel
theorem dX5_sumOf_13 : decode prog_7_method_8_code 13 = .ok (.imul, 1) := by decide +kernel
theorem dX5_sumOf_14 : decode prog_7_method_8_code 14 = .ok (.aload_n 0, 1) := by decide +kernel
theorem dX5_sumOf_15 : decode prog_7_method_8_code 15 = .ok (.getfield 46, 3) := by decide +kernel
theorem dX5_sumOf_18 : decode prog_7_method_8_code 18 = .ok (.iload_n 1, 1) := by decide +kernel
theorem dX5_sumOf_19 : decode prog_7_method_8_code 19 = .ok (.iaload, 1) := by decide +kernel
theorem dX5_sumOf_20 : decode prog_7_method_8_code 20 = .ok (.iadd, 1) := by decide +kernel
theorem dX5_sumOf_21 : decode prog_7_method_8_code 21 = .ok (.if_icmp .ge 39, 3) := by decide +kernel
theorem dX5_sumOf_24 : decode prog_7_method_8_code 24 = .ok (.lload_n 3, 1) := by decide +kernel
theorem dX5_sumOf_25 : decode prog_7_method_8_code 25 = .ok (.aload_n 0, 1) := by decide +kernel
theorem dX5_sumOf_26 : decode prog_7_method_8_code 26 = .ok (.getfield 33, 3) := by decide +kernel
theorem dX5_sumOf_29 : decode prog_7_method_8_code 29 = .ok (.aload_n 0, 1) := by decide +kernel
theorem dX5_sumOf_30 : decode prog_7_method_8_code 30 = .ok (.getfield 55, 3) := by decide +kernel
theorem dX5_sumOf_33 : decode prog_7_method_8_code 33 = .ok (.iload 5, 2) := by decide +kernel
theorem dX5_sumOf_35 : decode prog_7_method_8_code 35 = .ok (.iaload, 1) := by decide +kernel
theorem dX5_sumOf_36 : decode prog_7_method_8_code 36 = .ok (.iaload, 1) := by decide +kernel
theorem dX5_sumOf_37 : decode prog_7_method_8_code 37 = .ok (.iload_n 2, 1) := by decide +kernel
theorem dX5_sumOf_38 : decode prog_7_method_8_code 38 = .ok (.if_icmp .ne 13, 3) := by decide +kernel
theorem dX5_sumOf_41 : decode prog_7_method_8_code 41 = .ok (.aload_n 0, 1) := by decide +kernel
theorem dX5_sumOf_42 : decode prog_7_method_8_code 42 = .ok (.getfield 58, 3) := by decide +kernel
theorem dX5_sumOf_45 : decode prog_7_method_8_code 45 = .ok (.iload 5, 2) := by decide +kernel
theorem dX5_sumOf_47 : decode prog_7_method_8_code 47 = .ok (.laload, 1) := by decide +kernel
theorem dX5_sumOf_48 : decode prog_7_method_8_code 48 = .ok (.goto 4, 3) := by decide +kernel
theorem dX5_sumOf_51 : decode prog_7_method_8_code 51 = .ok (.lconst 0, 1) := by decide +kernel
theorem dX5_sumOf_52 : decode prog_7_method_8_code 52 = .ok (.ladd, 1) := by decide +kernel
theorem dX5_sumOf_53 : decode prog_7_method_8_code 53 = .ok (.lstore_n 3, 1) := by decide +kernel
theorem dX5_sumOf_54 : decode prog_7_method_8_code 54 = .ok (.iinc 5 1, 3) := by decide +kernel
theorem dX5_sumOf_57 : decode prog_7_method_8_code 57 = .ok (.goto (-49), 3) := by decide +kernel
theorem dX5_sumOf_60 : decode prog_7_method_8_code 60 = .ok (.lload_n 3, 1) := by decide +kernel
theorem dX5_sumOf_61 : decode prog_7_method_8_code 61 = .ok (.lreturn, 1) := by decide +kernel
theorem dX5_newBatch_0 : decode prog_7_method_9_code 0 = .ok (.aload_n 0, 1) := by decide +kernel
theorem dX5_newBatch_1 : decode prog_7_method_9_code 1 = .ok (.getfield 43, 3) := by decide +kernel
theorem dX5_newBatch_4 : decode prog_7_method_9_code 4 = .ok (.aload_n 0, 1) := by decide +kernel
theorem dX5_newBatch_5 : decode prog_7_method_9_code 5 = .ok (.getfield 37, 3) := by decide +kernel
theorem dX5_newBatch_8 : decode prog_7_method_9_code 8 = .ok (.iload_n 1, 1) := by decide +kernel
theorem dX5_newBatch_9 : decode prog_7_method_9_code 9 = .ok (.iastore, 1) := by decide +kernel
theorem dX5_newBatch_10 : decode prog_7_method_9_code 10 = .ok (.aload_n 0, 1) := by decide +kernel
theorem dX5_newBatch_11 : decode prog_7_method_9_code 11 = .ok (.getfield 40, 3) := by decide +kernel
theorem dX5_newBatch_14 : decode prog_7_method_9_code 14 = .ok (.aload_n 0, 1) := by decide +kernel
theorem dX5_newBatch_15 : decode prog_7_method_9_code 15 = .ok (.getfield 37, 3) := by decide +kernel
theorem dX5_newBatch_18 : decode prog_7_method_9_code 18 = .ok (.iconst 0, 1) := by decide +kernel
theorem dX5_newBatch_19 : decode prog_7_method_9_code 19 = .ok (.iastore, 1) := by decide +kernel
theorem dX5_newBatch_20 : decode prog_7_method_9_code 20 = .ok (.aload_n 0, 1) := by decide +kernel
theorem dX5_newBatch_21 : decode prog_7_method_9_code 21 = .ok (.getfield 46, 3) := by decide +kernel
theorem dX5_newBatch_24 : decode prog_7_method_9_code 24 = .ok (.aload_n 0, 1) := by decide +kernel
theorem dX5_newBatch_25 : decode prog_7_method_9_code 25 = .ok (.getfield 37, 3) := by decide +kernel
theorem dX5_newBatch_28 : decode prog_7_method_9_code 28 = .ok (.iconst 0, 1) := by decide +kernel
theorem dX5_newBatch_29 : decode prog_7_method_9_code 29 = .ok (.iastore, 1) := by decide +kernel
theorem dX5_newBatch_30 : decode prog_7_method_9_code 30 = .ok (.aload_n 0, 1) := by decide +kernel
theorem dX5_newBatch_31 : decode prog_7_method_9_code 31 = .ok (.getfield 49, 3) := by decide +kernel
theorem dX5_newBatch_34 : decode prog_7_method_9_code 34 = .ok (.aload_n 0, 1) := by decide +kernel
theorem dX5_newBatch_35 : decode prog_7_method_9_code 35 = .ok (.getfield 37, 3) := by decide +kernel
theorem dX5_newBatch_38 : decode prog_7_method_9_code 38 = .ok (.iconst 0, 1) := by decide +kernel
theorem dX5_newBatch_39 : decode prog_7_method_9_code 39 = .ok (.iastore, 1) := by decide +kernel
theorem dX5_newBatch_40 : decode prog_7_method_9_code 40 = .ok (.aload_n 0, 1) := by decide +kernel
theorem dX5_newBatch_41 : decode prog_7_method_9_code 41 = .ok (.getfield 52, 3) := by decide +kernel
theorem dX5_newBatch_44 : decode prog_7_method_9_code 44 = .ok (.aload_n 0, 1) := by decide +kernel
theorem dX5_newBatch_45 : decode prog_7_method_9_code 45 = .ok (.getfield 37, 3) := by decide +kernel
theorem dX5_newBatch_48 : decode prog_7_method_9_code 48 = .ok (.iconst 0, 1) := by decide +kernel
theorem dX5_newBatch_49 : decode prog_7_method_9_code 49 = .ok (.iastore, 1) := by decide +kernel
theorem dX5_newBatch_50 : decode prog_7_method_9_code 50 = .ok (.aload_n 0, 1) := by decide +kernel
theorem dX5_newBatch_51 : decode prog_7_method_9_code 51 = .ok (.dup, 1) := by decide +kernel
theorem dX5_newBatch_52 : decode prog_7_method_9_code 52 = .ok (.getfield 37, 3) := by decide +kernel
theorem dX5_newBatch_55 : decode prog_7_method_9_code 55 = .ok (.iconst 1, 1) := by decide +kernel
theorem dX5_newBatch_56 : decode prog_7_method_9_code 56 = .ok (.iadd, 1) := by decide +kernel
theorem dX5_newBatch_57 : decode prog_7_method_9_code 57 = .ok (.putfield 37, 3) := by decide +kernel
theorem dX5_newBatch_60 : decode prog_7_method_9_code 60 = .ok (.return_, 1) := by decide +kernel
theorem dX5_meet_0 : decode prog_7_method_10_code 0 = .ok (.aload_n 0, 1) := by decide +kernel
theorem dX5_meet_1 : decode prog_7_method_10_code 1 = .ok (.getfield 70, 3) := by decide +kernel
theorem dX5_meet_4 : decode prog_7_method_10_code 4 = .ok (.iload_n 1, 1) := by decide +kernel
theorem dX5_meet_5 : decode prog_7_method_10_code 5 = .ok (.laload, 1) := by decide +kernel
theorem dX5_meet_6 : decode prog_7_method_10_code 6 = .ok (.lload_n 2, 1) := by decide +kernel
theorem dX5_meet_7 : decode prog_7_method_10_code 7 = .ok (.lcmp, 1) := by decide +kernel
theorem dX5_meet_8 : decode prog_7_method_10_code 8 = .ok (.ifCond .ge 12, 3) := by decide +kernel
theorem dX5_meet_11 : decode prog_7_method_10_code 11 = .ok (.aload_n 0, 1) := by decide +kernel
theorem dX5_meet_12 : decode prog_7_method_10_code 12 = .ok (.getfield 70, 3) := by decide +kernel
theorem dX5_meet_15 : decode prog_7_method_10_code 15 = .ok (.iload_n 1, 1) := by decide +kernel
theorem dX5_meet_16 : decode prog_7_method_10_code 16 = .ok (.laload, 1) := by decide +kernel
theorem dX5_meet_17 : decode prog_7_method_10_code 17 = .ok (.goto 4, 3) := by decide +kernel
theorem dX5_meet_20 : decode prog_7_method_10_code 20 = .ok (.lload_n 2, 1) := by decide +kernel
theorem dX5_meet_21 : decode prog_7_method_10_code 21 = .ok (.lstore 4, 2) := by decide +kernel
theorem dX5_meet_23 : decode prog_7_method_10_code 23 = .ok (.aload_n 0, 1) := by decide +kernel
theorem dX5_meet_24 : decode prog_7_method_10_code 24 = .ok (.getfield 70, 3) := by decide +kernel
theorem dX5_meet_27 : decode prog_7_method_10_code 27 = .ok (.iload_n 1, 1) := by decide +kernel
theorem dX5_meet_28 : decode prog_7_method_10_code 28 = .ok (.aload_n 0, 1) := by decide +kernel
theorem dX5_meet_29 : decode prog_7_method_10_code 29 = .ok (.getfield 70, 3) := by decide +kernel
theorem dX5_meet_32 : decode prog_7_method_10_code 32 = .ok (.iload_n 1, 1) := by decide +kernel
theorem dX5_meet_33 : decode prog_7_method_10_code 33 = .ok (.laload, 1) := by decide +kernel
theorem dX5_meet_34 : decode prog_7_method_10_code 34 = .ok (.lload 4, 2) := by decide +kernel
theorem dX5_meet_36 : decode prog_7_method_10_code 36 = .ok (.lsub, 1) := by decide +kernel
theorem dX5_meet_37 : decode prog_7_method_10_code 37 = .ok (.lastore, 1) := by decide +kernel
theorem dX5_meet_38 : decode prog_7_method_10_code 38 = .ok (.lload_n 2, 1) := by decide +kernel
theorem dX5_meet_39 : decode prog_7_method_10_code 39 = .ok (.lload 4, 2) := by decide +kernel
theorem dX5_meet_41 : decode prog_7_method_10_code 41 = .ok (.lsub, 1) := by decide +kernel
theorem dX5_meet_42 : decode prog_7_method_10_code 42 = .ok (.lreturn, 1) := by decide +kernel
theorem dX5_thrown_0 : decode prog_7_method_11_code 0 = .ok (.aload_n 0, 1) := by decide +kernel
theorem dX5_thrown_1 : decode prog_7_method_11_code 1 = .ok (.getfield 7, 3) := by decide +kernel
theorem dX5_thrown_4 : decode prog_7_method_11_code 4 = .ok (.ireturn, 1) := by decide +kernel
theorem dX5_owner_0 : decode prog_7_method_12_code 0 = .ok (.aload_n 0, 1) := by decide +kernel
theorem dX5_owner_1 : decode prog_7_method_12_code 1 = .ok (.aload_n 0, 1) := by decide +kernel
theorem dX5_owner_2 : decode prog_7_method_12_code 2 = .ok (.getfield 19, 3) := by decide +kernel
theorem dX5_owner_5 : decode prog_7_method_12_code 5 = .ok (.bipush 6, 2) := by decide +kernel
theorem dX5_owner_7 : decode prog_7_method_12_code 7 = .ok (.if_icmp .ne 7, 3) := by decide +kernel
theorem dX5_owner_10 : decode prog_7_method_12_code 10 = .ok (.iconst 1, 1) := by decide +kernel
theorem dX5_owner_11 : decode prog_7_method_12_code 11 = .ok (.goto 4, 3) := by decide +kernel
theorem dX5_owner_14 : decode prog_7_method_12_code 14 = .ok (.iconst 0, 1) := by decide +kernel
theorem dX5_owner_15 : decode prog_7_method_12_code 15 = .ok (.putfield 7, 3) := by decide +kernel
theorem dX5_owner_18 : decode prog_7_method_12_code 18 = .ok (.aload_n 0, 1) := by decide +kernel
theorem dX5_owner_19 : decode prog_7_method_12_code 19 = .ok (.getfield 7, 3) := by decide +kernel
theorem dX5_owner_22 : decode prog_7_method_12_code 22 = .ok (.ifCond .eq 5, 3) := by decide +kernel
theorem dX5_owner_25 : decode prog_7_method_12_code 25 = .ok (.iconst 0, 1) := by decide +kernel
theorem dX5_owner_26 : decode prog_7_method_12_code 26 = .ok (.ireturn, 1) := by decide +kernel
theorem dX5_owner_27 : decode prog_7_method_12_code 27 = .ok (.aload_n 0, 1) := by decide +kernel
theorem dX5_owner_28 : decode prog_7_method_12_code 28 = .ok (.dup, 1) := by decide +kernel
theorem dX5_owner_29 : decode prog_7_method_12_code 29 = .ok (.getfield 19, 3) := by decide +kernel
theorem dX5_owner_32 : decode prog_7_method_12_code 32 = .ok (.iconst 1, 1) := by decide +kernel
theorem dX5_owner_33 : decode prog_7_method_12_code 33 = .ok (.iadd, 1) := by decide +kernel
theorem dX5_owner_34 : decode prog_7_method_12_code 34 = .ok (.putfield 19, 3) := by decide +kernel
theorem dX5_owner_37 : decode prog_7_method_12_code 37 = .ok (.aload_n 0, 1) := by decide +kernel
theorem dX5_owner_38 : decode prog_7_method_12_code 38 = .ok (.getfield 19, 3) := by decide +kernel
theorem dX5_owner_41 : decode prog_7_method_12_code 41 = .ok (.iconst 1, 1) := by decide +kernel
theorem dX5_owner_42 : decode prog_7_method_12_code 42 = .ok (.isub, 1) := by decide +kernel
theorem dX5_owner_43 : decode prog_7_method_12_code 43 = .ok (.ireturn, 1) := by decide +kernel
theorem dX5_account_0 : decode prog_7_method_13_code 0 = .ok (.aload_n 0, 1) := by decide +kernel
theorem dX5_account_1 : decode prog_7_method_13_code 1 = .ok (.aload_n 0, 1) := by decide +kernel
theorem dX5_account_2 : decode prog_7_method_13_code 2 = .ok (.iload_n 1, 1) := by decide +kernel
theorem dX5_account_3 : decode prog_7_method_13_code 3 = .ok (.invokevirtual 89, 3) := by decide +kernel
theorem dX5_account_6 : decode prog_7_method_13_code 6 = .ok (.ifCond .eq 7, 3) := by decide +kernel
theorem dX5_account_9 : decode prog_7_method_13_code 9 = .ok (.iconst 1, 1) := by decide +kernel
theorem dX5_account_10 : decode prog_7_method_13_code 10 = .ok (.goto 33, 3) := by decide +kernel
theorem dX5_account_13 : decode prog_7_method_13_code 13 = .ok (.iload_n 2, 1) := by decide +kernel
theorem dX5_account_14 : decode prog_7_method_13_code 14 = .ok (.i2l, 1) := by decide +kernel
theorem dX5_account_15 : decode prog_7_method_13_code 15 = .ok (.lconst 0, 1) := by decide +kernel
theorem dX5_account_16 : decode prog_7_method_13_code 16 = .ok (.ldc2_w 92, 3) := by decide +kernel
theorem dX5_account_19 : decode prog_7_method_13_code 19 = .ok (.invokestatic 94, 3) := by decide +kernel
theorem dX5_account_22 : decode prog_7_method_13_code 22 = .ok (.ifCond .eq 7, 3) := by decide +kernel
theorem dX5_account_25 : decode prog_7_method_13_code 25 = .ok (.iconst 2, 1) := by decide +kernel
theorem dX5_account_26 : decode prog_7_method_13_code 26 = .ok (.goto 17, 3) := by decide +kernel
theorem dX5_account_29 : decode prog_7_method_13_code 29 = .ok (.aload_n 0, 1) := by decide +kernel
theorem dX5_account_30 : decode prog_7_method_13_code 30 = .ok (.getfield 30, 3) := by decide +kernel
theorem dX5_account_33 : decode prog_7_method_13_code 33 = .ok (.bipush 20, 2) := by decide +kernel
theorem dX5_account_35 : decode prog_7_method_13_code 35 = .ok (.if_icmp .ne 7, 3) := by decide +kernel
theorem dX5_account_38 : decode prog_7_method_13_code 38 = .ok (.iconst 3, 1) := by decide +kernel
theorem dX5_account_39 : decode prog_7_method_13_code 39 = .ok (.goto 4, 3) := by decide +kernel
theorem dX5_account_42 : decode prog_7_method_13_code 42 = .ok (.iconst 0, 1) := by decide +kernel
theorem dX5_account_43 : decode prog_7_method_13_code 43 = .ok (.putfield 7, 3) := by decide +kernel
theorem dX5_account_46 : decode prog_7_method_13_code 46 = .ok (.aload_n 0, 1) := by decide +kernel
theorem dX5_account_47 : decode prog_7_method_13_code 47 = .ok (.getfield 7, 3) := by decide +kernel
theorem dX5_account_50 : decode prog_7_method_13_code 50 = .ok (.ifCond .eq 5, 3) := by decide +kernel
theorem dX5_account_53 : decode prog_7_method_13_code 53 = .ok (.iconst 0, 1) := by decide +kernel
theorem dX5_account_54 : decode prog_7_method_13_code 54 = .ok (.ireturn, 1) := by decide +kernel
theorem dX5_account_55 : decode prog_7_method_13_code 55 = .ok (.aload_n 0, 1) := by decide +kernel
theorem dX5_account_56 : decode prog_7_method_13_code 56 = .ok (.getfield 33, 3) := by decide +kernel
theorem dX5_account_59 : decode prog_7_method_13_code 59 = .ok (.aload_n 0, 1) := by decide +kernel
theorem dX5_account_60 : decode prog_7_method_13_code 60 = .ok (.getfield 30, 3) := by decide +kernel
theorem dX5_account_63 : decode prog_7_method_13_code 63 = .ok (.iload_n 2, 1) := by decide +kernel
theorem dX5_account_64 : decode prog_7_method_13_code 64 = .ok (.iastore, 1) := by decide +kernel
theorem dX5_account_65 : decode prog_7_method_13_code 65 = .ok (.aload_n 0, 1) := by decide +kernel
theorem dX5_account_66 : decode prog_7_method_13_code 66 = .ok (.dup, 1) := by decide +kernel
theorem dX5_account_67 : decode prog_7_method_13_code 67 = .ok (.getfield 30, 3) := by decide +kernel
theorem dX5_account_70 : decode prog_7_method_13_code 70 = .ok (.iconst 1, 1) := by decide +kernel
theorem dX5_account_71 : decode prog_7_method_13_code 71 = .ok (.iadd, 1) := by decide +kernel
theorem dX5_account_72 : decode prog_7_method_13_code 72 = .ok (.putfield 30, 3) := by decide +kernel
theorem dX5_account_75 : decode prog_7_method_13_code 75 = .ok (.aload_n 0, 1) := by decide +kernel
theorem dX5_account_76 : decode prog_7_method_13_code 76 = .ok (.getfield 30, 3) := by decide +kernel
theorem dX5_account_79 : decode prog_7_method_13_code 79 = .ok (.iconst 1, 1) := by decide +kernel
theorem dX5_account_80 : decode prog_7_method_13_code 80 = .ok (.isub, 1) := by decide +kernel
theorem dX5_account_81 : decode prog_7_method_13_code 81 = .ok (.ireturn, 1) := by decide +kernel
theorem dX5_month_0 : decode prog_7_method_14_code 0 = .ok (.aload_n 0, 1) := by decide +kernel
theorem dX5_month_1 : decode prog_7_method_14_code 1 = .ok (.iload_n 1, 1) := by decide +kernel
theorem dX5_month_2 : decode prog_7_method_14_code 2 = .ok (.aload_n 0, 1) := by decide +kernel
theorem dX5_month_3 : decode prog_7_method_14_code 3 = .ok (.getfield 13, 3) := by decide +kernel
theorem dX5_month_6 : decode prog_7_method_14_code 6 = .ok (.if_icmp .lt 9, 3) := by decide +kernel
theorem dX5_month_9 : decode prog_7_method_14_code 9 = .ok (.iload_n 1, 1) := by decide +kernel
theorem dX5_month_10 : decode prog_7_method_14_code 10 = .ok (.bipush 120, 2) := by decide +kernel
theorem dX5_month_12 : decode prog_7_method_14_code 12 = .ok (.if_icmp .le 7, 3) := by decide +kernel
theorem dX5_month_15 : decode prog_7_method_14_code 15 = .ok (.iconst 1, 1) := by decide +kernel
theorem dX5_month_16 : decode prog_7_method_14_code 16 = .ok (.goto 4, 3) := by decide +kernel
theorem dX5_month_19 : decode prog_7_method_14_code 19 = .ok (.iconst 0, 1) := by decide +kernel
theorem dX5_month_20 : decode prog_7_method_14_code 20 = .ok (.putfield 7, 3) := by decide +kernel
theorem dX5_month_23 : decode prog_7_method_14_code 23 = .ok (.aload_n 0, 1) := by decide +kernel
theorem dX5_month_24 : decode prog_7_method_14_code 24 = .ok (.getfield 7, 3) := by decide +kernel
theorem dX5_month_27 : decode prog_7_method_14_code 27 = .ok (.ifCond .ne 8, 3) := by decide +kernel
theorem dX5_month_30 : decode prog_7_method_14_code 30 = .ok (.aload_n 0, 1) := by decide +kernel
theorem dX5_month_31 : decode prog_7_method_14_code 31 = .ok (.iload_n 1, 1) := by decide +kernel
theorem dX5_month_32 : decode prog_7_method_14_code 32 = .ok (.putfield 13, 3) := by decide +kernel
theorem dX5_month_35 : decode prog_7_method_14_code 35 = .ok (.return_, 1) := by decide +kernel
theorem dX5_close_0 : decode prog_7_method_15_code 0 = .ok (.aload_n 0, 1) := by decide +kernel
theorem dX5_close_1 : decode prog_7_method_15_code 1 = .ok (.iload_n 1, 1) := by decide +kernel
theorem dX5_close_2 : decode prog_7_method_15_code 2 = .ok (.i2l, 1) := by decide +kernel
theorem dX5_close_3 : decode prog_7_method_15_code 3 = .ok (.lconst 0, 1) := by decide +kernel
theorem dX5_close_4 : decode prog_7_method_15_code 4 = .ok (.aload_n 0, 1) := by decide +kernel
theorem dX5_close_5 : decode prog_7_method_15_code 5 = .ok (.getfield 13, 3) := by decide +kernel
theorem dX5_close_8 : decode prog_7_method_15_code 8 = .ok (.i2l, 1) := by decide +kernel
theorem dX5_close_9 : decode prog_7_method_15_code 9 = .ok (.invokestatic 94, 3) := by decide +kernel
theorem dX5_close_12 : decode prog_7_method_15_code 12 = .ok (.ifCond .eq 7, 3) := by decide +kernel
theorem dX5_close_15 : decode prog_7_method_15_code 15 = .ok (.iconst 1, 1) := by decide +kernel
theorem dX5_close_16 : decode prog_7_method_15_code 16 = .ok (.goto 16, 3) := by decide +kernel
theorem dX5_close_19 : decode prog_7_method_15_code 19 = .ok (.iload_n 1, 1) := by decide +kernel
theorem dX5_close_20 : decode prog_7_method_15_code 20 = .ok (.aload_n 0, 1) := by decide +kernel
theorem dX5_close_21 : decode prog_7_method_15_code 21 = .ok (.getfield 16, 3) := by decide +kernel
theorem dX5_close_24 : decode prog_7_method_15_code 24 = .ok (.if_icmp .ge 7, 3) := by decide +kernel
theorem dX5_close_27 : decode prog_7_method_15_code 27 = .ok (.iconst 2, 1) := by decide +kernel
theorem dX5_close_28 : decode prog_7_method_15_code 28 = .ok (.goto 4, 3) := by decide +kernel
theorem dX5_close_31 : decode prog_7_method_15_code 31 = .ok (.iconst 0, 1) := by decide +kernel
theorem dX5_close_32 : decode prog_7_method_15_code 32 = .ok (.putfield 7, 3) := by decide +kernel
theorem dX5_close_35 : decode prog_7_method_15_code 35 = .ok (.aload_n 0, 1) := by decide +kernel
theorem dX5_close_36 : decode prog_7_method_15_code 36 = .ok (.getfield 7, 3) := by decide +kernel
theorem dX5_close_39 : decode prog_7_method_15_code 39 = .ok (.ifCond .eq 5, 3) := by decide +kernel
theorem dX5_close_42 : decode prog_7_method_15_code 42 = .ok (.iconst 0, 1) := by decide +kernel
theorem dX5_close_43 : decode prog_7_method_15_code 43 = .ok (.ireturn, 1) := by decide +kernel
theorem dX5_close_44 : decode prog_7_method_15_code 44 = .ok (.iload_n 1, 1) := by decide +kernel
theorem dX5_close_45 : decode prog_7_method_15_code 45 = .ok (.aload_n 0, 1) := by decide +kernel
theorem dX5_close_46 : decode prog_7_method_15_code 46 = .ok (.getfield 16, 3) := by decide +kernel
theorem dX5_close_49 : decode prog_7_method_15_code 49 = .ok (.isub, 1) := by decide +kernel
theorem dX5_close_50 : decode prog_7_method_15_code 50 = .ok (.istore_n 2, 1) := by decide +kernel
theorem dX5_close_51 : decode prog_7_method_15_code 51 = .ok (.aload_n 0, 1) := by decide +kernel
theorem dX5_close_52 : decode prog_7_method_15_code 52 = .ok (.iload_n 1, 1) := by decide +kernel
theorem dX5_close_53 : decode prog_7_method_15_code 53 = .ok (.putfield 16, 3) := by decide +kernel
theorem dX5_close_56 : decode prog_7_method_15_code 56 = .ok (.iload_n 2, 1) := by decide +kernel
theorem dX5_close_57 : decode prog_7_method_15_code 57 = .ok (.ireturn, 1) := by decide +kernel
theorem dX5_batch_0 : decode prog_7_method_16_code 0 = .ok (.aload_n 0, 1) := by decide +kernel
theorem dX5_batch_1 : decode prog_7_method_16_code 1 = .ok (.iload_n 1, 1) := by decide +kernel
theorem dX5_batch_2 : decode prog_7_method_16_code 2 = .ok (.i2l, 1) := by decide +kernel
theorem dX5_batch_3 : decode prog_7_method_16_code 3 = .ok (.lconst 0, 1) := by decide +kernel
theorem dX5_batch_4 : decode prog_7_method_16_code 4 = .ok (.aload_n 0, 1) := by decide +kernel
theorem dX5_batch_5 : decode prog_7_method_16_code 5 = .ok (.getfield 13, 3) := by decide +kernel
theorem dX5_batch_8 : decode prog_7_method_16_code 8 = .ok (.i2l, 1) := by decide +kernel
theorem dX5_batch_9 : decode prog_7_method_16_code 9 = .ok (.invokestatic 94, 3) := by decide +kernel
theorem dX5_batch_12 : decode prog_7_method_16_code 12 = .ok (.ifCond .eq 7, 3) := by decide +kernel
theorem dX5_batch_15 : decode prog_7_method_16_code 15 = .ok (.iconst 1, 1) := by decide +kernel
theorem dX5_batch_16 : decode prog_7_method_16_code 16 = .ok (.goto 29, 3) := by decide +kernel
theorem dX5_batch_19 : decode prog_7_method_16_code 19 = .ok (.iload_n 1, 1) := by decide +kernel
theorem dX5_batch_20 : decode prog_7_method_16_code 20 = .ok (.aload_n 0, 1) := by decide +kernel
theorem dX5_batch_21 : decode prog_7_method_16_code 21 = .ok (.getfield 16, 3) := by decide +kernel
theorem dX5_batch_24 : decode prog_7_method_16_code 24 = .ok (.if_icmp .ge 7, 3) := by decide +kernel
theorem dX5_batch_27 : decode prog_7_method_16_code 27 = .ok (.iconst 2, 1) := by decide +kernel
theorem dX5_batch_28 : decode prog_7_method_16_code 28 = .ok (.goto 17, 3) := by decide +kernel
theorem dX5_batch_31 : decode prog_7_method_16_code 31 = .ok (.aload_n 0, 1) := by decide +kernel
theorem dX5_batch_32 : decode prog_7_method_16_code 32 = .ok (.getfield 37, 3) := by decide +kernel
theorem dX5_batch_35 : decode prog_7_method_16_code 35 = .ok (.bipush 30, 2) := by decide +kernel
theorem dX5_batch_37 : decode prog_7_method_16_code 37 = .ok (.if_icmp .ne 7, 3) := by decide +kernel
theorem dX5_batch_40 : decode prog_7_method_16_code 40 = .ok (.iconst 3, 1) := by decide +kernel
theorem dX5_batch_41 : decode prog_7_method_16_code 41 = .ok (.goto 4, 3) := by decide +kernel
theorem dX5_batch_44 : decode prog_7_method_16_code 44 = .ok (.iconst 0, 1) := by decide +kernel
theorem dX5_batch_45 : decode prog_7_method_16_code 45 = .ok (.putfield 7, 3) := by decide +kernel
theorem dX5_batch_48 : decode prog_7_method_16_code 48 = .ok (.aload_n 0, 1) := by decide +kernel
theorem dX5_batch_49 : decode prog_7_method_16_code 49 = .ok (.getfield 7, 3) := by decide +kernel
theorem dX5_batch_52 : decode prog_7_method_16_code 52 = .ok (.ifCond .eq 5, 3) := by decide +kernel
theorem dX5_batch_55 : decode prog_7_method_16_code 55 = .ok (.iconst 0, 1) := by decide +kernel
theorem dX5_batch_56 : decode prog_7_method_16_code 56 = .ok (.ireturn, 1) := by decide +kernel
theorem dX5_batch_57 : decode prog_7_method_16_code 57 = .ok (.aload_n 0, 1) := by decide +kernel
theorem dX5_batch_58 : decode prog_7_method_16_code 58 = .ok (.iload_n 1, 1) := by decide +kernel
theorem dX5_batch_59 : decode prog_7_method_16_code 59 = .ok (.invokevirtual 98, 3) := by decide +kernel
theorem dX5_batch_62 : decode prog_7_method_16_code 62 = .ok (.aload_n 0, 1) := by decide +kernel
theorem dX5_batch_63 : decode prog_7_method_16_code 63 = .ok (.getfield 37, 3) := by decide +kernel
theorem dX5_batch_66 : decode prog_7_method_16_code 66 = .ok (.ireturn, 1) := by decide +kernel
theorem dX5_row_0 : decode prog_7_method_17_code 0 = .ok (.aload_n 0, 1) := by decide +kernel
theorem dX5_row_1 : decode prog_7_method_17_code 1 = .ok (.aload_n 0, 1) := by decide +kernel
theorem dX5_row_2 : decode prog_7_method_17_code 2 = .ok (.iload_n 1, 1) := by decide +kernel
theorem dX5_row_3 : decode prog_7_method_17_code 3 = .ok (.invokevirtual 102, 3) := by decide +kernel
theorem dX5_row_6 : decode prog_7_method_17_code 6 = .ok (.ifCond .ne 15, 3) := by decide +kernel
theorem dX5_row_9 : decode prog_7_method_17_code 9 = .ok (.iload_n 2, 1) := by decide +kernel
theorem dX5_row_10 : decode prog_7_method_17_code 10 = .ok (.ifCond .lt 11, 3) := by decide +kernel
theorem dX5_row_13 : decode prog_7_method_17_code 13 = .ok (.iload_n 2, 1) := by decide +kernel
theorem dX5_row_14 : decode prog_7_method_17_code 14 = .ok (.aload_n 0, 1) := by decide +kernel
theorem dX5_row_15 : decode prog_7_method_17_code 15 = .ok (.getfield 30, 3) := by decide +kernel
theorem dX5_row_18 : decode prog_7_method_17_code 18 = .ok (.if_icmp .lt 7, 3) := by decide +kernel
theorem dX5_row_21 : decode prog_7_method_17_code 21 = .ok (.iconst 1, 1) := by decide +kernel
theorem dX5_row_22 : decode prog_7_method_17_code 22 = .ok (.goto 59, 3) := by decide +kernel
theorem dX5_row_25 : decode prog_7_method_17_code 25 = .ok (.lload_n 3, 1) := by decide +kernel
theorem dX5_row_26 : decode prog_7_method_17_code 26 = .ok (.lconst 0, 1) := by decide +kernel
theorem dX5_row_27 : decode prog_7_method_17_code 27 = .ok (.lcmp, 1) := by decide +kernel
theorem dX5_row_28 : decode prog_7_method_17_code 28 = .ok (.ifCond .eq 16, 3) := by decide +kernel
theorem dX5_row_31 : decode prog_7_method_17_code 31 = .ok (.lload_n 3, 1) := by decide +kernel
theorem dX5_row_32 : decode prog_7_method_17_code 32 = .ok (.ldc2_w 105, 3) := by decide +kernel
theorem dX5_row_35 : decode prog_7_method_17_code 35 = .ok (.ldc2_w 107, 3) := by decide +kernel
theorem dX5_row_38 : decode prog_7_method_17_code 38 = .ok (.invokestatic 94, 3) := by decide +kernel
theorem dX5_row_41 : decode prog_7_method_17_code 41 = .ok (.ifCond .eq 7, 3) := by decide +kernel
theorem dX5_row_44 : decode prog_7_method_17_code 44 = .ok (.iconst 2, 1) := by decide +kernel
theorem dX5_row_45 : decode prog_7_method_17_code 45 = .ok (.goto 36, 3) := by decide +kernel
theorem dX5_row_48 : decode prog_7_method_17_code 48 = .ok (.aload_n 0, 1) := by decide +kernel
theorem dX5_row_49 : decode prog_7_method_17_code 49 = .ok (.getfield 40, 3) := by decide +kernel
theorem dX5_row_52 : decode prog_7_method_17_code 52 = .ok (.iload_n 1, 1) := by decide +kernel
theorem dX5_row_53 : decode prog_7_method_17_code 53 = .ok (.iconst 1, 1) := by decide +kernel
theorem dX5_row_54 : decode prog_7_method_17_code 54 = .ok (.isub, 1) := by decide +kernel
theorem dX5_row_55 : decode prog_7_method_17_code 55 = .ok (.iaload, 1) := by decide +kernel
theorem dX5_row_56 : decode prog_7_method_17_code 56 = .ok (.ifCond .eq 7, 3) := by decide +kernel
theorem dX5_row_59 : decode prog_7_method_17_code 59 = .ok (.iconst 3, 1) := by decide +kernel
theorem dX5_row_60 : decode prog_7_method_17_code 60 = .ok (.goto 21, 3) := by decide +kernel
theorem dX5_row_63 : decode prog_7_method_17_code 63 = .ok (.aload_n 0, 1) := by decide +kernel
theorem dX5_row_64 : decode prog_7_method_17_code 64 = .ok (.getfield 46, 3) := by decide +kernel
theorem dX5_row_67 : decode prog_7_method_17_code 67 = .ok (.iload_n 1, 1) := by decide +kernel
theorem dX5_row_68 : decode prog_7_method_17_code 68 = .ok (.iconst 1, 1) := by decide +kernel
theorem dX5_row_69 : decode prog_7_method_17_code 69 = .ok (.isub, 1) := by decide +kernel
theorem dX5_row_70 : decode prog_7_method_17_code 70 = .ok (.iaload, 1) := by decide +kernel
theorem dX5_row_71 : decode prog_7_method_17_code 71 = .ok (.bipush 8, 2) := by decide +kernel
theorem dX5_row_73 : decode prog_7_method_17_code 73 = .ok (.if_icmp .ne 7, 3) := by decide +kernel
theorem dX5_row_76 : decode prog_7_method_17_code 76 = .ok (.iconst 4, 1) := by decide +kernel
theorem dX5_row_77 : decode prog_7_method_17_code 77 = .ok (.goto 4, 3) := by decide +kernel
theorem dX5_row_80 : decode prog_7_method_17_code 80 = .ok (.iconst 0, 1) := by decide +kernel
theorem dX5_row_81 : decode prog_7_method_17_code 81 = .ok (.putfield 7, 3) := by decide +kernel
theorem dX5_row_84 : decode prog_7_method_17_code 84 = .ok (.aload_n 0, 1) := by decide +kernel
theorem dX5_row_85 : decode prog_7_method_17_code 85 = .ok (.getfield 7, 3) := by decide +kernel
theorem dX5_row_88 : decode prog_7_method_17_code 88 = .ok (.ifCond .eq 5, 3) := by decide +kernel
theorem dX5_row_91 : decode prog_7_method_17_code 91 = .ok (.iconst 0, 1) := by decide +kernel
theorem dX5_row_92 : decode prog_7_method_17_code 92 = .ok (.ireturn, 1) := by decide +kernel
theorem dX5_row_93 : decode prog_7_method_17_code 93 = .ok (.bipush 8, 2) := by decide +kernel
theorem dX5_row_95 : decode prog_7_method_17_code 95 = .ok (.iload_n 1, 1) := by decide +kernel
theorem dX5_row_96 : decode prog_7_method_17_code 96 = .ok (.iconst 1, 1) := by decide +kernel
theorem dX5_row_97 : decode prog_7_method_17_code 97 = .ok (.isub, 1) := by decide +kernel
theorem dX5_row_98 : decode prog_7_method_17_code 98 = .ok (.imul, 1) := by decide +kernel
theorem dX5_row_99 : decode prog_7_method_17_code 99 = .ok (.aload_n 0, 1) := by decide +kernel
theorem dX5_row_100 : decode prog_7_method_17_code 100 = .ok (.getfield 46, 3) := by decide +kernel
theorem dX5_row_103 : decode prog_7_method_17_code 103 = .ok (.iload_n 1, 1) := by decide +kernel
theorem dX5_row_104 : decode prog_7_method_17_code 104 = .ok (.iconst 1, 1) := by decide +kernel
theorem dX5_row_105 : decode prog_7_method_17_code 105 = .ok (.isub, 1) := by decide +kernel
theorem dX5_row_106 : decode prog_7_method_17_code 106 = .ok (.iaload, 1) := by decide +kernel
theorem dX5_row_107 : decode prog_7_method_17_code 107 = .ok (.iadd, 1) := by decide +kernel
theorem dX5_row_108 : decode prog_7_method_17_code 108 = .ok (.istore 5, 2) := by decide +kernel
theorem dX5_row_110 : decode prog_7_method_17_code 110 = .ok (.aload_n 0, 1) := by decide +kernel
theorem dX5_row_111 : decode prog_7_method_17_code 111 = .ok (.getfield 55, 3) := by decide +kernel
theorem dX5_row_114 : decode prog_7_method_17_code 114 = .ok (.iload 5, 2) := by decide +kernel
theorem dX5_row_116 : decode prog_7_method_17_code 116 = .ok (.iload_n 2, 1) := by decide +kernel
theorem dX5_row_117 : decode prog_7_method_17_code 117 = .ok (.iastore, 1) := by decide +kernel
theorem dX5_row_118 : decode prog_7_method_17_code 118 = .ok (.aload_n 0, 1) := by decide +kernel
theorem dX5_row_119 : decode prog_7_method_17_code 119 = .ok (.getfield 58, 3) := by decide +kernel
theorem dX5_row_122 : decode prog_7_method_17_code 122 = .ok (.iload 5, 2) := by decide +kernel
theorem dX5_row_124 : decode prog_7_method_17_code 124 = .ok (.lload_n 3, 1) := by decide +kernel
theorem dX5_row_125 : decode prog_7_method_17_code 125 = .ok (.lastore, 1) := by decide +kernel
theorem dX5_row_126 : decode prog_7_method_17_code 126 = .ok (.aload_n 0, 1) := by decide +kernel
theorem dX5_row_127 : decode prog_7_method_17_code 127 = .ok (.getfield 61, 3) := by decide +kernel
theorem dX5_row_130 : decode prog_7_method_17_code 130 = .ok (.iload 5, 2) := by decide +kernel
theorem dX5_row_132 : decode prog_7_method_17_code 132 = .ok (.iconst 0, 1) := by decide +kernel
theorem dX5_row_133 : decode prog_7_method_17_code 133 = .ok (.bastore, 1) := by decide +kernel
theorem dX5_row_134 : decode prog_7_method_17_code 134 = .ok (.aload_n 0, 1) := by decide +kernel
theorem dX5_row_135 : decode prog_7_method_17_code 135 = .ok (.getfield 46, 3) := by decide +kernel
theorem dX5_row_138 : decode prog_7_method_17_code 138 = .ok (.iload_n 1, 1) := by decide +kernel
theorem dX5_row_139 : decode prog_7_method_17_code 139 = .ok (.iconst 1, 1) := by decide +kernel
theorem dX5_row_140 : decode prog_7_method_17_code 140 = .ok (.isub, 1) := by decide +kernel
theorem dX5_row_141 : decode prog_7_method_17_code 141 = .ok (.aload_n 0, 1) := by decide +kernel
theorem dX5_row_142 : decode prog_7_method_17_code 142 = .ok (.getfield 46, 3) := by decide +kernel
theorem dX5_row_145 : decode prog_7_method_17_code 145 = .ok (.iload_n 1, 1) := by decide +kernel
theorem dX5_row_146 : decode prog_7_method_17_code 146 = .ok (.iconst 1, 1) := by decide +kernel
theorem dX5_row_147 : decode prog_7_method_17_code 147 = .ok (.isub, 1) := by decide +kernel
theorem dX5_row_148 : decode prog_7_method_17_code 148 = .ok (.iaload, 1) := by decide +kernel
theorem dX5_row_149 : decode prog_7_method_17_code 149 = .ok (.iconst 1, 1) := by decide +kernel
theorem dX5_row_150 : decode prog_7_method_17_code 150 = .ok (.iadd, 1) := by decide +kernel
theorem dX5_row_151 : decode prog_7_method_17_code 151 = .ok (.iastore, 1) := by decide +kernel
theorem dX5_row_152 : decode prog_7_method_17_code 152 = .ok (.aload_n 0, 1) := by decide +kernel
theorem dX5_row_153 : decode prog_7_method_17_code 153 = .ok (.getfield 46, 3) := by decide +kernel
theorem dX5_row_156 : decode prog_7_method_17_code 156 = .ok (.iload_n 1, 1) := by decide +kernel
theorem dX5_row_157 : decode prog_7_method_17_code 157 = .ok (.iconst 1, 1) := by decide +kernel
theorem dX5_row_158 : decode prog_7_method_17_code 158 = .ok (.isub, 1) := by decide +kernel
theorem dX5_row_159 : decode prog_7_method_17_code 159 = .ok (.iaload, 1) := by decide +kernel
theorem dX5_row_160 : decode prog_7_method_17_code 160 = .ok (.ireturn, 1) := by decide +kernel
theorem dX5_breaks_0 : decode prog_7_method_18_code 0 = .ok (.aload_n 0, 1) := by decide +kernel
theorem dX5_breaks_1 : decode prog_7_method_18_code 1 = .ok (.aload_n 0, 1) := by decide +kernel
theorem dX5_breaks_2 : decode prog_7_method_18_code 2 = .ok (.iload_n 1, 1) := by decide +kernel
theorem dX5_breaks_3 : decode prog_7_method_18_code 3 = .ok (.invokevirtual 102, 3) := by decide +kernel
theorem dX5_breaks_6 : decode prog_7_method_18_code 6 = .ok (.ifCond .eq 7, 3) := by decide +kernel
theorem dX5_breaks_9 : decode prog_7_method_18_code 9 = .ok (.iconst 1, 1) := by decide +kernel
theorem dX5_breaks_10 : decode prog_7_method_18_code 10 = .ok (.goto 39, 3) := by decide +kernel
theorem dX5_breaks_13 : decode prog_7_method_18_code 13 = .ok (.iload_n 2, 1) := by decide +kernel
theorem dX5_breaks_14 : decode prog_7_method_18_code 14 = .ok (.ifCond .lt 15, 3) := by decide +kernel
theorem dX5_breaks_17 : decode prog_7_method_18_code 17 = .ok (.iload_n 2, 1) := by decide +kernel
theorem dX5_breaks_18 : decode prog_7_method_18_code 18 = .ok (.aload_n 0, 1) := by decide +kernel
theorem dX5_breaks_19 : decode prog_7_method_18_code 19 = .ok (.getfield 46, 3) := by decide +kernel
theorem dX5_breaks_22 : decode prog_7_method_18_code 22 = .ok (.iload_n 1, 1) := by decide +kernel
theorem dX5_breaks_23 : decode prog_7_method_18_code 23 = .ok (.iconst 1, 1) := by decide +kernel
theorem dX5_breaks_24 : decode prog_7_method_18_code 24 = .ok (.isub, 1) := by decide +kernel
theorem dX5_breaks_25 : decode prog_7_method_18_code 25 = .ok (.iaload, 1) := by decide +kernel
theorem dX5_breaks_26 : decode prog_7_method_18_code 26 = .ok (.if_icmp .lt 7, 3) := by decide +kernel
theorem dX5_breaks_29 : decode prog_7_method_18_code 29 = .ok (.iconst 1, 1) := by decide +kernel
theorem dX5_breaks_30 : decode prog_7_method_18_code 30 = .ok (.goto 19, 3) := by decide +kernel
theorem dX5_breaks_33 : decode prog_7_method_18_code 33 = .ok (.aload_n 0, 1) := by decide +kernel
theorem dX5_breaks_34 : decode prog_7_method_18_code 34 = .ok (.getfield 40, 3) := by decide +kernel
theorem dX5_breaks_37 : decode prog_7_method_18_code 37 = .ok (.iload_n 1, 1) := by decide +kernel
theorem dX5_breaks_38 : decode prog_7_method_18_code 38 = .ok (.iconst 1, 1) := by decide +kernel
theorem dX5_breaks_39 : decode prog_7_method_18_code 39 = .ok (.isub, 1) := by decide +kernel
theorem dX5_breaks_40 : decode prog_7_method_18_code 40 = .ok (.iaload, 1) := by decide +kernel
theorem dX5_breaks_41 : decode prog_7_method_18_code 41 = .ok (.ifCond .eq 7, 3) := by decide +kernel
theorem dX5_breaks_44 : decode prog_7_method_18_code 44 = .ok (.iconst 2, 1) := by decide +kernel
theorem dX5_breaks_45 : decode prog_7_method_18_code 45 = .ok (.goto 4, 3) := by decide +kernel
theorem dX5_breaks_48 : decode prog_7_method_18_code 48 = .ok (.iconst 0, 1) := by decide +kernel
theorem dX5_breaks_49 : decode prog_7_method_18_code 49 = .ok (.putfield 7, 3) := by decide +kernel
theorem dX5_breaks_52 : decode prog_7_method_18_code 52 = .ok (.aload_n 0, 1) := by decide +kernel
theorem dX5_breaks_53 : decode prog_7_method_18_code 53 = .ok (.getfield 7, 3) := by decide +kernel
theorem dX5_breaks_56 : decode prog_7_method_18_code 56 = .ok (.ifCond .ne 17, 3) := by decide +kernel
theorem dX5_breaks_59 : decode prog_7_method_18_code 59 = .ok (.aload_n 0, 1) := by decide +kernel
theorem dX5_breaks_60 : decode prog_7_method_18_code 60 = .ok (.getfield 61, 3) := by decide +kernel
theorem dX5_breaks_63 : decode prog_7_method_18_code 63 = .ok (.bipush 8, 2) := by decide +kernel
theorem dX5_breaks_65 : decode prog_7_method_18_code 65 = .ok (.iload_n 1, 1) := by decide +kernel
theorem dX5_breaks_66 : decode prog_7_method_18_code 66 = .ok (.iconst 1, 1) := by decide +kernel
theorem dX5_breaks_67 : decode prog_7_method_18_code 67 = .ok (.isub, 1) := by decide +kernel
theorem dX5_breaks_68 : decode prog_7_method_18_code 68 = .ok (.imul, 1) := by decide +kernel
theorem dX5_breaks_69 : decode prog_7_method_18_code 69 = .ok (.iload_n 2, 1) := by decide +kernel
theorem dX5_breaks_70 : decode prog_7_method_18_code 70 = .ok (.iadd, 1) := by decide +kernel
theorem dX5_breaks_71 : decode prog_7_method_18_code 71 = .ok (.iload_n 3, 1) := by decide +kernel
theorem dX5_breaks_72 : decode prog_7_method_18_code 72 = .ok (.bastore, 1) := by decide +kernel
theorem dX5_breaks_73 : decode prog_7_method_18_code 73 = .ok (.return_, 1) := by decide +kernel
theorem dX5_post_0 : decode prog_7_method_19_code 0 = .ok (.aload_n 0, 1) := by decide +kernel
theorem dX5_post_1 : decode prog_7_method_19_code 1 = .ok (.aload_n 0, 1) := by decide +kernel
theorem dX5_post_2 : decode prog_7_method_19_code 2 = .ok (.iload_n 1, 1) := by decide +kernel
theorem dX5_post_3 : decode prog_7_method_19_code 3 = .ok (.invokevirtual 102, 3) := by decide +kernel
theorem dX5_post_6 : decode prog_7_method_19_code 6 = .ok (.ifCond .eq 7, 3) := by decide +kernel
theorem dX5_post_9 : decode prog_7_method_19_code 9 = .ok (.iconst 1, 1) := by decide +kernel
theorem dX5_post_10 : decode prog_7_method_19_code 10 = .ok (.goto 45, 3) := by decide +kernel
theorem dX5_post_13 : decode prog_7_method_19_code 13 = .ok (.aload_n 0, 1) := by decide +kernel
theorem dX5_post_14 : decode prog_7_method_19_code 14 = .ok (.getfield 40, 3) := by decide +kernel
theorem dX5_post_17 : decode prog_7_method_19_code 17 = .ok (.iload_n 1, 1) := by decide +kernel
theorem dX5_post_18 : decode prog_7_method_19_code 18 = .ok (.iconst 1, 1) := by decide +kernel
theorem dX5_post_19 : decode prog_7_method_19_code 19 = .ok (.isub, 1) := by decide +kernel
theorem dX5_post_20 : decode prog_7_method_19_code 20 = .ok (.iaload, 1) := by decide +kernel
theorem dX5_post_21 : decode prog_7_method_19_code 21 = .ok (.ifCond .ne 29, 3) := by decide +kernel
theorem dX5_post_24 : decode prog_7_method_19_code 24 = .ok (.aload_n 0, 1) := by decide +kernel
theorem dX5_post_25 : decode prog_7_method_19_code 25 = .ok (.getfield 43, 3) := by decide +kernel
theorem dX5_post_28 : decode prog_7_method_19_code 28 = .ok (.iload_n 1, 1) := by decide +kernel
theorem dX5_post_29 : decode prog_7_method_19_code 29 = .ok (.iconst 1, 1) := by decide +kernel
theorem dX5_post_30 : decode prog_7_method_19_code 30 = .ok (.isub, 1) := by decide +kernel
theorem dX5_post_31 : decode prog_7_method_19_code 31 = .ok (.iaload, 1) := by decide +kernel
theorem dX5_post_32 : decode prog_7_method_19_code 32 = .ok (.aload_n 0, 1) := by decide +kernel
theorem dX5_post_33 : decode prog_7_method_19_code 33 = .ok (.getfield 16, 3) := by decide +kernel
theorem dX5_post_36 : decode prog_7_method_19_code 36 = .ok (.if_icmp .lt 14, 3) := by decide +kernel
theorem dX5_post_39 : decode prog_7_method_19_code 39 = .ok (.aload_n 0, 1) := by decide +kernel
theorem dX5_post_40 : decode prog_7_method_19_code 40 = .ok (.getfield 46, 3) := by decide +kernel
theorem dX5_post_43 : decode prog_7_method_19_code 43 = .ok (.iload_n 1, 1) := by decide +kernel
theorem dX5_post_44 : decode prog_7_method_19_code 44 = .ok (.iconst 1, 1) := by decide +kernel
theorem dX5_post_45 : decode prog_7_method_19_code 45 = .ok (.isub, 1) := by decide +kernel
theorem dX5_post_46 : decode prog_7_method_19_code 46 = .ok (.iaload, 1) := by decide +kernel
theorem dX5_post_47 : decode prog_7_method_19_code 47 = .ok (.ifCond .ne 7, 3) := by decide +kernel
theorem dX5_post_50 : decode prog_7_method_19_code 50 = .ok (.iconst 2, 1) := by decide +kernel
theorem dX5_post_51 : decode prog_7_method_19_code 51 = .ok (.goto 4, 3) := by decide +kernel
theorem dX5_post_54 : decode prog_7_method_19_code 54 = .ok (.iconst 0, 1) := by decide +kernel
theorem dX5_post_55 : decode prog_7_method_19_code 55 = .ok (.putfield 7, 3) := by decide +kernel
theorem dX5_post_58 : decode prog_7_method_19_code 58 = .ok (.aload_n 0, 1) := by decide +kernel
theorem dX5_post_59 : decode prog_7_method_19_code 59 = .ok (.getfield 7, 3) := by decide +kernel
theorem dX5_post_62 : decode prog_7_method_19_code 62 = .ok (.ifCond .eq 5, 3) := by decide +kernel
theorem dX5_post_65 : decode prog_7_method_19_code 65 = .ok (.iconst 0, 1) := by decide +kernel
theorem dX5_post_66 : decode prog_7_method_19_code 66 = .ok (.ireturn, 1) := by decide +kernel
theorem dX5_post_67 : decode prog_7_method_19_code 67 = .ok (.aload_n 0, 1) := by decide +kernel
theorem dX5_post_68 : decode prog_7_method_19_code 68 = .ok (.getfield 40, 3) := by decide +kernel
theorem dX5_post_71 : decode prog_7_method_19_code 71 = .ok (.iload_n 1, 1) := by decide +kernel
theorem dX5_post_72 : decode prog_7_method_19_code 72 = .ok (.iconst 1, 1) := by decide +kernel
theorem dX5_post_73 : decode prog_7_method_19_code 73 = .ok (.isub, 1) := by decide +kernel
theorem dX5_post_74 : decode prog_7_method_19_code 74 = .ok (.iconst 2, 1) := by decide +kernel
theorem dX5_post_75 : decode prog_7_method_19_code 75 = .ok (.iastore, 1) := by decide +kernel
theorem dX5_post_76 : decode prog_7_method_19_code 76 = .ok (.iconst 0, 1) := by decide +kernel
theorem dX5_post_77 : decode prog_7_method_19_code 77 = .ok (.istore_n 2, 1) := by decide +kernel
theorem dX5_post_78 : decode prog_7_method_19_code 78 = .ok (.iload_n 2, 1) := by decide +kernel
theorem dX5_post_79 : decode prog_7_method_19_code 79 = .ok (.aload_n 0, 1) := by decide +kernel
theorem dX5_post_80 : decode prog_7_method_19_code 80 = .ok (.getfield 46, 3) := by decide +kernel
theorem dX5_post_83 : decode prog_7_method_19_code 83 = .ok (.iload_n 1, 1) := by decide +kernel
theorem dX5_post_84 : decode prog_7_method_19_code 84 = .ok (.iconst 1, 1) := by decide +kernel
theorem dX5_post_85 : decode prog_7_method_19_code 85 = .ok (.isub, 1) := by decide +kernel
theorem dX5_post_86 : decode prog_7_method_19_code 86 = .ok (.iaload, 1) := by decide +kernel
theorem dX5_post_87 : decode prog_7_method_19_code 87 = .ok (.if_icmp .ge 29, 3) := by decide +kernel
theorem dX5_post_90 : decode prog_7_method_19_code 90 = .ok (.aload_n 0, 1) := by decide +kernel
theorem dX5_post_91 : decode prog_7_method_19_code 91 = .ok (.getfield 61, 3) := by decide +kernel
theorem dX5_post_94 : decode prog_7_method_19_code 94 = .ok (.bipush 8, 2) := by decide +kernel
theorem dX5_post_96 : decode prog_7_method_19_code 96 = .ok (.iload_n 1, 1) := by decide +kernel
theorem dX5_post_97 : decode prog_7_method_19_code 97 = .ok (.iconst 1, 1) := by decide +kernel
theorem dX5_post_98 : decode prog_7_method_19_code 98 = .ok (.isub, 1) := by decide +kernel
theorem dX5_post_99 : decode prog_7_method_19_code 99 = .ok (.imul, 1) := by decide +kernel
theorem dX5_post_100 : decode prog_7_method_19_code 100 = .ok (.iload_n 2, 1) := by decide +kernel
theorem dX5_post_101 : decode prog_7_method_19_code 101 = .ok (.iadd, 1) := by decide +kernel
theorem dX5_post_102 : decode prog_7_method_19_code 102 = .ok (.baload, 1) := by decide +kernel
theorem dX5_post_103 : decode prog_7_method_19_code 103 = .ok (.ifCond .eq 7, 3) := by decide +kernel
theorem dX5_post_106 : decode prog_7_method_19_code 106 = .ok (.iconst (-1), 1) := by decide +kernel
theorem dX5_post_107 : decode prog_7_method_19_code 107 = .ok (.iload_n 2, 1) := by decide +kernel
theorem dX5_post_108 : decode prog_7_method_19_code 108 = .ok (.isub, 1) := by decide +kernel
theorem dX5_post_109 : decode prog_7_method_19_code 109 = .ok (.ireturn, 1) := by decide +kernel
theorem dX5_post_110 : decode prog_7_method_19_code 110 = .ok (.iinc 2 1, 3) := by decide +kernel
theorem dX5_post_113 : decode prog_7_method_19_code 113 = .ok (.goto (-35), 3) := by decide +kernel
theorem dX5_post_116 : decode prog_7_method_19_code 116 = .ok (.iconst 0, 1) := by decide +kernel
theorem dX5_post_117 : decode prog_7_method_19_code 117 = .ok (.istore_n 2, 1) := by decide +kernel
theorem dX5_post_118 : decode prog_7_method_19_code 118 = .ok (.iload_n 2, 1) := by decide +kernel
theorem dX5_post_119 : decode prog_7_method_19_code 119 = .ok (.iconst 3, 1) := by decide +kernel
theorem dX5_post_120 : decode prog_7_method_19_code 120 = .ok (.if_icmp .ge 25, 3) := by decide +kernel
theorem dX5_post_123 : decode prog_7_method_19_code 123 = .ok (.aload_n 0, 1) := by decide +kernel
theorem dX5_post_124 : decode prog_7_method_19_code 124 = .ok (.iload_n 1, 1) := by decide +kernel
theorem dX5_post_125 : decode prog_7_method_19_code 125 = .ok (.iconst 1, 1) := by decide +kernel
theorem dX5_post_126 : decode prog_7_method_19_code 126 = .ok (.isub, 1) := by decide +kernel
theorem dX5_post_127 : decode prog_7_method_19_code 127 = .ok (.iload_n 2, 1) := by decide +kernel
theorem dX5_post_128 : decode prog_7_method_19_code 128 = .ok (.invokevirtual 109, 3) := by decide +kernel
theorem dX5_post_131 : decode prog_7_method_19_code 131 = .ok (.lconst 0, 1) := by decide +kernel
theorem dX5_post_132 : decode prog_7_method_19_code 132 = .ok (.lcmp, 1) := by decide +kernel
theorem dX5_post_133 : decode prog_7_method_19_code 133 = .ok (.ifCond .eq 6, 3) := by decide +kernel
theorem dX5_post_136 : decode prog_7_method_19_code 136 = .ok (.bipush (-9), 2) := by decide +kernel
theorem dX5_post_138 : decode prog_7_method_19_code 138 = .ok (.ireturn, 1) := by decide +kernel
theorem dX5_post_139 : decode prog_7_method_19_code 139 = .ok (.iinc 2 1, 3) := by decide +kernel
theorem dX5_post_142 : decode prog_7_method_19_code 142 = .ok (.goto (-24), 3) := by decide +kernel
theorem dX5_post_145 : decode prog_7_method_19_code 145 = .ok (.aload_n 0, 1) := by decide +kernel
theorem dX5_post_146 : decode prog_7_method_19_code 146 = .ok (.getfield 40, 3) := by decide +kernel
theorem dX5_post_149 : decode prog_7_method_19_code 149 = .ok (.iload_n 1, 1) := by decide +kernel
theorem dX5_post_150 : decode prog_7_method_19_code 150 = .ok (.iconst 1, 1) := by decide +kernel
theorem dX5_post_151 : decode prog_7_method_19_code 151 = .ok (.isub, 1) := by decide +kernel
theorem dX5_post_152 : decode prog_7_method_19_code 152 = .ok (.iconst 1, 1) := by decide +kernel
theorem dX5_post_153 : decode prog_7_method_19_code 153 = .ok (.iastore, 1) := by decide +kernel
theorem dX5_post_154 : decode prog_7_method_19_code 154 = .ok (.iconst 1, 1) := by decide +kernel
theorem dX5_post_155 : decode prog_7_method_19_code 155 = .ok (.ireturn, 1) := by decide +kernel
theorem dX5_reverse_0 : decode prog_7_method_20_code 0 = .ok (.aload_n 0, 1) := by decide +kernel
theorem dX5_reverse_1 : decode prog_7_method_20_code 1 = .ok (.aload_n 0, 1) := by decide +kernel
theorem dX5_reverse_2 : decode prog_7_method_20_code 2 = .ok (.iload_n 1, 1) := by decide +kernel
theorem dX5_reverse_3 : decode prog_7_method_20_code 3 = .ok (.invokevirtual 102, 3) := by decide +kernel
theorem dX5_reverse_6 : decode prog_7_method_20_code 6 = .ok (.ifCond .eq 7, 3) := by decide +kernel
theorem dX5_reverse_9 : decode prog_7_method_20_code 9 = .ok (.iconst 1, 1) := by decide +kernel
theorem dX5_reverse_10 : decode prog_7_method_20_code 10 = .ok (.goto 55, 3) := by decide +kernel
theorem dX5_reverse_13 : decode prog_7_method_20_code 13 = .ok (.aload_n 0, 1) := by decide +kernel
theorem dX5_reverse_14 : decode prog_7_method_20_code 14 = .ok (.getfield 40, 3) := by decide +kernel
theorem dX5_reverse_17 : decode prog_7_method_20_code 17 = .ok (.iload_n 1, 1) := by decide +kernel
theorem dX5_reverse_18 : decode prog_7_method_20_code 18 = .ok (.iconst 1, 1) := by decide +kernel
theorem dX5_reverse_19 : decode prog_7_method_20_code 19 = .ok (.isub, 1) := by decide +kernel
theorem dX5_reverse_20 : decode prog_7_method_20_code 20 = .ok (.iaload, 1) := by decide +kernel
theorem dX5_reverse_21 : decode prog_7_method_20_code 21 = .ok (.iconst 1, 1) := by decide +kernel
theorem dX5_reverse_22 : decode prog_7_method_20_code 22 = .ok (.if_icmp .ne 25, 3) := by decide +kernel
theorem dX5_reverse_25 : decode prog_7_method_20_code 25 = .ok (.aload_n 0, 1) := by decide +kernel
theorem dX5_reverse_26 : decode prog_7_method_20_code 26 = .ok (.getfield 49, 3) := by decide +kernel
theorem dX5_reverse_29 : decode prog_7_method_20_code 29 = .ok (.iload_n 1, 1) := by decide +kernel
theorem dX5_reverse_30 : decode prog_7_method_20_code 30 = .ok (.iconst 1, 1) := by decide +kernel
theorem dX5_reverse_31 : decode prog_7_method_20_code 31 = .ok (.isub, 1) := by decide +kernel
theorem dX5_reverse_32 : decode prog_7_method_20_code 32 = .ok (.iaload, 1) := by decide +kernel
theorem dX5_reverse_33 : decode prog_7_method_20_code 33 = .ok (.ifCond .gt 14, 3) := by decide +kernel
theorem dX5_reverse_36 : decode prog_7_method_20_code 36 = .ok (.aload_n 0, 1) := by decide +kernel
theorem dX5_reverse_37 : decode prog_7_method_20_code 37 = .ok (.getfield 52, 3) := by decide +kernel
theorem dX5_reverse_40 : decode prog_7_method_20_code 40 = .ok (.iload_n 1, 1) := by decide +kernel
theorem dX5_reverse_41 : decode prog_7_method_20_code 41 = .ok (.iconst 1, 1) := by decide +kernel
theorem dX5_reverse_42 : decode prog_7_method_20_code 42 = .ok (.isub, 1) := by decide +kernel
theorem dX5_reverse_43 : decode prog_7_method_20_code 43 = .ok (.iaload, 1) := by decide +kernel
theorem dX5_reverse_44 : decode prog_7_method_20_code 44 = .ok (.ifCond .le 7, 3) := by decide +kernel
theorem dX5_reverse_47 : decode prog_7_method_20_code 47 = .ok (.iconst 2, 1) := by decide +kernel
theorem dX5_reverse_48 : decode prog_7_method_20_code 48 = .ok (.goto 17, 3) := by decide +kernel
theorem dX5_reverse_51 : decode prog_7_method_20_code 51 = .ok (.aload_n 0, 1) := by decide +kernel
theorem dX5_reverse_52 : decode prog_7_method_20_code 52 = .ok (.getfield 37, 3) := by decide +kernel
theorem dX5_reverse_55 : decode prog_7_method_20_code 55 = .ok (.bipush 30, 2) := by decide +kernel
theorem dX5_reverse_57 : decode prog_7_method_20_code 57 = .ok (.if_icmp .ne 7, 3) := by decide +kernel
theorem dX5_reverse_60 : decode prog_7_method_20_code 60 = .ok (.iconst 3, 1) := by decide +kernel
theorem dX5_reverse_61 : decode prog_7_method_20_code 61 = .ok (.goto 4, 3) := by decide +kernel
theorem dX5_reverse_64 : decode prog_7_method_20_code 64 = .ok (.iconst 0, 1) := by decide +kernel
theorem dX5_reverse_65 : decode prog_7_method_20_code 65 = .ok (.putfield 7, 3) := by decide +kernel
theorem dX5_reverse_68 : decode prog_7_method_20_code 68 = .ok (.aload_n 0, 1) := by decide +kernel
theorem dX5_reverse_69 : decode prog_7_method_20_code 69 = .ok (.getfield 7, 3) := by decide +kernel
theorem dX5_reverse_72 : decode prog_7_method_20_code 72 = .ok (.ifCond .eq 5, 3) := by decide +kernel
theorem dX5_reverse_75 : decode prog_7_method_20_code 75 = .ok (.iconst 0, 1) := by decide +kernel
theorem dX5_reverse_76 : decode prog_7_method_20_code 76 = .ok (.ireturn, 1) := by decide +kernel
theorem dX5_reverse_77 : decode prog_7_method_20_code 77 = .ok (.aload_n 0, 1) := by decide +kernel
theorem dX5_reverse_78 : decode prog_7_method_20_code 78 = .ok (.aload_n 0, 1) := by decide +kernel
theorem dX5_reverse_79 : decode prog_7_method_20_code 79 = .ok (.getfield 13, 3) := by decide +kernel
theorem dX5_reverse_82 : decode prog_7_method_20_code 82 = .ok (.invokevirtual 98, 3) := by decide +kernel
theorem dX5_reverse_85 : decode prog_7_method_20_code 85 = .ok (.bipush 8, 2) := by decide +kernel
theorem dX5_reverse_87 : decode prog_7_method_20_code 87 = .ok (.iload_n 1, 1) := by decide +kernel
theorem dX5_reverse_88 : decode prog_7_method_20_code 88 = .ok (.iconst 1, 1) := by decide +kernel
theorem dX5_reverse_89 : decode prog_7_method_20_code 89 = .ok (.isub, 1) := by decide +kernel
theorem dX5_reverse_90 : decode prog_7_method_20_code 90 = .ok (.imul, 1) := by decide +kernel
theorem dX5_reverse_91 : decode prog_7_method_20_code 91 = .ok (.istore_n 2, 1) := by decide +kernel
theorem dX5_reverse_92 : decode prog_7_method_20_code 92 = .ok (.bipush 8, 2) := by decide +kernel
theorem dX5_reverse_94 : decode prog_7_method_20_code 94 = .ok (.aload_n 0, 1) := by decide +kernel
theorem dX5_reverse_95 : decode prog_7_method_20_code 95 = .ok (.getfield 37, 3) := by decide +kernel
theorem dX5_reverse_98 : decode prog_7_method_20_code 98 = .ok (.iconst 1, 1) := by decide +kernel
theorem dX5_reverse_99 : decode prog_7_method_20_code 99 = .ok (.isub, 1) := by decide +kernel
theorem dX5_reverse_100 : decode prog_7_method_20_code 100 = .ok (.imul, 1) := by decide +kernel
theorem dX5_reverse_101 : decode prog_7_method_20_code 101 = .ok (.istore_n 3, 1) := by decide +kernel
theorem dX5_reverse_102 : decode prog_7_method_20_code 102 = .ok (.iconst 0, 1) := by decide +kernel
theorem dX5_reverse_103 : decode prog_7_method_20_code 103 = .ok (.istore 4, 2) := by decide +kernel
theorem dX5_reverse_105 : decode prog_7_method_20_code 105 = .ok (.iload 4, 2) := by decide +kernel
theorem dX5_reverse_107 : decode prog_7_method_20_code 107 = .ok (.aload_n 0, 1) := by decide +kernel
theorem dX5_reverse_108 : decode prog_7_method_20_code 108 = .ok (.getfield 46, 3) := by decide +kernel
theorem dX5_reverse_111 : decode prog_7_method_20_code 111 = .ok (.iload_n 1, 1) := by decide +kernel
theorem dX5_reverse_112 : decode prog_7_method_20_code 112 = .ok (.iconst 1, 1) := by decide +kernel
theorem dX5_reverse_113 : decode prog_7_method_20_code 113 = .ok (.isub, 1) := by decide +kernel
theorem dX5_reverse_114 : decode prog_7_method_20_code 114 = .ok (.iaload, 1) := by decide +kernel
theorem dX5_reverse_115 : decode prog_7_method_20_code 115 = .ok (.if_icmp .ge 56, 3) := by decide +kernel
theorem dX5_reverse_118 : decode prog_7_method_20_code 118 = .ok (.aload_n 0, 1) := by decide +kernel
theorem dX5_reverse_119 : decode prog_7_method_20_code 119 = .ok (.getfield 55, 3) := by decide +kernel
theorem dX5_reverse_122 : decode prog_7_method_20_code 122 = .ok (.iload_n 3, 1) := by decide +kernel
theorem dX5_reverse_123 : decode prog_7_method_20_code 123 = .ok (.iload 4, 2) := by decide +kernel
theorem dX5_reverse_125 : decode prog_7_method_20_code 125 = .ok (.iadd, 1) := by decide +kernel
theorem dX5_reverse_126 : decode prog_7_method_20_code 126 = .ok (.aload_n 0, 1) := by decide +kernel
theorem dX5_reverse_127 : decode prog_7_method_20_code 127 = .ok (.getfield 55, 3) := by decide +kernel
theorem dX5_reverse_130 : decode prog_7_method_20_code 130 = .ok (.iload_n 2, 1) := by decide +kernel
theorem dX5_reverse_131 : decode prog_7_method_20_code 131 = .ok (.iload 4, 2) := by decide +kernel
theorem dX5_reverse_133 : decode prog_7_method_20_code 133 = .ok (.iadd, 1) := by decide +kernel
theorem dX5_reverse_134 : decode prog_7_method_20_code 134 = .ok (.iaload, 1) := by decide +kernel
theorem dX5_reverse_135 : decode prog_7_method_20_code 135 = .ok (.iastore, 1) := by decide +kernel
theorem dX5_reverse_136 : decode prog_7_method_20_code 136 = .ok (.aload_n 0, 1) := by decide +kernel
theorem dX5_reverse_137 : decode prog_7_method_20_code 137 = .ok (.getfield 58, 3) := by decide +kernel
theorem dX5_reverse_140 : decode prog_7_method_20_code 140 = .ok (.iload_n 3, 1) := by decide +kernel
theorem dX5_reverse_141 : decode prog_7_method_20_code 141 = .ok (.iload 4, 2) := by decide +kernel
theorem dX5_reverse_143 : decode prog_7_method_20_code 143 = .ok (.iadd, 1) := by decide +kernel
theorem dX5_reverse_144 : decode prog_7_method_20_code 144 = .ok (.aload_n 0, 1) := by decide +kernel
theorem dX5_reverse_145 : decode prog_7_method_20_code 145 = .ok (.getfield 58, 3) := by decide +kernel
theorem dX5_reverse_148 : decode prog_7_method_20_code 148 = .ok (.iload_n 2, 1) := by decide +kernel
theorem dX5_reverse_149 : decode prog_7_method_20_code 149 = .ok (.iload 4, 2) := by decide +kernel
theorem dX5_reverse_151 : decode prog_7_method_20_code 151 = .ok (.iadd, 1) := by decide +kernel
theorem dX5_reverse_152 : decode prog_7_method_20_code 152 = .ok (.laload, 1) := by decide +kernel
theorem dX5_reverse_153 : decode prog_7_method_20_code 153 = .ok (.lneg, 1) := by decide +kernel
theorem dX5_reverse_154 : decode prog_7_method_20_code 154 = .ok (.lastore, 1) := by decide +kernel
theorem dX5_reverse_155 : decode prog_7_method_20_code 155 = .ok (.aload_n 0, 1) := by decide +kernel
theorem dX5_reverse_156 : decode prog_7_method_20_code 156 = .ok (.getfield 61, 3) := by decide +kernel
theorem dX5_reverse_159 : decode prog_7_method_20_code 159 = .ok (.iload_n 3, 1) := by decide +kernel
theorem dX5_reverse_160 : decode prog_7_method_20_code 160 = .ok (.iload 4, 2) := by decide +kernel
theorem dX5_reverse_162 : decode prog_7_method_20_code 162 = .ok (.iadd, 1) := by decide +kernel
theorem dX5_reverse_163 : decode prog_7_method_20_code 163 = .ok (.iconst 0, 1) := by decide +kernel
theorem dX5_reverse_164 : decode prog_7_method_20_code 164 = .ok (.bastore, 1) := by decide +kernel
theorem dX5_reverse_165 : decode prog_7_method_20_code 165 = .ok (.iinc 4 1, 3) := by decide +kernel
theorem dX5_reverse_168 : decode prog_7_method_20_code 168 = .ok (.goto (-63), 3) := by decide +kernel
theorem dX5_reverse_171 : decode prog_7_method_20_code 171 = .ok (.aload_n 0, 1) := by decide +kernel
theorem dX5_reverse_172 : decode prog_7_method_20_code 172 = .ok (.getfield 46, 3) := by decide +kernel
theorem dX5_reverse_175 : decode prog_7_method_20_code 175 = .ok (.aload_n 0, 1) := by decide +kernel
theorem dX5_reverse_176 : decode prog_7_method_20_code 176 = .ok (.getfield 37, 3) := by decide +kernel
theorem dX5_reverse_179 : decode prog_7_method_20_code 179 = .ok (.iconst 1, 1) := by decide +kernel
theorem dX5_reverse_180 : decode prog_7_method_20_code 180 = .ok (.isub, 1) := by decide +kernel
theorem dX5_reverse_181 : decode prog_7_method_20_code 181 = .ok (.aload_n 0, 1) := by decide +kernel
theorem dX5_reverse_182 : decode prog_7_method_20_code 182 = .ok (.getfield 46, 3) := by decide +kernel
theorem dX5_reverse_185 : decode prog_7_method_20_code 185 = .ok (.iload_n 1, 1) := by decide +kernel
theorem dX5_reverse_186 : decode prog_7_method_20_code 186 = .ok (.iconst 1, 1) := by decide +kernel
theorem dX5_reverse_187 : decode prog_7_method_20_code 187 = .ok (.isub, 1) := by decide +kernel
theorem dX5_reverse_188 : decode prog_7_method_20_code 188 = .ok (.iaload, 1) := by decide +kernel
theorem dX5_reverse_189 : decode prog_7_method_20_code 189 = .ok (.iastore, 1) := by decide +kernel
theorem dX5_reverse_190 : decode prog_7_method_20_code 190 = .ok (.aload_n 0, 1) := by decide +kernel
theorem dX5_reverse_191 : decode prog_7_method_20_code 191 = .ok (.getfield 40, 3) := by decide +kernel
theorem dX5_reverse_194 : decode prog_7_method_20_code 194 = .ok (.aload_n 0, 1) := by decide +kernel
theorem dX5_reverse_195 : decode prog_7_method_20_code 195 = .ok (.getfield 37, 3) := by decide +kernel
theorem dX5_reverse_198 : decode prog_7_method_20_code 198 = .ok (.iconst 1, 1) := by decide +kernel
theorem dX5_reverse_199 : decode prog_7_method_20_code 199 = .ok (.isub, 1) := by decide +kernel
theorem dX5_reverse_200 : decode prog_7_method_20_code 200 = .ok (.iconst 1, 1) := by decide +kernel
theorem dX5_reverse_201 : decode prog_7_method_20_code 201 = .ok (.iastore, 1) := by decide +kernel
theorem dX5_reverse_202 : decode prog_7_method_20_code 202 = .ok (.aload_n 0, 1) := by decide +kernel
theorem dX5_reverse_203 : decode prog_7_method_20_code 203 = .ok (.getfield 52, 3) := by decide +kernel
theorem dX5_reverse_206 : decode prog_7_method_20_code 206 = .ok (.aload_n 0, 1) := by decide +kernel
theorem dX5_reverse_207 : decode prog_7_method_20_code 207 = .ok (.getfield 37, 3) := by decide +kernel
theorem dX5_reverse_210 : decode prog_7_method_20_code 210 = .ok (.iconst 1, 1) := by decide +kernel
theorem dX5_reverse_211 : decode prog_7_method_20_code 211 = .ok (.isub, 1) := by decide +kernel
theorem dX5_reverse_212 : decode prog_7_method_20_code 212 = .ok (.iload_n 1, 1) := by decide +kernel
theorem dX5_reverse_213 : decode prog_7_method_20_code 213 = .ok (.iastore, 1) := by decide +kernel
theorem dX5_reverse_214 : decode prog_7_method_20_code 214 = .ok (.aload_n 0, 1) := by decide +kernel
theorem dX5_reverse_215 : decode prog_7_method_20_code 215 = .ok (.getfield 49, 3) := by decide +kernel
theorem dX5_reverse_218 : decode prog_7_method_20_code 218 = .ok (.iload_n 1, 1) := by decide +kernel
theorem dX5_reverse_219 : decode prog_7_method_20_code 219 = .ok (.iconst 1, 1) := by decide +kernel
theorem dX5_reverse_220 : decode prog_7_method_20_code 220 = .ok (.isub, 1) := by decide +kernel
theorem dX5_reverse_221 : decode prog_7_method_20_code 221 = .ok (.aload_n 0, 1) := by decide +kernel
theorem dX5_reverse_222 : decode prog_7_method_20_code 222 = .ok (.getfield 37, 3) := by decide +kernel
theorem dX5_reverse_225 : decode prog_7_method_20_code 225 = .ok (.iastore, 1) := by decide +kernel
theorem dX5_reverse_226 : decode prog_7_method_20_code 226 = .ok (.aload_n 0, 1) := by decide +kernel
theorem dX5_reverse_227 : decode prog_7_method_20_code 227 = .ok (.getfield 37, 3) := by decide +kernel
theorem dX5_reverse_230 : decode prog_7_method_20_code 230 = .ok (.ireturn, 1) := by decide +kernel
theorem dX5_balance_0 : decode prog_7_method_21_code 0 = .ok (.aload_n 0, 1) := by decide +kernel
theorem dX5_balance_1 : decode prog_7_method_21_code 1 = .ok (.iload_n 1, 1) := by decide +kernel
theorem dX5_balance_2 : decode prog_7_method_21_code 2 = .ok (.ifCond .lt 11, 3) := by decide +kernel
theorem dX5_balance_5 : decode prog_7_method_21_code 5 = .ok (.iload_n 1, 1) := by decide +kernel
theorem dX5_balance_6 : decode prog_7_method_21_code 6 = .ok (.aload_n 0, 1) := by decide +kernel
theorem dX5_balance_7 : decode prog_7_method_21_code 7 = .ok (.getfield 30, 3) := by decide +kernel
theorem dX5_balance_10 : decode prog_7_method_21_code 10 = .ok (.if_icmp .lt 7, 3) := by decide +kernel
theorem dX5_balance_13 : decode prog_7_method_21_code 13 = .ok (.iconst 1, 1) := by decide +kernel
theorem dX5_balance_14 : decode prog_7_method_21_code 14 = .ok (.goto 20, 3) := by decide +kernel
theorem dX5_balance_17 : decode prog_7_method_21_code 17 = .ok (.iload_n 2, 1) := by decide +kernel
theorem dX5_balance_18 : decode prog_7_method_21_code 18 = .ok (.i2l, 1) := by decide +kernel
theorem dX5_balance_19 : decode prog_7_method_21_code 19 = .ok (.lconst 0, 1) := by decide +kernel
theorem dX5_balance_20 : decode prog_7_method_21_code 20 = .ok (.ldc2_w 113, 3) := by decide +kernel
theorem dX5_balance_23 : decode prog_7_method_21_code 23 = .ok (.invokestatic 94, 3) := by decide +kernel
theorem dX5_balance_26 : decode prog_7_method_21_code 26 = .ok (.ifCond .eq 7, 3) := by decide +kernel
theorem dX5_balance_29 : decode prog_7_method_21_code 29 = .ok (.iconst 2, 1) := by decide +kernel
theorem dX5_balance_30 : decode prog_7_method_21_code 30 = .ok (.goto 4, 3) := by decide +kernel
theorem dX5_balance_33 : decode prog_7_method_21_code 33 = .ok (.iconst 0, 1) := by decide +kernel
theorem dX5_balance_34 : decode prog_7_method_21_code 34 = .ok (.putfield 7, 3) := by decide +kernel
theorem dX5_balance_37 : decode prog_7_method_21_code 37 = .ok (.aload_n 0, 1) := by decide +kernel
theorem dX5_balance_38 : decode prog_7_method_21_code 38 = .ok (.getfield 7, 3) := by decide +kernel
theorem dX5_balance_41 : decode prog_7_method_21_code 41 = .ok (.ifCond .eq 5, 3) := by decide +kernel
theorem dX5_balance_44 : decode prog_7_method_21_code 44 = .ok (.lconst 0, 1) := by decide +kernel
theorem dX5_balance_45 : decode prog_7_method_21_code 45 = .ok (.lreturn, 1) := by decide +kernel
theorem dX5_balance_46 : decode prog_7_method_21_code 46 = .ok (.lconst 0, 1) := by decide +kernel
theorem dX5_balance_47 : decode prog_7_method_21_code 47 = .ok (.lstore_n 3, 1) := by decide +kernel
theorem dX5_balance_48 : decode prog_7_method_21_code 48 = .ok (.iconst 0, 1) := by decide +kernel
theorem dX5_balance_49 : decode prog_7_method_21_code 49 = .ok (.istore 5, 2) := by decide +kernel
theorem dX5_balance_51 : decode prog_7_method_21_code 51 = .ok (.iload 5, 2) := by decide +kernel
theorem dX5_balance_53 : decode prog_7_method_21_code 53 = .ok (.aload_n 0, 1) := by decide +kernel
theorem dX5_balance_54 : decode prog_7_method_21_code 54 = .ok (.getfield 37, 3) := by decide +kernel
theorem dX5_balance_57 : decode prog_7_method_21_code 57 = .ok (.if_icmp .ge 83, 3) := by decide +kernel
theorem dX5_balance_60 : decode prog_7_method_21_code 60 = .ok (.bipush 8, 2) := by decide +kernel
theorem dX5_balance_62 : decode prog_7_method_21_code 62 = .ok (.iload 5, 2) := by decide +kernel
theorem dX5_balance_64 : decode prog_7_method_21_code 64 = .ok (.imul, 1) := by decide +kernel
theorem dX5_balance_65 : decode prog_7_method_21_code 65 = .ok (.istore 6, 2) := by decide +kernel
theorem dX5_balance_67 : decode prog_7_method_21_code 67 = .ok (.iload 6, 2) := by decide +kernel
theorem dX5_balance_69 : decode prog_7_method_21_code 69 = .ok (.bipush 8, 2) := by decide +kernel
theorem dX5_balance_71 : decode prog_7_method_21_code 71 = .ok (.iload 5, 2) := by decide +kernel
theorem dX5_balance_73 : decode prog_7_method_21_code 73 = .ok (.imul, 1) := by decide +kernel
theorem dX5_balance_74 : decode prog_7_method_21_code 74 = .ok (.aload_n 0, 1) := by decide +kernel
theorem dX5_balance_75 : decode prog_7_method_21_code 75 = .ok (.getfield 46, 3) := by decide +kernel
theorem dX5_balance_78 : decode prog_7_method_21_code 78 = .ok (.iload 5, 2) := by decide +kernel
theorem dX5_balance_80 : decode prog_7_method_21_code 80 = .ok (.iaload, 1) := by decide +kernel
theorem dX5_balance_81 : decode prog_7_method_21_code 81 = .ok (.iadd, 1) := by decide +kernel
theorem dX5_balance_82 : decode prog_7_method_21_code 82 = .ok (.if_icmp .ge 52, 3) := by decide +kernel
theorem dX5_balance_85 : decode prog_7_method_21_code 85 = .ok (.aload_n 0, 1) := by decide +kernel
theorem dX5_balance_86 : decode prog_7_method_21_code 86 = .ok (.getfield 40, 3) := by decide +kernel
theorem dX5_balance_89 : decode prog_7_method_21_code 89 = .ok (.iload 5, 2) := by decide +kernel
theorem dX5_balance_91 : decode prog_7_method_21_code 91 = .ok (.iaload, 1) := by decide +kernel
theorem dX5_balance_92 : decode prog_7_method_21_code 92 = .ok (.iconst 1, 1) := by decide +kernel
theorem dX5_balance_93 : decode prog_7_method_21_code 93 = .ok (.if_icmp .ne 35, 3) := by decide +kernel
theorem dX5_balance_96 : decode prog_7_method_21_code 96 = .ok (.aload_n 0, 1) := by decide +kernel
theorem dX5_balance_97 : decode prog_7_method_21_code 97 = .ok (.getfield 43, 3) := by decide +kernel
theorem dX5_balance_100 : decode prog_7_method_21_code 100 = .ok (.iload 5, 2) := by decide +kernel
theorem dX5_balance_102 : decode prog_7_method_21_code 102 = .ok (.iaload, 1) := by decide +kernel
theorem dX5_balance_103 : decode prog_7_method_21_code 103 = .ok (.iload_n 2, 1) := by decide +kernel
theorem dX5_balance_104 : decode prog_7_method_21_code 104 = .ok (.if_icmp .gt 24, 3) := by decide +kernel
theorem dX5_balance_107 : decode prog_7_method_21_code 107 = .ok (.aload_n 0, 1) := by decide +kernel
theorem dX5_balance_108 : decode prog_7_method_21_code 108 = .ok (.getfield 55, 3) := by decide +kernel
theorem dX5_balance_111 : decode prog_7_method_21_code 111 = .ok (.iload 6, 2) := by decide +kernel
theorem dX5_balance_113 : decode prog_7_method_21_code 113 = .ok (.iaload, 1) := by decide +kernel
theorem dX5_balance_114 : decode prog_7_method_21_code 114 = .ok (.iload_n 1, 1) := by decide +kernel
theorem dX5_balance_115 : decode prog_7_method_21_code 115 = .ok (.if_icmp .ne 13, 3) := by decide +kernel
theorem dX5_balance_118 : decode prog_7_method_21_code 118 = .ok (.lload_n 3, 1) := by decide +kernel
theorem dX5_balance_119 : decode prog_7_method_21_code 119 = .ok (.aload_n 0, 1) := by decide +kernel
theorem dX5_balance_120 : decode prog_7_method_21_code 120 = .ok (.getfield 58, 3) := by decide +kernel
theorem dX5_balance_123 : decode prog_7_method_21_code 123 = .ok (.iload 6, 2) := by decide +kernel
theorem dX5_balance_125 : decode prog_7_method_21_code 125 = .ok (.laload, 1) := by decide +kernel
theorem dX5_balance_126 : decode prog_7_method_21_code 126 = .ok (.ladd, 1) := by decide +kernel
theorem dX5_balance_127 : decode prog_7_method_21_code 127 = .ok (.lstore_n 3, 1) := by decide +kernel
theorem dX5_balance_128 : decode prog_7_method_21_code 128 = .ok (.iinc 6 1, 3) := by decide +kernel
theorem dX5_balance_131 : decode prog_7_method_21_code 131 = .ok (.goto (-64), 3) := by decide +kernel
theorem dX5_balance_134 : decode prog_7_method_21_code 134 = .ok (.iinc 5 1, 3) := by decide +kernel
theorem dX5_balance_137 : decode prog_7_method_21_code 137 = .ok (.goto (-86), 3) := by decide +kernel
theorem dX5_balance_140 : decode prog_7_method_21_code 140 = .ok (.lload_n 3, 1) := by decide +kernel
theorem dX5_balance_141 : decode prog_7_method_21_code 141 = .ok (.lreturn, 1) := by decide +kernel
theorem dX5_all_0 : decode prog_7_method_22_code 0 = .ok (.aload_n 0, 1) := by decide +kernel
theorem dX5_all_1 : decode prog_7_method_22_code 1 = .ok (.iload_n 1, 1) := by decide +kernel
theorem dX5_all_2 : decode prog_7_method_22_code 2 = .ok (.i2l, 1) := by decide +kernel
theorem dX5_all_3 : decode prog_7_method_22_code 3 = .ok (.lconst 0, 1) := by decide +kernel
theorem dX5_all_4 : decode prog_7_method_22_code 4 = .ok (.ldc2_w 92, 3) := by decide +kernel
theorem dX5_all_7 : decode prog_7_method_22_code 7 = .ok (.invokestatic 94, 3) := by decide +kernel
theorem dX5_all_10 : decode prog_7_method_22_code 10 = .ok (.ifCond .eq 7, 3) := by decide +kernel
theorem dX5_all_13 : decode prog_7_method_22_code 13 = .ok (.iconst 1, 1) := by decide +kernel
theorem dX5_all_14 : decode prog_7_method_22_code 14 = .ok (.goto 4, 3) := by decide +kernel
theorem dX5_all_17 : decode prog_7_method_22_code 17 = .ok (.iconst 0, 1) := by decide +kernel
theorem dX5_all_18 : decode prog_7_method_22_code 18 = .ok (.putfield 7, 3) := by decide +kernel
theorem dX5_all_21 : decode prog_7_method_22_code 21 = .ok (.aload_n 0, 1) := by decide +kernel
theorem dX5_all_22 : decode prog_7_method_22_code 22 = .ok (.getfield 7, 3) := by decide +kernel
theorem dX5_all_25 : decode prog_7_method_22_code 25 = .ok (.ifCond .eq 5, 3) := by decide +kernel
theorem dX5_all_28 : decode prog_7_method_22_code 28 = .ok (.lconst 0, 1) := by decide +kernel
theorem dX5_all_29 : decode prog_7_method_22_code 29 = .ok (.lreturn, 1) := by decide +kernel
theorem dX5_all_30 : decode prog_7_method_22_code 30 = .ok (.lconst 0, 1) := by decide +kernel
theorem dX5_all_31 : decode prog_7_method_22_code 31 = .ok (.lstore_n 2, 1) := by decide +kernel
theorem dX5_all_32 : decode prog_7_method_22_code 32 = .ok (.iconst 0, 1) := by decide +kernel
theorem dX5_all_33 : decode prog_7_method_22_code 33 = .ok (.istore 4, 2) := by decide +kernel
theorem dX5_all_35 : decode prog_7_method_22_code 35 = .ok (.iload 4, 2) := by decide +kernel
theorem dX5_all_37 : decode prog_7_method_22_code 37 = .ok (.aload_n 0, 1) := by decide +kernel
theorem dX5_all_38 : decode prog_7_method_22_code 38 = .ok (.getfield 37, 3) := by decide +kernel
theorem dX5_all_41 : decode prog_7_method_22_code 41 = .ok (.if_icmp .ge 34, 3) := by decide +kernel
theorem dX5_all_44 : decode prog_7_method_22_code 44 = .ok (.lload_n 2, 1) := by decide +kernel
theorem dX5_all_45 : decode prog_7_method_22_code 45 = .ok (.aload_n 0, 1) := by decide +kernel
theorem dX5_all_46 : decode prog_7_method_22_code 46 = .ok (.getfield 40, 3) := by decide +kernel
theorem dX5_all_49 : decode prog_7_method_22_code 49 = .ok (.iload 4, 2) := by decide +kernel
theorem dX5_all_51 : decode prog_7_method_22_code 51 = .ok (.iaload, 1) := by decide +kernel
theorem dX5_all_52 : decode prog_7_method_22_code 52 = .ok (.iconst 1, 1) := by decide +kernel
theorem dX5_all_53 : decode prog_7_method_22_code 53 = .ok (.if_icmp .ne 13, 3) := by decide +kernel
theorem dX5_all_56 : decode prog_7_method_22_code 56 = .ok (.aload_n 0, 1) := by decide +kernel
theorem dX5_all_57 : decode prog_7_method_22_code 57 = .ok (.iload 4, 2) := by decide +kernel
theorem dX5_all_59 : decode prog_7_method_22_code 59 = .ok (.iload_n 1, 1) := by decide +kernel
theorem dX5_all_60 : decode prog_7_method_22_code 60 = .ok (.invokevirtual 109, 3) := by decide +kernel
theorem dX5_all_63 : decode prog_7_method_22_code 63 = .ok (.goto 4, 3) := by decide +kernel
theorem dX5_all_66 : decode prog_7_method_22_code 66 = .ok (.lconst 0, 1) := by decide +kernel
theorem dX5_all_67 : decode prog_7_method_22_code 67 = .ok (.ladd, 1) := by decide +kernel
theorem dX5_all_68 : decode prog_7_method_22_code 68 = .ok (.lstore_n 2, 1) := by decide +kernel
theorem dX5_all_69 : decode prog_7_method_22_code 69 = .ok (.iinc 4 1, 3) := by decide +kernel
theorem dX5_all_72 : decode prog_7_method_22_code 72 = .ok (.goto (-37), 3) := by decide +kernel
theorem dX5_all_75 : decode prog_7_method_22_code 75 = .ok (.lload_n 2, 1) := by decide +kernel
theorem dX5_all_76 : decode prog_7_method_22_code 76 = .ok (.lreturn, 1) := by decide +kernel
theorem dX5_invoice_0 : decode prog_7_method_23_code 0 = .ok (.aload_n 0, 1) := by decide +kernel
theorem dX5_invoice_1 : decode prog_7_method_23_code 1 = .ok (.aload_n 0, 1) := by decide +kernel
theorem dX5_invoice_2 : decode prog_7_method_23_code 2 = .ok (.iload_n 1, 1) := by decide +kernel
theorem dX5_invoice_3 : decode prog_7_method_23_code 3 = .ok (.invokevirtual 89, 3) := by decide +kernel
theorem dX5_invoice_6 : decode prog_7_method_23_code 6 = .ok (.ifCond .eq 7, 3) := by decide +kernel
theorem dX5_invoice_9 : decode prog_7_method_23_code 9 = .ok (.iconst 1, 1) := by decide +kernel
theorem dX5_invoice_10 : decode prog_7_method_23_code 10 = .ok (.goto 58, 3) := by decide +kernel
theorem dX5_invoice_13 : decode prog_7_method_23_code 13 = .ok (.lload_n 2, 1) := by decide +kernel
theorem dX5_invoice_14 : decode prog_7_method_23_code 14 = .ok (.lconst 1, 1) := by decide +kernel
theorem dX5_invoice_15 : decode prog_7_method_23_code 15 = .ok (.ldc2_w 107, 3) := by decide +kernel
theorem dX5_invoice_18 : decode prog_7_method_23_code 18 = .ok (.invokestatic 94, 3) := by decide +kernel
theorem dX5_invoice_21 : decode prog_7_method_23_code 21 = .ok (.ifCond .ne 16, 3) := by decide +kernel
theorem dX5_invoice_24 : decode prog_7_method_23_code 24 = .ok (.iload 4, 2) := by decide +kernel
theorem dX5_invoice_26 : decode prog_7_method_23_code 26 = .ok (.i2l, 1) := by decide +kernel
theorem dX5_invoice_27 : decode prog_7_method_23_code 27 = .ok (.lconst 0, 1) := by decide +kernel
theorem dX5_invoice_28 : decode prog_7_method_23_code 28 = .ok (.ldc2_w 113, 3) := by decide +kernel
theorem dX5_invoice_31 : decode prog_7_method_23_code 31 = .ok (.invokestatic 94, 3) := by decide +kernel
theorem dX5_invoice_34 : decode prog_7_method_23_code 34 = .ok (.ifCond .eq 7, 3) := by decide +kernel
theorem dX5_invoice_37 : decode prog_7_method_23_code 37 = .ok (.iconst 2, 1) := by decide +kernel
theorem dX5_invoice_38 : decode prog_7_method_23_code 38 = .ok (.goto 30, 3) := by decide +kernel
theorem dX5_invoice_41 : decode prog_7_method_23_code 41 = .ok (.aload_n 0, 1) := by decide +kernel
theorem dX5_invoice_42 : decode prog_7_method_23_code 42 = .ok (.getfield 22, 3) := by decide +kernel
theorem dX5_invoice_45 : decode prog_7_method_23_code 45 = .ok (.iload_n 1, 1) := by decide +kernel
theorem dX5_invoice_46 : decode prog_7_method_23_code 46 = .ok (.baload, 1) := by decide +kernel
theorem dX5_invoice_47 : decode prog_7_method_23_code 47 = .ok (.ifCond .eq 7, 3) := by decide +kernel
theorem dX5_invoice_50 : decode prog_7_method_23_code 50 = .ok (.iconst 3, 1) := by decide +kernel
theorem dX5_invoice_51 : decode prog_7_method_23_code 51 = .ok (.goto 17, 3) := by decide +kernel
theorem dX5_invoice_54 : decode prog_7_method_23_code 54 = .ok (.aload_n 0, 1) := by decide +kernel
theorem dX5_invoice_55 : decode prog_7_method_23_code 55 = .ok (.getfield 64, 3) := by decide +kernel
theorem dX5_invoice_58 : decode prog_7_method_23_code 58 = .ok (.bipush 20, 2) := by decide +kernel
theorem dX5_invoice_60 : decode prog_7_method_23_code 60 = .ok (.if_icmp .ne 7, 3) := by decide +kernel
theorem dX5_invoice_63 : decode prog_7_method_23_code 63 = .ok (.iconst 4, 1) := by decide +kernel
theorem dX5_invoice_64 : decode prog_7_method_23_code 64 = .ok (.goto 4, 3) := by decide +kernel
theorem dX5_invoice_67 : decode prog_7_method_23_code 67 = .ok (.iconst 0, 1) := by decide +kernel
theorem dX5_invoice_68 : decode prog_7_method_23_code 68 = .ok (.putfield 7, 3) := by decide +kernel
theorem dX5_invoice_71 : decode prog_7_method_23_code 71 = .ok (.aload_n 0, 1) := by decide +kernel
theorem dX5_invoice_72 : decode prog_7_method_23_code 72 = .ok (.getfield 7, 3) := by decide +kernel
theorem dX5_invoice_75 : decode prog_7_method_23_code 75 = .ok (.ifCond .eq 5, 3) := by decide +kernel
theorem dX5_invoice_78 : decode prog_7_method_23_code 78 = .ok (.iconst 0, 1) := by decide +kernel
theorem dX5_invoice_79 : decode prog_7_method_23_code 79 = .ok (.ireturn, 1) := by decide +kernel
theorem dX5_invoice_80 : decode prog_7_method_23_code 80 = .ok (.aload_n 0, 1) := by decide +kernel
theorem dX5_invoice_81 : decode prog_7_method_23_code 81 = .ok (.getfield 67, 3) := by decide +kernel
theorem dX5_invoice_84 : decode prog_7_method_23_code 84 = .ok (.aload_n 0, 1) := by decide +kernel
theorem dX5_invoice_85 : decode prog_7_method_23_code 85 = .ok (.getfield 64, 3) := by decide +kernel
theorem dX5_invoice_88 : decode prog_7_method_23_code 88 = .ok (.iload_n 1, 1) := by decide +kernel
theorem dX5_invoice_89 : decode prog_7_method_23_code 89 = .ok (.iastore, 1) := by decide +kernel
theorem dX5_invoice_90 : decode prog_7_method_23_code 90 = .ok (.aload_n 0, 1) := by decide +kernel
theorem dX5_invoice_91 : decode prog_7_method_23_code 91 = .ok (.getfield 70, 3) := by decide +kernel
theorem dX5_invoice_94 : decode prog_7_method_23_code 94 = .ok (.aload_n 0, 1) := by decide +kernel
theorem dX5_invoice_95 : decode prog_7_method_23_code 95 = .ok (.getfield 64, 3) := by decide +kernel
theorem dX5_invoice_98 : decode prog_7_method_23_code 98 = .ok (.lload_n 2, 1) := by decide +kernel
theorem dX5_invoice_99 : decode prog_7_method_23_code 99 = .ok (.lastore, 1) := by decide +kernel
theorem dX5_invoice_100 : decode prog_7_method_23_code 100 = .ok (.aload_n 0, 1) := by decide +kernel
theorem dX5_invoice_101 : decode prog_7_method_23_code 101 = .ok (.getfield 73, 3) := by decide +kernel
theorem dX5_invoice_104 : decode prog_7_method_23_code 104 = .ok (.aload_n 0, 1) := by decide +kernel
theorem dX5_invoice_105 : decode prog_7_method_23_code 105 = .ok (.getfield 64, 3) := by decide +kernel
theorem dX5_invoice_108 : decode prog_7_method_23_code 108 = .ok (.iload 4, 2) := by decide +kernel
theorem dX5_invoice_110 : decode prog_7_method_23_code 110 = .ok (.iastore, 1) := by decide +kernel
theorem dX5_invoice_111 : decode prog_7_method_23_code 111 = .ok (.aload_n 0, 1) := by decide +kernel
theorem dX5_invoice_112 : decode prog_7_method_23_code 112 = .ok (.getfield 26, 3) := by decide +kernel
theorem dX5_invoice_115 : decode prog_7_method_23_code 115 = .ok (.iload_n 1, 1) := by decide +kernel
theorem dX5_invoice_116 : decode prog_7_method_23_code 116 = .ok (.aload_n 0, 1) := by decide +kernel
theorem dX5_invoice_117 : decode prog_7_method_23_code 117 = .ok (.aload_n 0, 1) := by decide +kernel
theorem dX5_invoice_118 : decode prog_7_method_23_code 118 = .ok (.getfield 64, 3) := by decide +kernel
theorem dX5_invoice_121 : decode prog_7_method_23_code 121 = .ok (.aload_n 0, 1) := by decide +kernel
theorem dX5_invoice_122 : decode prog_7_method_23_code 122 = .ok (.getfield 26, 3) := by decide +kernel
theorem dX5_invoice_125 : decode prog_7_method_23_code 125 = .ok (.iload_n 1, 1) := by decide +kernel
theorem dX5_invoice_126 : decode prog_7_method_23_code 126 = .ok (.laload, 1) := by decide +kernel
theorem dX5_invoice_127 : decode prog_7_method_23_code 127 = .ok (.invokevirtual 115, 3) := by decide +kernel
theorem dX5_invoice_130 : decode prog_7_method_23_code 130 = .ok (.lastore, 1) := by decide +kernel
theorem dX5_invoice_131 : decode prog_7_method_23_code 131 = .ok (.aload_n 0, 1) := by decide +kernel
theorem dX5_invoice_132 : decode prog_7_method_23_code 132 = .ok (.dup, 1) := by decide +kernel
theorem dX5_invoice_133 : decode prog_7_method_23_code 133 = .ok (.getfield 64, 3) := by decide +kernel
theorem dX5_invoice_136 : decode prog_7_method_23_code 136 = .ok (.iconst 1, 1) := by decide +kernel
theorem dX5_invoice_137 : decode prog_7_method_23_code 137 = .ok (.iadd, 1) := by decide +kernel
theorem dX5_invoice_138 : decode prog_7_method_23_code 138 = .ok (.putfield 64, 3) := by decide +kernel
theorem dX5_invoice_141 : decode prog_7_method_23_code 141 = .ok (.aload_n 0, 1) := by decide +kernel
theorem dX5_invoice_142 : decode prog_7_method_23_code 142 = .ok (.getfield 64, 3) := by decide +kernel
theorem dX5_invoice_145 : decode prog_7_method_23_code 145 = .ok (.ireturn, 1) := by decide +kernel
theorem dX5_pay_0 : decode prog_7_method_24_code 0 = .ok (.aload_n 0, 1) := by decide +kernel
theorem dX5_pay_1 : decode prog_7_method_24_code 1 = .ok (.aload_n 0, 1) := by decide +kernel
theorem dX5_pay_2 : decode prog_7_method_24_code 2 = .ok (.iload_n 1, 1) := by decide +kernel
theorem dX5_pay_3 : decode prog_7_method_24_code 3 = .ok (.invokevirtual 89, 3) := by decide +kernel
theorem dX5_pay_6 : decode prog_7_method_24_code 6 = .ok (.ifCond .eq 7, 3) := by decide +kernel
theorem dX5_pay_9 : decode prog_7_method_24_code 9 = .ok (.iconst 1, 1) := by decide +kernel
theorem dX5_pay_10 : decode prog_7_method_24_code 10 = .ok (.goto 19, 3) := by decide +kernel
theorem dX5_pay_13 : decode prog_7_method_24_code 13 = .ok (.lload_n 2, 1) := by decide +kernel
theorem dX5_pay_14 : decode prog_7_method_24_code 14 = .ok (.lconst 1, 1) := by decide +kernel
theorem dX5_pay_15 : decode prog_7_method_24_code 15 = .ok (.ldc2_w 107, 3) := by decide +kernel
theorem dX5_pay_18 : decode prog_7_method_24_code 18 = .ok (.invokestatic 94, 3) := by decide +kernel
theorem dX5_pay_21 : decode prog_7_method_24_code 21 = .ok (.ifCond .eq 7, 3) := by decide +kernel
theorem dX5_pay_24 : decode prog_7_method_24_code 24 = .ok (.iconst 2, 1) := by decide +kernel
theorem dX5_pay_25 : decode prog_7_method_24_code 25 = .ok (.goto 4, 3) := by decide +kernel
theorem dX5_pay_28 : decode prog_7_method_24_code 28 = .ok (.iconst 0, 1) := by decide +kernel
theorem dX5_pay_29 : decode prog_7_method_24_code 29 = .ok (.putfield 7, 3) := by decide +kernel
theorem dX5_pay_32 : decode prog_7_method_24_code 32 = .ok (.aload_n 0, 1) := by decide +kernel
theorem dX5_pay_33 : decode prog_7_method_24_code 33 = .ok (.getfield 7, 3) := by decide +kernel
theorem dX5_pay_36 : decode prog_7_method_24_code 36 = .ok (.ifCond .eq 5, 3) := by decide +kernel
theorem dX5_pay_39 : decode prog_7_method_24_code 39 = .ok (.iconst 0, 1) := by decide +kernel
theorem dX5_pay_40 : decode prog_7_method_24_code 40 = .ok (.ireturn, 1) := by decide +kernel
theorem dX5_pay_41 : decode prog_7_method_24_code 41 = .ok (.lload_n 2, 1) := by decide +kernel
theorem dX5_pay_42 : decode prog_7_method_24_code 42 = .ok (.lstore 4, 2) := by decide +kernel
theorem dX5_pay_44 : decode prog_7_method_24_code 44 = .ok (.iconst 0, 1) := by decide +kernel
theorem dX5_pay_45 : decode prog_7_method_24_code 45 = .ok (.istore 6, 2) := by decide +kernel
theorem dX5_pay_47 : decode prog_7_method_24_code 47 = .ok (.lload 4, 2) := by decide +kernel
theorem dX5_pay_49 : decode prog_7_method_24_code 49 = .ok (.lconst 0, 1) := by decide +kernel
theorem dX5_pay_50 : decode prog_7_method_24_code 50 = .ok (.lcmp, 1) := by decide +kernel
theorem dX5_pay_51 : decode prog_7_method_24_code 51 = .ok (.ifCond .le 134, 3) := by decide +kernel
theorem dX5_pay_54 : decode prog_7_method_24_code 54 = .ok (.iconst (-1), 1) := by decide +kernel
theorem dX5_pay_55 : decode prog_7_method_24_code 55 = .ok (.istore 7, 2) := by decide +kernel
theorem dX5_pay_57 : decode prog_7_method_24_code 57 = .ok (.iconst 0, 1) := by decide +kernel
theorem dX5_pay_58 : decode prog_7_method_24_code 58 = .ok (.istore 8, 2) := by decide +kernel
theorem dX5_pay_60 : decode prog_7_method_24_code 60 = .ok (.iload 8, 2) := by decide +kernel
theorem dX5_pay_62 : decode prog_7_method_24_code 62 = .ok (.aload_n 0, 1) := by decide +kernel
theorem dX5_pay_63 : decode prog_7_method_24_code 63 = .ok (.getfield 64, 3) := by decide +kernel
theorem dX5_pay_66 : decode prog_7_method_24_code 66 = .ok (.if_icmp .ge 68, 3) := by decide +kernel
theorem dX5_pay_69 : decode prog_7_method_24_code 69 = .ok (.aload_n 0, 1) := by decide +kernel
theorem dX5_pay_70 : decode prog_7_method_24_code 70 = .ok (.getfield 67, 3) := by decide +kernel
theorem dX5_pay_73 : decode prog_7_method_24_code 73 = .ok (.iload 8, 2) := by decide +kernel
theorem dX5_pay_75 : decode prog_7_method_24_code 75 = .ok (.iaload, 1) := by decide +kernel
theorem dX5_pay_76 : decode prog_7_method_24_code 76 = .ok (.iload_n 1, 1) := by decide +kernel
theorem dX5_pay_77 : decode prog_7_method_24_code 77 = .ok (.if_icmp .ne 51, 3) := by decide +kernel
theorem dX5_pay_80 : decode prog_7_method_24_code 80 = .ok (.aload_n 0, 1) := by decide +kernel
theorem dX5_pay_81 : decode prog_7_method_24_code 81 = .ok (.getfield 70, 3) := by decide +kernel
theorem dX5_pay_84 : decode prog_7_method_24_code 84 = .ok (.iload 8, 2) := by decide +kernel
theorem dX5_pay_86 : decode prog_7_method_24_code 86 = .ok (.laload, 1) := by decide +kernel
theorem dX5_pay_87 : decode prog_7_method_24_code 87 = .ok (.lconst 0, 1) := by decide +kernel
theorem dX5_pay_88 : decode prog_7_method_24_code 88 = .ok (.lcmp, 1) := by decide +kernel
theorem dX5_pay_89 : decode prog_7_method_24_code 89 = .ok (.ifCond .le 39, 3) := by decide +kernel
theorem dX5_pay_92 : decode prog_7_method_24_code 92 = .ok (.aload_n 0, 1) := by decide +kernel
theorem dX5_pay_93 : decode prog_7_method_24_code 93 = .ok (.getfield 79, 3) := by decide +kernel
theorem dX5_pay_96 : decode prog_7_method_24_code 96 = .ok (.iload 8, 2) := by decide +kernel
theorem dX5_pay_98 : decode prog_7_method_24_code 98 = .ok (.baload, 1) := by decide +kernel
theorem dX5_pay_99 : decode prog_7_method_24_code 99 = .ok (.ifCond .ne 29, 3) := by decide +kernel
theorem dX5_pay_102 : decode prog_7_method_24_code 102 = .ok (.iload 7, 2) := by decide +kernel
theorem dX5_pay_104 : decode prog_7_method_24_code 104 = .ok (.ifCond .lt 20, 3) := by decide +kernel
theorem dX5_pay_107 : decode prog_7_method_24_code 107 = .ok (.aload_n 0, 1) := by decide +kernel
theorem dX5_pay_108 : decode prog_7_method_24_code 108 = .ok (.getfield 73, 3) := by decide +kernel
theorem dX5_pay_111 : decode prog_7_method_24_code 111 = .ok (.iload 8, 2) := by decide +kernel
theorem dX5_pay_113 : decode prog_7_method_24_code 113 = .ok (.iaload, 1) := by decide +kernel
theorem dX5_pay_114 : decode prog_7_method_24_code 114 = .ok (.aload_n 0, 1) := by decide +kernel
theorem dX5_pay_115 : decode prog_7_method_24_code 115 = .ok (.getfield 73, 3) := by decide +kernel
theorem dX5_pay_118 : decode prog_7_method_24_code 118 = .ok (.iload 7, 2) := by decide +kernel
theorem dX5_pay_120 : decode prog_7_method_24_code 120 = .ok (.iaload, 1) := by decide +kernel
theorem dX5_pay_121 : decode prog_7_method_24_code 121 = .ok (.if_icmp .ge 7, 3) := by decide +kernel
theorem dX5_pay_124 : decode prog_7_method_24_code 124 = .ok (.iload 8, 2) := by decide +kernel
theorem dX5_pay_126 : decode prog_7_method_24_code 126 = .ok (.istore 7, 2) := by decide +kernel
theorem dX5_pay_128 : decode prog_7_method_24_code 128 = .ok (.iinc 8 1, 3) := by decide +kernel
theorem dX5_pay_131 : decode prog_7_method_24_code 131 = .ok (.goto (-71), 3) := by decide +kernel
theorem dX5_pay_134 : decode prog_7_method_24_code 134 = .ok (.iload 7, 2) := by decide +kernel
theorem dX5_pay_136 : decode prog_7_method_24_code 136 = .ok (.ifCond .ge 21, 3) := by decide +kernel
theorem dX5_pay_139 : decode prog_7_method_24_code 139 = .ok (.aload_n 0, 1) := by decide +kernel
theorem dX5_pay_140 : decode prog_7_method_24_code 140 = .ok (.getfield 26, 3) := by decide +kernel
theorem dX5_pay_143 : decode prog_7_method_24_code 143 = .ok (.iload_n 1, 1) := by decide +kernel
theorem dX5_pay_144 : decode prog_7_method_24_code 144 = .ok (.aload_n 0, 1) := by decide +kernel
theorem dX5_pay_145 : decode prog_7_method_24_code 145 = .ok (.getfield 26, 3) := by decide +kernel
theorem dX5_pay_148 : decode prog_7_method_24_code 148 = .ok (.iload_n 1, 1) := by decide +kernel
theorem dX5_pay_149 : decode prog_7_method_24_code 149 = .ok (.laload, 1) := by decide +kernel
theorem dX5_pay_150 : decode prog_7_method_24_code 150 = .ok (.lload 4, 2) := by decide +kernel
theorem dX5_pay_152 : decode prog_7_method_24_code 152 = .ok (.ladd, 1) := by decide +kernel
theorem dX5_pay_153 : decode prog_7_method_24_code 153 = .ok (.lastore, 1) := by decide +kernel
theorem dX5_pay_154 : decode prog_7_method_24_code 154 = .ok (.iload 6, 2) := by decide +kernel
theorem dX5_pay_156 : decode prog_7_method_24_code 156 = .ok (.ireturn, 1) := by decide +kernel
theorem dX5_pay_157 : decode prog_7_method_24_code 157 = .ok (.aload_n 0, 1) := by decide +kernel
theorem dX5_pay_158 : decode prog_7_method_24_code 158 = .ok (.iload 7, 2) := by decide +kernel
theorem dX5_pay_160 : decode prog_7_method_24_code 160 = .ok (.lload 4, 2) := by decide +kernel
theorem dX5_pay_162 : decode prog_7_method_24_code 162 = .ok (.invokevirtual 115, 3) := by decide +kernel
theorem dX5_pay_165 : decode prog_7_method_24_code 165 = .ok (.lstore 4, 2) := by decide +kernel
theorem dX5_pay_167 : decode prog_7_method_24_code 167 = .ok (.aload_n 0, 1) := by decide +kernel
theorem dX5_pay_168 : decode prog_7_method_24_code 168 = .ok (.getfield 70, 3) := by decide +kernel
theorem dX5_pay_171 : decode prog_7_method_24_code 171 = .ok (.iload 7, 2) := by decide +kernel
theorem dX5_pay_173 : decode prog_7_method_24_code 173 = .ok (.laload, 1) := by decide +kernel
theorem dX5_pay_174 : decode prog_7_method_24_code 174 = .ok (.lconst 0, 1) := by decide +kernel
theorem dX5_pay_175 : decode prog_7_method_24_code 175 = .ok (.lcmp, 1) := by decide +kernel
theorem dX5_pay_176 : decode prog_7_method_24_code 176 = .ok (.ifCond .ne 6, 3) := by decide +kernel
theorem dX5_pay_179 : decode prog_7_method_24_code 179 = .ok (.iinc 6 1, 3) := by decide +kernel
theorem dX5_pay_182 : decode prog_7_method_24_code 182 = .ok (.goto (-135), 3) := by decide +kernel
theorem dX5_pay_185 : decode prog_7_method_24_code 185 = .ok (.iload 6, 2) := by decide +kernel
theorem dX5_pay_187 : decode prog_7_method_24_code 187 = .ok (.ireturn, 1) := by decide +kernel
theorem dX5_settle_0 : decode prog_7_method_25_code 0 = .ok (.aload_n 0, 1) := by decide +kernel
theorem dX5_settle_1 : decode prog_7_method_25_code 1 = .ok (.aload_n 0, 1) := by decide +kernel
theorem dX5_settle_2 : decode prog_7_method_25_code 2 = .ok (.iload_n 1, 1) := by decide +kernel
theorem dX5_settle_3 : decode prog_7_method_25_code 3 = .ok (.invokevirtual 119, 3) := by decide +kernel
theorem dX5_settle_6 : decode prog_7_method_25_code 6 = .ok (.ifCond .eq 7, 3) := by decide +kernel
theorem dX5_settle_9 : decode prog_7_method_25_code 9 = .ok (.iconst 1, 1) := by decide +kernel
theorem dX5_settle_10 : decode prog_7_method_25_code 10 = .ok (.goto 19, 3) := by decide +kernel
theorem dX5_settle_13 : decode prog_7_method_25_code 13 = .ok (.lload_n 2, 1) := by decide +kernel
theorem dX5_settle_14 : decode prog_7_method_25_code 14 = .ok (.lconst 1, 1) := by decide +kernel
theorem dX5_settle_15 : decode prog_7_method_25_code 15 = .ok (.ldc2_w 107, 3) := by decide +kernel
theorem dX5_settle_18 : decode prog_7_method_25_code 18 = .ok (.invokestatic 94, 3) := by decide +kernel
theorem dX5_settle_21 : decode prog_7_method_25_code 21 = .ok (.ifCond .eq 7, 3) := by decide +kernel
theorem dX5_settle_24 : decode prog_7_method_25_code 24 = .ok (.iconst 2, 1) := by decide +kernel
theorem dX5_settle_25 : decode prog_7_method_25_code 25 = .ok (.goto 4, 3) := by decide +kernel
theorem dX5_settle_28 : decode prog_7_method_25_code 28 = .ok (.iconst 0, 1) := by decide +kernel
theorem dX5_settle_29 : decode prog_7_method_25_code 29 = .ok (.putfield 7, 3) := by decide +kernel
theorem dX5_settle_32 : decode prog_7_method_25_code 32 = .ok (.aload_n 0, 1) := by decide +kernel
theorem dX5_settle_33 : decode prog_7_method_25_code 33 = .ok (.getfield 7, 3) := by decide +kernel
theorem dX5_settle_36 : decode prog_7_method_25_code 36 = .ok (.ifCond .eq 5, 3) := by decide +kernel
theorem dX5_settle_39 : decode prog_7_method_25_code 39 = .ok (.lconst 0, 1) := by decide +kernel
theorem dX5_settle_40 : decode prog_7_method_25_code 40 = .ok (.lreturn, 1) := by decide +kernel
theorem dX5_settle_41 : decode prog_7_method_25_code 41 = .ok (.aload_n 0, 1) := by decide +kernel
theorem dX5_settle_42 : decode prog_7_method_25_code 42 = .ok (.getfield 67, 3) := by decide +kernel
theorem dX5_settle_45 : decode prog_7_method_25_code 45 = .ok (.iload_n 1, 1) := by decide +kernel
theorem dX5_settle_46 : decode prog_7_method_25_code 46 = .ok (.iconst 1, 1) := by decide +kernel
theorem dX5_settle_47 : decode prog_7_method_25_code 47 = .ok (.isub, 1) := by decide +kernel
theorem dX5_settle_48 : decode prog_7_method_25_code 48 = .ok (.iaload, 1) := by decide +kernel
theorem dX5_settle_49 : decode prog_7_method_25_code 49 = .ok (.istore 4, 2) := by decide +kernel
theorem dX5_settle_51 : decode prog_7_method_25_code 51 = .ok (.aload_n 0, 1) := by decide +kernel
theorem dX5_settle_52 : decode prog_7_method_25_code 52 = .ok (.getfield 26, 3) := by decide +kernel
theorem dX5_settle_55 : decode prog_7_method_25_code 55 = .ok (.iload 4, 2) := by decide +kernel
theorem dX5_settle_57 : decode prog_7_method_25_code 57 = .ok (.aload_n 0, 1) := by decide +kernel
theorem dX5_settle_58 : decode prog_7_method_25_code 58 = .ok (.getfield 26, 3) := by decide +kernel
theorem dX5_settle_61 : decode prog_7_method_25_code 61 = .ok (.iload 4, 2) := by decide +kernel
theorem dX5_settle_63 : decode prog_7_method_25_code 63 = .ok (.laload, 1) := by decide +kernel
theorem dX5_settle_64 : decode prog_7_method_25_code 64 = .ok (.aload_n 0, 1) := by decide +kernel
theorem dX5_settle_65 : decode prog_7_method_25_code 65 = .ok (.iload_n 1, 1) := by decide +kernel
theorem dX5_settle_66 : decode prog_7_method_25_code 66 = .ok (.iconst 1, 1) := by decide +kernel
theorem dX5_settle_67 : decode prog_7_method_25_code 67 = .ok (.isub, 1) := by decide +kernel
theorem dX5_settle_68 : decode prog_7_method_25_code 68 = .ok (.lload_n 2, 1) := by decide +kernel
theorem dX5_settle_69 : decode prog_7_method_25_code 69 = .ok (.invokevirtual 115, 3) := by decide +kernel
theorem dX5_settle_72 : decode prog_7_method_25_code 72 = .ok (.ladd, 1) := by decide +kernel
theorem dX5_settle_73 : decode prog_7_method_25_code 73 = .ok (.lastore, 1) := by decide +kernel
theorem dX5_settle_74 : decode prog_7_method_25_code 74 = .ok (.aload_n 0, 1) := by decide +kernel
theorem dX5_settle_75 : decode prog_7_method_25_code 75 = .ok (.getfield 70, 3) := by decide +kernel
theorem dX5_settle_78 : decode prog_7_method_25_code 78 = .ok (.iload_n 1, 1) := by decide +kernel
theorem dX5_settle_79 : decode prog_7_method_25_code 79 = .ok (.iconst 1, 1) := by decide +kernel
theorem dX5_settle_80 : decode prog_7_method_25_code 80 = .ok (.isub, 1) := by decide +kernel
theorem dX5_settle_81 : decode prog_7_method_25_code 81 = .ok (.laload, 1) := by decide +kernel
theorem dX5_settle_82 : decode prog_7_method_25_code 82 = .ok (.lreturn, 1) := by decide +kernel
theorem dX5_dispute_0 : decode prog_7_method_26_code 0 = .ok (.aload_n 0, 1) := by decide +kernel
theorem dX5_dispute_1 : decode prog_7_method_26_code 1 = .ok (.aload_n 0, 1) := by decide +kernel
theorem dX5_dispute_2 : decode prog_7_method_26_code 2 = .ok (.iload_n 1, 1) := by decide +kernel
theorem dX5_dispute_3 : decode prog_7_method_26_code 3 = .ok (.invokevirtual 119, 3) := by decide +kernel
theorem dX5_dispute_6 : decode prog_7_method_26_code 6 = .ok (.ifCond .eq 7, 3) := by decide +kernel
theorem dX5_dispute_9 : decode prog_7_method_26_code 9 = .ok (.iconst 1, 1) := by decide +kernel
theorem dX5_dispute_10 : decode prog_7_method_26_code 10 = .ok (.goto 20, 3) := by decide +kernel
theorem dX5_dispute_13 : decode prog_7_method_26_code 13 = .ok (.aload_n 0, 1) := by decide +kernel
theorem dX5_dispute_14 : decode prog_7_method_26_code 14 = .ok (.getfield 79, 3) := by decide +kernel
theorem dX5_dispute_17 : decode prog_7_method_26_code 17 = .ok (.iload_n 1, 1) := by decide +kernel
theorem dX5_dispute_18 : decode prog_7_method_26_code 18 = .ok (.iconst 1, 1) := by decide +kernel
theorem dX5_dispute_19 : decode prog_7_method_26_code 19 = .ok (.isub, 1) := by decide +kernel
theorem dX5_dispute_20 : decode prog_7_method_26_code 20 = .ok (.baload, 1) := by decide +kernel
theorem dX5_dispute_21 : decode prog_7_method_26_code 21 = .ok (.iload_n 2, 1) := by decide +kernel
theorem dX5_dispute_22 : decode prog_7_method_26_code 22 = .ok (.if_icmp .ne 7, 3) := by decide +kernel
theorem dX5_dispute_25 : decode prog_7_method_26_code 25 = .ok (.iconst 2, 1) := by decide +kernel
theorem dX5_dispute_26 : decode prog_7_method_26_code 26 = .ok (.goto 4, 3) := by decide +kernel
theorem dX5_dispute_29 : decode prog_7_method_26_code 29 = .ok (.iconst 0, 1) := by decide +kernel
theorem dX5_dispute_30 : decode prog_7_method_26_code 30 = .ok (.putfield 7, 3) := by decide +kernel
theorem dX5_dispute_33 : decode prog_7_method_26_code 33 = .ok (.aload_n 0, 1) := by decide +kernel
theorem dX5_dispute_34 : decode prog_7_method_26_code 34 = .ok (.getfield 7, 3) := by decide +kernel
theorem dX5_dispute_37 : decode prog_7_method_26_code 37 = .ok (.ifCond .eq 5, 3) := by decide +kernel
theorem dX5_dispute_40 : decode prog_7_method_26_code 40 = .ok (.lconst 0, 1) := by decide +kernel
theorem dX5_dispute_41 : decode prog_7_method_26_code 41 = .ok (.lreturn, 1) := by decide +kernel
theorem dX5_dispute_42 : decode prog_7_method_26_code 42 = .ok (.aload_n 0, 1) := by decide +kernel
theorem dX5_dispute_43 : decode prog_7_method_26_code 43 = .ok (.getfield 79, 3) := by decide +kernel
theorem dX5_dispute_46 : decode prog_7_method_26_code 46 = .ok (.iload_n 1, 1) := by decide +kernel
theorem dX5_dispute_47 : decode prog_7_method_26_code 47 = .ok (.iconst 1, 1) := by decide +kernel
theorem dX5_dispute_48 : decode prog_7_method_26_code 48 = .ok (.isub, 1) := by decide +kernel
theorem dX5_dispute_49 : decode prog_7_method_26_code 49 = .ok (.iload_n 2, 1) := by decide +kernel
theorem dX5_dispute_50 : decode prog_7_method_26_code 50 = .ok (.bastore, 1) := by decide +kernel
theorem dX5_dispute_51 : decode prog_7_method_26_code 51 = .ok (.aload_n 0, 1) := by decide +kernel
theorem dX5_dispute_52 : decode prog_7_method_26_code 52 = .ok (.getfield 70, 3) := by decide +kernel
theorem dX5_dispute_55 : decode prog_7_method_26_code 55 = .ok (.iload_n 1, 1) := by decide +kernel
theorem dX5_dispute_56 : decode prog_7_method_26_code 56 = .ok (.iconst 1, 1) := by decide +kernel
theorem dX5_dispute_57 : decode prog_7_method_26_code 57 = .ok (.isub, 1) := by decide +kernel
theorem dX5_dispute_58 : decode prog_7_method_26_code 58 = .ok (.laload, 1) := by decide +kernel
theorem dX5_dispute_59 : decode prog_7_method_26_code 59 = .ok (.lreturn, 1) := by decide +kernel
theorem dX5_dun_0 : decode prog_7_method_27_code 0 = .ok (.aload_n 0, 1) := by decide +kernel
theorem dX5_dun_1 : decode prog_7_method_27_code 1 = .ok (.aload_n 0, 1) := by decide +kernel
theorem dX5_dun_2 : decode prog_7_method_27_code 2 = .ok (.iload_n 1, 1) := by decide +kernel
theorem dX5_dun_3 : decode prog_7_method_27_code 3 = .ok (.invokevirtual 119, 3) := by decide +kernel
theorem dX5_dun_6 : decode prog_7_method_27_code 6 = .ok (.ifCond .eq 7, 3) := by decide +kernel
theorem dX5_dun_9 : decode prog_7_method_27_code 9 = .ok (.iconst 1, 1) := by decide +kernel
theorem dX5_dun_10 : decode prog_7_method_27_code 10 = .ok (.goto 30, 3) := by decide +kernel
theorem dX5_dun_13 : decode prog_7_method_27_code 13 = .ok (.aload_n 0, 1) := by decide +kernel
theorem dX5_dun_14 : decode prog_7_method_27_code 14 = .ok (.iload_n 1, 1) := by decide +kernel
theorem dX5_dun_15 : decode prog_7_method_27_code 15 = .ok (.iconst 1, 1) := by decide +kernel
theorem dX5_dun_16 : decode prog_7_method_27_code 16 = .ok (.isub, 1) := by decide +kernel
theorem dX5_dun_17 : decode prog_7_method_27_code 17 = .ok (.invokevirtual 85, 3) := by decide +kernel
theorem dX5_dun_20 : decode prog_7_method_27_code 20 = .ok (.ifCond .eq 15, 3) := by decide +kernel
theorem dX5_dun_23 : decode prog_7_method_27_code 23 = .ok (.aload_n 0, 1) := by decide +kernel
theorem dX5_dun_24 : decode prog_7_method_27_code 24 = .ok (.getfield 76, 3) := by decide +kernel
theorem dX5_dun_27 : decode prog_7_method_27_code 27 = .ok (.iload_n 1, 1) := by decide +kernel
theorem dX5_dun_28 : decode prog_7_method_27_code 28 = .ok (.iconst 1, 1) := by decide +kernel
theorem dX5_dun_29 : decode prog_7_method_27_code 29 = .ok (.isub, 1) := by decide +kernel
theorem dX5_dun_30 : decode prog_7_method_27_code 30 = .ok (.iaload, 1) := by decide +kernel
theorem dX5_dun_31 : decode prog_7_method_27_code 31 = .ok (.iconst 3, 1) := by decide +kernel
theorem dX5_dun_32 : decode prog_7_method_27_code 32 = .ok (.if_icmp .ne 7, 3) := by decide +kernel
theorem dX5_dun_35 : decode prog_7_method_27_code 35 = .ok (.iconst 2, 1) := by decide +kernel
theorem dX5_dun_36 : decode prog_7_method_27_code 36 = .ok (.goto 4, 3) := by decide +kernel
theorem dX5_dun_39 : decode prog_7_method_27_code 39 = .ok (.iconst 0, 1) := by decide +kernel
theorem dX5_dun_40 : decode prog_7_method_27_code 40 = .ok (.putfield 7, 3) := by decide +kernel
theorem dX5_dun_43 : decode prog_7_method_27_code 43 = .ok (.aload_n 0, 1) := by decide +kernel
theorem dX5_dun_44 : decode prog_7_method_27_code 44 = .ok (.getfield 7, 3) := by decide +kernel
theorem dX5_dun_47 : decode prog_7_method_27_code 47 = .ok (.ifCond .eq 5, 3) := by decide +kernel
theorem dX5_dun_50 : decode prog_7_method_27_code 50 = .ok (.iconst 0, 1) := by decide +kernel
theorem dX5_dun_51 : decode prog_7_method_27_code 51 = .ok (.ireturn, 1) := by decide +kernel
theorem dX5_dun_52 : decode prog_7_method_27_code 52 = .ok (.aload_n 0, 1) := by decide +kernel
theorem dX5_dun_53 : decode prog_7_method_27_code 53 = .ok (.getfield 76, 3) := by decide +kernel
theorem dX5_dun_56 : decode prog_7_method_27_code 56 = .ok (.iload_n 1, 1) := by decide +kernel
theorem dX5_dun_57 : decode prog_7_method_27_code 57 = .ok (.iconst 1, 1) := by decide +kernel
theorem dX5_dun_58 : decode prog_7_method_27_code 58 = .ok (.isub, 1) := by decide +kernel
theorem dX5_dun_59 : decode prog_7_method_27_code 59 = .ok (.aload_n 0, 1) := by decide +kernel
theorem dX5_dun_60 : decode prog_7_method_27_code 60 = .ok (.getfield 76, 3) := by decide +kernel
theorem dX5_dun_63 : decode prog_7_method_27_code 63 = .ok (.iload_n 1, 1) := by decide +kernel
theorem dX5_dun_64 : decode prog_7_method_27_code 64 = .ok (.iconst 1, 1) := by decide +kernel
theorem dX5_dun_65 : decode prog_7_method_27_code 65 = .ok (.isub, 1) := by decide +kernel
theorem dX5_dun_66 : decode prog_7_method_27_code 66 = .ok (.iaload, 1) := by decide +kernel
theorem dX5_dun_67 : decode prog_7_method_27_code 67 = .ok (.iconst 1, 1) := by decide +kernel
theorem dX5_dun_68 : decode prog_7_method_27_code 68 = .ok (.iadd, 1) := by decide +kernel
theorem dX5_dun_69 : decode prog_7_method_27_code 69 = .ok (.iastore, 1) := by decide +kernel
theorem dX5_dun_70 : decode prog_7_method_27_code 70 = .ok (.aload_n 0, 1) := by decide +kernel
theorem dX5_dun_71 : decode prog_7_method_27_code 71 = .ok (.getfield 76, 3) := by decide +kernel
theorem dX5_dun_74 : decode prog_7_method_27_code 74 = .ok (.iload_n 1, 1) := by decide +kernel
theorem dX5_dun_75 : decode prog_7_method_27_code 75 = .ok (.iconst 1, 1) := by decide +kernel
theorem dX5_dun_76 : decode prog_7_method_27_code 76 = .ok (.isub, 1) := by decide +kernel
theorem dX5_dun_77 : decode prog_7_method_27_code 77 = .ok (.iaload, 1) := by decide +kernel
theorem dX5_dun_78 : decode prog_7_method_27_code 78 = .ok (.iconst 3, 1) := by decide +kernel
theorem dX5_dun_79 : decode prog_7_method_27_code 79 = .ok (.if_icmp .ne 17, 3) := by decide +kernel
theorem dX5_dun_82 : decode prog_7_method_27_code 82 = .ok (.aload_n 0, 1) := by decide +kernel
theorem dX5_dun_83 : decode prog_7_method_27_code 83 = .ok (.getfield 22, 3) := by decide +kernel
theorem dX5_dun_86 : decode prog_7_method_27_code 86 = .ok (.aload_n 0, 1) := by decide +kernel
theorem dX5_dun_87 : decode prog_7_method_27_code 87 = .ok (.getfield 67, 3) := by decide +kernel
theorem dX5_dun_90 : decode prog_7_method_27_code 90 = .ok (.iload_n 1, 1) := by decide +kernel
theorem dX5_dun_91 : decode prog_7_method_27_code 91 = .ok (.iconst 1, 1) := by decide +kernel
theorem dX5_dun_92 : decode prog_7_method_27_code 92 = .ok (.isub, 1) := by decide +kernel
theorem dX5_dun_93 : decode prog_7_method_27_code 93 = .ok (.iaload, 1) := by decide +kernel
theorem dX5_dun_94 : decode prog_7_method_27_code 94 = .ok (.iconst 1, 1) := by decide +kernel
theorem dX5_dun_95 : decode prog_7_method_27_code 95 = .ok (.bastore, 1) := by decide +kernel
theorem dX5_dun_96 : decode prog_7_method_27_code 96 = .ok (.aload_n 0, 1) := by decide +kernel
theorem dX5_dun_97 : decode prog_7_method_27_code 97 = .ok (.getfield 76, 3) := by decide +kernel
theorem dX5_dun_100 : decode prog_7_method_27_code 100 = .ok (.iload_n 1, 1) := by decide +kernel
theorem dX5_dun_101 : decode prog_7_method_27_code 101 = .ok (.iconst 1, 1) := by decide +kernel
theorem dX5_dun_102 : decode prog_7_method_27_code 102 = .ok (.isub, 1) := by decide +kernel
theorem dX5_dun_103 : decode prog_7_method_27_code 103 = .ok (.iaload, 1) := by decide +kernel
theorem dX5_dun_104 : decode prog_7_method_27_code 104 = .ok (.ireturn, 1) := by decide +kernel
theorem dX5_rate_0 : decode prog_7_method_28_code 0 = .ok (.aload_n 0, 1) := by decide +kernel
theorem dX5_rate_1 : decode prog_7_method_28_code 1 = .ok (.iload_n 1, 1) := by decide +kernel
theorem dX5_rate_2 : decode prog_7_method_28_code 2 = .ok (.i2l, 1) := by decide +kernel
theorem dX5_rate_3 : decode prog_7_method_28_code 3 = .ok (.lconst 0, 1) := by decide +kernel
theorem dX5_rate_4 : decode prog_7_method_28_code 4 = .ok (.ldc2_w 122, 3) := by decide +kernel
theorem dX5_rate_7 : decode prog_7_method_28_code 7 = .ok (.invokestatic 94, 3) := by decide +kernel
theorem dX5_rate_10 : decode prog_7_method_28_code 10 = .ok (.ifCond .eq 7, 3) := by decide +kernel
theorem dX5_rate_13 : decode prog_7_method_28_code 13 = .ok (.iconst 1, 1) := by decide +kernel
theorem dX5_rate_14 : decode prog_7_method_28_code 14 = .ok (.goto 4, 3) := by decide +kernel
theorem dX5_rate_17 : decode prog_7_method_28_code 17 = .ok (.iconst 0, 1) := by decide +kernel
theorem dX5_rate_18 : decode prog_7_method_28_code 18 = .ok (.putfield 7, 3) := by decide +kernel
theorem dX5_rate_21 : decode prog_7_method_28_code 21 = .ok (.aload_n 0, 1) := by decide +kernel
theorem dX5_rate_22 : decode prog_7_method_28_code 22 = .ok (.getfield 7, 3) := by decide +kernel
theorem dX5_rate_25 : decode prog_7_method_28_code 25 = .ok (.ifCond .ne 8, 3) := by decide +kernel
theorem dX5_rate_28 : decode prog_7_method_28_code 28 = .ok (.aload_n 0, 1) := by decide +kernel
theorem dX5_rate_29 : decode prog_7_method_28_code 29 = .ok (.iload_n 1, 1) := by decide +kernel
theorem dX5_rate_30 : decode prog_7_method_28_code 30 = .ok (.putfield 82, 3) := by decide +kernel
theorem dX5_rate_33 : decode prog_7_method_28_code 33 = .ok (.return_, 1) := by decide +kernel
theorem dX5_interest_0 : decode prog_7_method_29_code 0 = .ok (.aload_n 0, 1) := by decide +kernel
theorem dX5_interest_1 : decode prog_7_method_29_code 1 = .ok (.aload_n 0, 1) := by decide +kernel
theorem dX5_interest_2 : decode prog_7_method_29_code 2 = .ok (.iload_n 1, 1) := by decide +kernel
theorem dX5_interest_3 : decode prog_7_method_29_code 3 = .ok (.invokevirtual 119, 3) := by decide +kernel
theorem dX5_interest_6 : decode prog_7_method_29_code 6 = .ok (.ifCond .eq 7, 3) := by decide +kernel
theorem dX5_interest_9 : decode prog_7_method_29_code 9 = .ok (.iconst 1, 1) := by decide +kernel
theorem dX5_interest_10 : decode prog_7_method_29_code 10 = .ok (.goto 18, 3) := by decide +kernel
theorem dX5_interest_13 : decode prog_7_method_29_code 13 = .ok (.iload_n 2, 1) := by decide +kernel
theorem dX5_interest_14 : decode prog_7_method_29_code 14 = .ok (.i2l, 1) := by decide +kernel
theorem dX5_interest_15 : decode prog_7_method_29_code 15 = .ok (.lconst 0, 1) := by decide +kernel
theorem dX5_interest_16 : decode prog_7_method_29_code 16 = .ok (.lconst 1, 1) := by decide +kernel
theorem dX5_interest_17 : decode prog_7_method_29_code 17 = .ok (.invokestatic 94, 3) := by decide +kernel
theorem dX5_interest_20 : decode prog_7_method_29_code 20 = .ok (.ifCond .eq 7, 3) := by decide +kernel
theorem dX5_interest_23 : decode prog_7_method_29_code 23 = .ok (.iconst 2, 1) := by decide +kernel
theorem dX5_interest_24 : decode prog_7_method_29_code 24 = .ok (.goto 4, 3) := by decide +kernel
theorem dX5_interest_27 : decode prog_7_method_29_code 27 = .ok (.iconst 0, 1) := by decide +kernel
theorem dX5_interest_28 : decode prog_7_method_29_code 28 = .ok (.putfield 7, 3) := by decide +kernel
theorem dX5_interest_31 : decode prog_7_method_29_code 31 = .ok (.aload_n 0, 1) := by decide +kernel
theorem dX5_interest_32 : decode prog_7_method_29_code 32 = .ok (.getfield 7, 3) := by decide +kernel
theorem dX5_interest_35 : decode prog_7_method_29_code 35 = .ok (.ifCond .eq 5, 3) := by decide +kernel
theorem dX5_interest_38 : decode prog_7_method_29_code 38 = .ok (.lconst 0, 1) := by decide +kernel
theorem dX5_interest_39 : decode prog_7_method_29_code 39 = .ok (.lreturn, 1) := by decide +kernel
theorem dX5_interest_40 : decode prog_7_method_29_code 40 = .ok (.aload_n 0, 1) := by decide +kernel
theorem dX5_interest_41 : decode prog_7_method_29_code 41 = .ok (.iload_n 1, 1) := by decide +kernel
theorem dX5_interest_42 : decode prog_7_method_29_code 42 = .ok (.iconst 1, 1) := by decide +kernel
theorem dX5_interest_43 : decode prog_7_method_29_code 43 = .ok (.isub, 1) := by decide +kernel
theorem dX5_interest_44 : decode prog_7_method_29_code 44 = .ok (.invokevirtual 85, 3) := by decide +kernel
theorem dX5_interest_47 : decode prog_7_method_29_code 47 = .ok (.ifCond .eq 35, 3) := by decide +kernel
theorem dX5_interest_50 : decode prog_7_method_29_code 50 = .ok (.aload_n 0, 1) := by decide +kernel
theorem dX5_interest_51 : decode prog_7_method_29_code 51 = .ok (.getfield 70, 3) := by decide +kernel
theorem dX5_interest_54 : decode prog_7_method_29_code 54 = .ok (.iload_n 1, 1) := by decide +kernel
theorem dX5_interest_55 : decode prog_7_method_29_code 55 = .ok (.iconst 1, 1) := by decide +kernel
theorem dX5_interest_56 : decode prog_7_method_29_code 56 = .ok (.isub, 1) := by decide +kernel
theorem dX5_interest_57 : decode prog_7_method_29_code 57 = .ok (.laload, 1) := by decide +kernel
theorem dX5_interest_58 : decode prog_7_method_29_code 58 = .ok (.aload_n 0, 1) := by decide +kernel
theorem dX5_interest_59 : decode prog_7_method_29_code 59 = .ok (.getfield 13, 3) := by decide +kernel
theorem dX5_interest_62 : decode prog_7_method_29_code 62 = .ok (.aload_n 0, 1) := by decide +kernel
theorem dX5_interest_63 : decode prog_7_method_29_code 63 = .ok (.getfield 73, 3) := by decide +kernel
theorem dX5_interest_66 : decode prog_7_method_29_code 66 = .ok (.iload_n 1, 1) := by decide +kernel
theorem dX5_interest_67 : decode prog_7_method_29_code 67 = .ok (.iconst 1, 1) := by decide +kernel
theorem dX5_interest_68 : decode prog_7_method_29_code 68 = .ok (.isub, 1) := by decide +kernel
theorem dX5_interest_69 : decode prog_7_method_29_code 69 = .ok (.iaload, 1) := by decide +kernel
theorem dX5_interest_70 : decode prog_7_method_29_code 70 = .ok (.isub, 1) := by decide +kernel
theorem dX5_interest_71 : decode prog_7_method_29_code 71 = .ok (.i2l, 1) := by decide +kernel
theorem dX5_interest_72 : decode prog_7_method_29_code 72 = .ok (.lmul, 1) := by decide +kernel
theorem dX5_interest_73 : decode prog_7_method_29_code 73 = .ok (.aload_n 0, 1) := by decide +kernel
theorem dX5_interest_74 : decode prog_7_method_29_code 74 = .ok (.getfield 82, 3) := by decide +kernel
theorem dX5_interest_77 : decode prog_7_method_29_code 77 = .ok (.i2l, 1) := by decide +kernel
theorem dX5_interest_78 : decode prog_7_method_29_code 78 = .ok (.lmul, 1) := by decide +kernel
theorem dX5_interest_79 : decode prog_7_method_29_code 79 = .ok (.goto 4, 3) := by decide +kernel
theorem dX5_interest_82 : decode prog_7_method_29_code 82 = .ok (.lconst 0, 1) := by decide +kernel
theorem dX5_interest_83 : decode prog_7_method_29_code 83 = .ok (.lstore_n 3, 1) := by decide +kernel
theorem dX5_interest_84 : decode prog_7_method_29_code 84 = .ok (.lload_n 3, 1) := by decide +kernel
theorem dX5_interest_85 : decode prog_7_method_29_code 85 = .ok (.lstore 5, 2) := by decide +kernel
theorem dX5_interest_87 : decode prog_7_method_29_code 87 = .ok (.ldc2_w 124, 3) := by decide +kernel
theorem dX5_interest_90 : decode prog_7_method_29_code 90 = .ok (.lstore 7, 2) := by decide +kernel
theorem dX5_interest_92 : decode prog_7_method_29_code 92 = .ok (.lload 5, 2) := by decide +kernel
theorem dX5_interest_94 : decode prog_7_method_29_code 94 = .ok (.lconst 0, 1) := by decide +kernel
theorem dX5_interest_95 : decode prog_7_method_29_code 95 = .ok (.lcmp, 1) := by decide +kernel
theorem dX5_interest_96 : decode prog_7_method_29_code 96 = .ok (.ifCond .eq 21, 3) := by decide +kernel
theorem dX5_interest_99 : decode prog_7_method_29_code 99 = .ok (.lload 7, 2) := by decide +kernel
theorem dX5_interest_101 : decode prog_7_method_29_code 101 = .ok (.lload 5, 2) := by decide +kernel
theorem dX5_interest_103 : decode prog_7_method_29_code 103 = .ok (.lrem, 1) := by decide +kernel
theorem dX5_interest_104 : decode prog_7_method_29_code 104 = .ok (.lstore 9, 2) := by decide +kernel
theorem dX5_interest_106 : decode prog_7_method_29_code 106 = .ok (.lload 5, 2) := by decide +kernel
theorem dX5_interest_108 : decode prog_7_method_29_code 108 = .ok (.lstore 7, 2) := by decide +kernel
theorem dX5_interest_110 : decode prog_7_method_29_code 110 = .ok (.lload 9, 2) := by decide +kernel
theorem dX5_interest_112 : decode prog_7_method_29_code 112 = .ok (.lstore 5, 2) := by decide +kernel
theorem dX5_interest_114 : decode prog_7_method_29_code 114 = .ok (.goto (-22), 3) := by decide +kernel
theorem dX5_interest_117 : decode prog_7_method_29_code 117 = .ok (.iload_n 2, 1) := by decide +kernel
theorem dX5_interest_118 : decode prog_7_method_29_code 118 = .ok (.ifCond .ne 10, 3) := by decide +kernel
theorem dX5_interest_121 : decode prog_7_method_29_code 121 = .ok (.lload_n 3, 1) := by decide +kernel
theorem dX5_interest_122 : decode prog_7_method_29_code 122 = .ok (.lload 7, 2) := by decide +kernel
theorem dX5_interest_124 : decode prog_7_method_29_code 124 = .ok (.ldiv, 1) := by decide +kernel
theorem dX5_interest_125 : decode prog_7_method_29_code 125 = .ok (.goto 9, 3) := by decide +kernel
theorem dX5_interest_128 : decode prog_7_method_29_code 128 = .ok (.ldc2_w 124, 3) := by decide +kernel
theorem dX5_interest_131 : decode prog_7_method_29_code 131 = .ok (.lload 7, 2) := by decide +kernel
theorem dX5_interest_133 : decode prog_7_method_29_code 133 = .ok (.ldiv, 1) := by decide +kernel
theorem dX5_interest_134 : decode prog_7_method_29_code 134 = .ok (.lreturn, 1) := by decide +kernel
theorem dX5_hold_0 : decode prog_7_method_30_code 0 = .ok (.aload_n 0, 1) := by decide +kernel
theorem dX5_hold_1 : decode prog_7_method_30_code 1 = .ok (.aload_n 0, 1) := by decide +kernel
theorem dX5_hold_2 : decode prog_7_method_30_code 2 = .ok (.iload_n 1, 1) := by decide +kernel
theorem dX5_hold_3 : decode prog_7_method_30_code 3 = .ok (.invokevirtual 89, 3) := by decide +kernel
theorem dX5_hold_6 : decode prog_7_method_30_code 6 = .ok (.ifCond .eq 7, 3) := by decide +kernel
theorem dX5_hold_9 : decode prog_7_method_30_code 9 = .ok (.iconst 1, 1) := by decide +kernel
theorem dX5_hold_10 : decode prog_7_method_30_code 10 = .ok (.goto 18, 3) := by decide +kernel
theorem dX5_hold_13 : decode prog_7_method_30_code 13 = .ok (.aload_n 0, 1) := by decide +kernel
theorem dX5_hold_14 : decode prog_7_method_30_code 14 = .ok (.getfield 22, 3) := by decide +kernel
theorem dX5_hold_17 : decode prog_7_method_30_code 17 = .ok (.iload_n 1, 1) := by decide +kernel
theorem dX5_hold_18 : decode prog_7_method_30_code 18 = .ok (.baload, 1) := by decide +kernel
theorem dX5_hold_19 : decode prog_7_method_30_code 19 = .ok (.iload_n 2, 1) := by decide +kernel
theorem dX5_hold_20 : decode prog_7_method_30_code 20 = .ok (.if_icmp .ne 7, 3) := by decide +kernel
theorem dX5_hold_23 : decode prog_7_method_30_code 23 = .ok (.iconst 2, 1) := by decide +kernel
theorem dX5_hold_24 : decode prog_7_method_30_code 24 = .ok (.goto 4, 3) := by decide +kernel
theorem dX5_hold_27 : decode prog_7_method_30_code 27 = .ok (.iconst 0, 1) := by decide +kernel
theorem dX5_hold_28 : decode prog_7_method_30_code 28 = .ok (.putfield 7, 3) := by decide +kernel
theorem dX5_hold_31 : decode prog_7_method_30_code 31 = .ok (.aload_n 0, 1) := by decide +kernel
theorem dX5_hold_32 : decode prog_7_method_30_code 32 = .ok (.getfield 7, 3) := by decide +kernel
theorem dX5_hold_35 : decode prog_7_method_30_code 35 = .ok (.ifCond .eq 5, 3) := by decide +kernel
theorem dX5_hold_38 : decode prog_7_method_30_code 38 = .ok (.iconst 0, 1) := by decide +kernel
theorem dX5_hold_39 : decode prog_7_method_30_code 39 = .ok (.ireturn, 1) := by decide +kernel
theorem dX5_hold_40 : decode prog_7_method_30_code 40 = .ok (.aload_n 0, 1) := by decide +kernel
theorem dX5_hold_41 : decode prog_7_method_30_code 41 = .ok (.getfield 22, 3) := by decide +kernel
theorem dX5_hold_44 : decode prog_7_method_30_code 44 = .ok (.iload_n 1, 1) := by decide +kernel
theorem dX5_hold_45 : decode prog_7_method_30_code 45 = .ok (.iload_n 2, 1) := by decide +kernel
theorem dX5_hold_46 : decode prog_7_method_30_code 46 = .ok (.bastore, 1) := by decide +kernel
theorem dX5_hold_47 : decode prog_7_method_30_code 47 = .ok (.aload_n 0, 1) := by decide +kernel
theorem dX5_hold_48 : decode prog_7_method_30_code 48 = .ok (.iload_n 1, 1) := by decide +kernel
theorem dX5_hold_49 : decode prog_7_method_30_code 49 = .ok (.invokevirtual 126, 3) := by decide +kernel
theorem dX5_hold_52 : decode prog_7_method_30_code 52 = .ok (.ireturn, 1) := by decide +kernel
theorem dX5_told_0 : decode prog_7_method_31_code 0 = .ok (.aload_n 0, 1) := by decide +kernel
theorem dX5_told_1 : decode prog_7_method_31_code 1 = .ok (.aload_n 0, 1) := by decide +kernel
theorem dX5_told_2 : decode prog_7_method_31_code 2 = .ok (.iload_n 1, 1) := by decide +kernel
theorem dX5_told_3 : decode prog_7_method_31_code 3 = .ok (.invokevirtual 102, 3) := by decide +kernel
theorem dX5_told_6 : decode prog_7_method_31_code 6 = .ok (.ifCond .eq 7, 3) := by decide +kernel
theorem dX5_told_9 : decode prog_7_method_31_code 9 = .ok (.iconst 1, 1) := by decide +kernel
theorem dX5_told_10 : decode prog_7_method_31_code 10 = .ok (.goto 20, 3) := by decide +kernel
theorem dX5_told_13 : decode prog_7_method_31_code 13 = .ok (.iload_n 2, 1) := by decide +kernel
theorem dX5_told_14 : decode prog_7_method_31_code 14 = .ok (.i2l, 1) := by decide +kernel
theorem dX5_told_15 : decode prog_7_method_31_code 15 = .ok (.lconst 0, 1) := by decide +kernel
theorem dX5_told_16 : decode prog_7_method_31_code 16 = .ok (.ldc2_w 130, 3) := by decide +kernel
theorem dX5_told_19 : decode prog_7_method_31_code 19 = .ok (.invokestatic 94, 3) := by decide +kernel
theorem dX5_told_22 : decode prog_7_method_31_code 22 = .ok (.ifCond .eq 7, 3) := by decide +kernel
theorem dX5_told_25 : decode prog_7_method_31_code 25 = .ok (.iconst 2, 1) := by decide +kernel
theorem dX5_told_26 : decode prog_7_method_31_code 26 = .ok (.goto 4, 3) := by decide +kernel
theorem dX5_told_29 : decode prog_7_method_31_code 29 = .ok (.iconst 0, 1) := by decide +kernel
theorem dX5_told_30 : decode prog_7_method_31_code 30 = .ok (.putfield 7, 3) := by decide +kernel
theorem dX5_told_33 : decode prog_7_method_31_code 33 = .ok (.aload_n 0, 1) := by decide +kernel
theorem dX5_told_34 : decode prog_7_method_31_code 34 = .ok (.getfield 7, 3) := by decide +kernel
theorem dX5_told_37 : decode prog_7_method_31_code 37 = .ok (.ifCond .eq 5, 3) := by decide +kernel
theorem dX5_told_40 : decode prog_7_method_31_code 40 = .ok (.iconst 0, 1) := by decide +kernel
theorem dX5_told_41 : decode prog_7_method_31_code 41 = .ok (.ireturn, 1) := by decide +kernel
theorem dX5_told_42 : decode prog_7_method_31_code 42 = .ok (.iload_n 1, 1) := by decide +kernel
theorem dX5_told_43 : decode prog_7_method_31_code 43 = .ok (.iconst 1, 1) := by decide +kernel
theorem dX5_told_44 : decode prog_7_method_31_code 44 = .ok (.isub, 1) := by decide +kernel
theorem dX5_told_45 : decode prog_7_method_31_code 45 = .ok (.istore_n 3, 1) := by decide +kernel
theorem dX5_told_46 : decode prog_7_method_31_code 46 = .ok (.iload_n 2, 1) := by decide +kernel
theorem dX5_told_47 : decode prog_7_method_31_code 47 = .ok (.ifCond .ne 12, 3) := by decide +kernel
theorem dX5_told_50 : decode prog_7_method_31_code 50 = .ok (.aload_n 0, 1) := by decide +kernel
theorem dX5_told_51 : decode prog_7_method_31_code 51 = .ok (.getfield 40, 3) := by decide +kernel
theorem dX5_told_54 : decode prog_7_method_31_code 54 = .ok (.iload_n 3, 1) := by decide +kernel
theorem dX5_told_55 : decode prog_7_method_31_code 55 = .ok (.iaload, 1) := by decide +kernel
theorem dX5_told_56 : decode prog_7_method_31_code 56 = .ok (.goto 51, 3) := by decide +kernel
theorem dX5_told_59 : decode prog_7_method_31_code 59 = .ok (.iload_n 2, 1) := by decide +kernel
theorem dX5_told_60 : decode prog_7_method_31_code 60 = .ok (.iconst 1, 1) := by decide +kernel
theorem dX5_told_61 : decode prog_7_method_31_code 61 = .ok (.if_icmp .ne 12, 3) := by decide +kernel
theorem dX5_told_64 : decode prog_7_method_31_code 64 = .ok (.aload_n 0, 1) := by decide +kernel
theorem dX5_told_65 : decode prog_7_method_31_code 65 = .ok (.getfield 43, 3) := by decide +kernel
theorem dX5_told_68 : decode prog_7_method_31_code 68 = .ok (.iload_n 3, 1) := by decide +kernel
theorem dX5_told_69 : decode prog_7_method_31_code 69 = .ok (.iaload, 1) := by decide +kernel
theorem dX5_told_70 : decode prog_7_method_31_code 70 = .ok (.goto 37, 3) := by decide +kernel
theorem dX5_told_73 : decode prog_7_method_31_code 73 = .ok (.iload_n 2, 1) := by decide +kernel
theorem dX5_told_74 : decode prog_7_method_31_code 74 = .ok (.iconst 2, 1) := by decide +kernel
theorem dX5_told_75 : decode prog_7_method_31_code 75 = .ok (.if_icmp .ne 12, 3) := by decide +kernel
theorem dX5_told_78 : decode prog_7_method_31_code 78 = .ok (.aload_n 0, 1) := by decide +kernel
theorem dX5_told_79 : decode prog_7_method_31_code 79 = .ok (.getfield 46, 3) := by decide +kernel
theorem dX5_told_82 : decode prog_7_method_31_code 82 = .ok (.iload_n 3, 1) := by decide +kernel
theorem dX5_told_83 : decode prog_7_method_31_code 83 = .ok (.iaload, 1) := by decide +kernel
theorem dX5_told_84 : decode prog_7_method_31_code 84 = .ok (.goto 23, 3) := by decide +kernel
theorem dX5_told_87 : decode prog_7_method_31_code 87 = .ok (.iload_n 2, 1) := by decide +kernel
theorem dX5_told_88 : decode prog_7_method_31_code 88 = .ok (.iconst 3, 1) := by decide +kernel
theorem dX5_told_89 : decode prog_7_method_31_code 89 = .ok (.if_icmp .ne 12, 3) := by decide +kernel
theorem dX5_told_92 : decode prog_7_method_31_code 92 = .ok (.aload_n 0, 1) := by decide +kernel
theorem dX5_told_93 : decode prog_7_method_31_code 93 = .ok (.getfield 49, 3) := by decide +kernel
theorem dX5_told_96 : decode prog_7_method_31_code 96 = .ok (.iload_n 3, 1) := by decide +kernel
theorem dX5_told_97 : decode prog_7_method_31_code 97 = .ok (.iaload, 1) := by decide +kernel
theorem dX5_told_98 : decode prog_7_method_31_code 98 = .ok (.goto 9, 3) := by decide +kernel
theorem dX5_told_101 : decode prog_7_method_31_code 101 = .ok (.aload_n 0, 1) := by decide +kernel
theorem dX5_told_102 : decode prog_7_method_31_code 102 = .ok (.getfield 52, 3) := by decide +kernel
theorem dX5_told_105 : decode prog_7_method_31_code 105 = .ok (.iload_n 3, 1) := by decide +kernel
theorem dX5_told_106 : decode prog_7_method_31_code 106 = .ok (.iaload, 1) := by decide +kernel
theorem dX5_told_107 : decode prog_7_method_31_code 107 = .ok (.ireturn, 1) := by decide +kernel
theorem dX5_known_0 : decode prog_7_method_32_code 0 = .ok (.aload_n 0, 1) := by decide +kernel
theorem dX5_known_1 : decode prog_7_method_32_code 1 = .ok (.aload_n 0, 1) := by decide +kernel
theorem dX5_known_2 : decode prog_7_method_32_code 2 = .ok (.iload_n 1, 1) := by decide +kernel
theorem dX5_known_3 : decode prog_7_method_32_code 3 = .ok (.invokevirtual 119, 3) := by decide +kernel
theorem dX5_known_6 : decode prog_7_method_32_code 6 = .ok (.ifCond .eq 7, 3) := by decide +kernel
theorem dX5_known_9 : decode prog_7_method_32_code 9 = .ok (.iconst 1, 1) := by decide +kernel
theorem dX5_known_10 : decode prog_7_method_32_code 10 = .ok (.goto 20, 3) := by decide +kernel
theorem dX5_known_13 : decode prog_7_method_32_code 13 = .ok (.iload_n 2, 1) := by decide +kernel
theorem dX5_known_14 : decode prog_7_method_32_code 14 = .ok (.i2l, 1) := by decide +kernel
theorem dX5_known_15 : decode prog_7_method_32_code 15 = .ok (.lconst 0, 1) := by decide +kernel
theorem dX5_known_16 : decode prog_7_method_32_code 16 = .ok (.ldc2_w 132, 3) := by decide +kernel
theorem dX5_known_19 : decode prog_7_method_32_code 19 = .ok (.invokestatic 94, 3) := by decide +kernel
theorem dX5_known_22 : decode prog_7_method_32_code 22 = .ok (.ifCond .eq 7, 3) := by decide +kernel
theorem dX5_known_25 : decode prog_7_method_32_code 25 = .ok (.iconst 2, 1) := by decide +kernel
theorem dX5_known_26 : decode prog_7_method_32_code 26 = .ok (.goto 4, 3) := by decide +kernel
theorem dX5_known_29 : decode prog_7_method_32_code 29 = .ok (.iconst 0, 1) := by decide +kernel
theorem dX5_known_30 : decode prog_7_method_32_code 30 = .ok (.putfield 7, 3) := by decide +kernel
theorem dX5_known_33 : decode prog_7_method_32_code 33 = .ok (.aload_n 0, 1) := by decide +kernel
theorem dX5_known_34 : decode prog_7_method_32_code 34 = .ok (.getfield 7, 3) := by decide +kernel
theorem dX5_known_37 : decode prog_7_method_32_code 37 = .ok (.ifCond .eq 5, 3) := by decide +kernel
theorem dX5_known_40 : decode prog_7_method_32_code 40 = .ok (.lconst 0, 1) := by decide +kernel
theorem dX5_known_41 : decode prog_7_method_32_code 41 = .ok (.lreturn, 1) := by decide +kernel
theorem dX5_known_42 : decode prog_7_method_32_code 42 = .ok (.iload_n 2, 1) := by decide +kernel
theorem dX5_known_43 : decode prog_7_method_32_code 43 = .ok (.tableswitch 95 0 4 #[33, 42, 52, 69, 85], 33) := by decide +kernel
theorem dX5_known_76 : decode prog_7_method_32_code 76 = .ok (.aload_n 0, 1) := by decide +kernel
theorem dX5_known_77 : decode prog_7_method_32_code 77 = .ok (.getfield 70, 3) := by decide +kernel
theorem dX5_known_80 : decode prog_7_method_32_code 80 = .ok (.iload_n 1, 1) := by decide +kernel
theorem dX5_known_81 : decode prog_7_method_32_code 81 = .ok (.iconst 1, 1) := by decide +kernel
theorem dX5_known_82 : decode prog_7_method_32_code 82 = .ok (.isub, 1) := by decide +kernel
theorem dX5_known_83 : decode prog_7_method_32_code 83 = .ok (.laload, 1) := by decide +kernel
theorem dX5_known_84 : decode prog_7_method_32_code 84 = .ok (.lreturn, 1) := by decide +kernel
theorem dX5_known_85 : decode prog_7_method_32_code 85 = .ok (.aload_n 0, 1) := by decide +kernel
theorem dX5_known_86 : decode prog_7_method_32_code 86 = .ok (.getfield 76, 3) := by decide +kernel
theorem dX5_known_89 : decode prog_7_method_32_code 89 = .ok (.iload_n 1, 1) := by decide +kernel
theorem dX5_known_90 : decode prog_7_method_32_code 90 = .ok (.iconst 1, 1) := by decide +kernel
theorem dX5_known_91 : decode prog_7_method_32_code 91 = .ok (.isub, 1) := by decide +kernel
theorem dX5_known_92 : decode prog_7_method_32_code 92 = .ok (.iaload, 1) := by decide +kernel
theorem dX5_known_93 : decode prog_7_method_32_code 93 = .ok (.i2l, 1) := by decide +kernel
theorem dX5_known_94 : decode prog_7_method_32_code 94 = .ok (.lreturn, 1) := by decide +kernel
theorem dX5_known_95 : decode prog_7_method_32_code 95 = .ok (.aload_n 0, 1) := by decide +kernel
theorem dX5_known_96 : decode prog_7_method_32_code 96 = .ok (.getfield 79, 3) := by decide +kernel
theorem dX5_known_99 : decode prog_7_method_32_code 99 = .ok (.iload_n 1, 1) := by decide +kernel
theorem dX5_known_100 : decode prog_7_method_32_code 100 = .ok (.iconst 1, 1) := by decide +kernel
theorem dX5_known_101 : decode prog_7_method_32_code 101 = .ok (.isub, 1) := by decide +kernel
theorem dX5_known_102 : decode prog_7_method_32_code 102 = .ok (.baload, 1) := by decide +kernel
theorem dX5_known_103 : decode prog_7_method_32_code 103 = .ok (.ifCond .eq 7, 3) := by decide +kernel
theorem dX5_known_106 : decode prog_7_method_32_code 106 = .ok (.lconst 1, 1) := by decide +kernel
theorem dX5_known_107 : decode prog_7_method_32_code 107 = .ok (.goto 4, 3) := by decide +kernel
theorem dX5_known_110 : decode prog_7_method_32_code 110 = .ok (.lconst 0, 1) := by decide +kernel
theorem dX5_known_111 : decode prog_7_method_32_code 111 = .ok (.lreturn, 1) := by decide +kernel
theorem dX5_known_112 : decode prog_7_method_32_code 112 = .ok (.aload_n 0, 1) := by decide +kernel
theorem dX5_known_113 : decode prog_7_method_32_code 113 = .ok (.iload_n 1, 1) := by decide +kernel
theorem dX5_known_114 : decode prog_7_method_32_code 114 = .ok (.iconst 1, 1) := by decide +kernel
theorem dX5_known_115 : decode prog_7_method_32_code 115 = .ok (.isub, 1) := by decide +kernel
theorem dX5_known_116 : decode prog_7_method_32_code 116 = .ok (.invokevirtual 85, 3) := by decide +kernel
theorem dX5_known_119 : decode prog_7_method_32_code 119 = .ok (.ifCond .eq 7, 3) := by decide +kernel
theorem dX5_known_122 : decode prog_7_method_32_code 122 = .ok (.lconst 1, 1) := by decide +kernel
theorem dX5_known_123 : decode prog_7_method_32_code 123 = .ok (.goto 4, 3) := by decide +kernel
theorem dX5_known_126 : decode prog_7_method_32_code 126 = .ok (.lconst 0, 1) := by decide +kernel
theorem dX5_known_127 : decode prog_7_method_32_code 127 = .ok (.lreturn, 1) := by decide +kernel
theorem dX5_known_128 : decode prog_7_method_32_code 128 = .ok (.aload_n 0, 1) := by decide +kernel
theorem dX5_known_129 : decode prog_7_method_32_code 129 = .ok (.getfield 67, 3) := by decide +kernel
theorem dX5_known_132 : decode prog_7_method_32_code 132 = .ok (.iload_n 1, 1) := by decide +kernel
theorem dX5_known_133 : decode prog_7_method_32_code 133 = .ok (.iconst 1, 1) := by decide +kernel
theorem dX5_known_134 : decode prog_7_method_32_code 134 = .ok (.isub, 1) := by decide +kernel
theorem dX5_known_135 : decode prog_7_method_32_code 135 = .ok (.iaload, 1) := by decide +kernel
theorem dX5_known_136 : decode prog_7_method_32_code 136 = .ok (.i2l, 1) := by decide +kernel
theorem dX5_known_137 : decode prog_7_method_32_code 137 = .ok (.lreturn, 1) := by decide +kernel
theorem dX5_known_138 : decode prog_7_method_32_code 138 = .ok (.aload_n 0, 1) := by decide +kernel
theorem dX5_known_139 : decode prog_7_method_32_code 139 = .ok (.getfield 73, 3) := by decide +kernel
theorem dX5_known_142 : decode prog_7_method_32_code 142 = .ok (.iload_n 1, 1) := by decide +kernel
theorem dX5_known_143 : decode prog_7_method_32_code 143 = .ok (.iconst 1, 1) := by decide +kernel
theorem dX5_known_144 : decode prog_7_method_32_code 144 = .ok (.isub, 1) := by decide +kernel
theorem dX5_known_145 : decode prog_7_method_32_code 145 = .ok (.iaload, 1) := by decide +kernel
theorem dX5_known_146 : decode prog_7_method_32_code 146 = .ok (.i2l, 1) := by decide +kernel
theorem dX5_known_147 : decode prog_7_method_32_code 147 = .ok (.lreturn, 1) := by decide +kernel
theorem dX5_credit_0 : decode prog_7_method_33_code 0 = .ok (.aload_n 0, 1) := by decide +kernel
theorem dX5_credit_1 : decode prog_7_method_33_code 1 = .ok (.aload_n 0, 1) := by decide +kernel
theorem dX5_credit_2 : decode prog_7_method_33_code 2 = .ok (.iload_n 1, 1) := by decide +kernel
theorem dX5_credit_3 : decode prog_7_method_33_code 3 = .ok (.invokevirtual 89, 3) := by decide +kernel
theorem dX5_credit_6 : decode prog_7_method_33_code 6 = .ok (.ifCond .eq 7, 3) := by decide +kernel
theorem dX5_credit_9 : decode prog_7_method_33_code 9 = .ok (.iconst 1, 1) := by decide +kernel
theorem dX5_credit_10 : decode prog_7_method_33_code 10 = .ok (.goto 4, 3) := by decide +kernel
theorem dX5_credit_13 : decode prog_7_method_33_code 13 = .ok (.iconst 0, 1) := by decide +kernel
theorem dX5_credit_14 : decode prog_7_method_33_code 14 = .ok (.putfield 7, 3) := by decide +kernel
theorem dX5_credit_17 : decode prog_7_method_33_code 17 = .ok (.aload_n 0, 1) := by decide +kernel
theorem dX5_credit_18 : decode prog_7_method_33_code 18 = .ok (.getfield 7, 3) := by decide +kernel
theorem dX5_credit_21 : decode prog_7_method_33_code 21 = .ok (.ifCond .eq 7, 3) := by decide +kernel
theorem dX5_credit_24 : decode prog_7_method_33_code 24 = .ok (.lconst 0, 1) := by decide +kernel
theorem dX5_credit_25 : decode prog_7_method_33_code 25 = .ok (.goto 9, 3) := by decide +kernel
theorem dX5_credit_28 : decode prog_7_method_33_code 28 = .ok (.aload_n 0, 1) := by decide +kernel
theorem dX5_credit_29 : decode prog_7_method_33_code 29 = .ok (.getfield 26, 3) := by decide +kernel
theorem dX5_credit_32 : decode prog_7_method_33_code 32 = .ok (.iload_n 1, 1) := by decide +kernel
theorem dX5_credit_33 : decode prog_7_method_33_code 33 = .ok (.laload, 1) := by decide +kernel
theorem dX5_credit_34 : decode prog_7_method_33_code 34 = .ok (.lreturn, 1) := by decide +kernel
theorem dX5_count_0 : decode prog_7_method_34_code 0 = .ok (.aload_n 0, 1) := by decide +kernel
theorem dX5_count_1 : decode prog_7_method_34_code 1 = .ok (.iconst 0, 1) := by decide +kernel
theorem dX5_count_2 : decode prog_7_method_34_code 2 = .ok (.putfield 7, 3) := by decide +kernel
theorem dX5_count_5 : decode prog_7_method_34_code 5 = .ok (.iconst 0, 1) := by decide +kernel
theorem dX5_count_6 : decode prog_7_method_34_code 6 = .ok (.istore_n 2, 1) := by decide +kernel
theorem dX5_count_7 : decode prog_7_method_34_code 7 = .ok (.iconst 0, 1) := by decide +kernel
theorem dX5_count_8 : decode prog_7_method_34_code 8 = .ok (.istore_n 3, 1) := by decide +kernel
theorem dX5_count_9 : decode prog_7_method_34_code 9 = .ok (.iload_n 3, 1) := by decide +kernel
theorem dX5_count_10 : decode prog_7_method_34_code 10 = .ok (.aload_n 0, 1) := by decide +kernel
theorem dX5_count_11 : decode prog_7_method_34_code 11 = .ok (.getfield 37, 3) := by decide +kernel
theorem dX5_count_14 : decode prog_7_method_34_code 14 = .ok (.if_icmp .ge 27, 3) := by decide +kernel
theorem dX5_count_17 : decode prog_7_method_34_code 17 = .ok (.iload_n 2, 1) := by decide +kernel
theorem dX5_count_18 : decode prog_7_method_34_code 18 = .ok (.aload_n 0, 1) := by decide +kernel
theorem dX5_count_19 : decode prog_7_method_34_code 19 = .ok (.getfield 40, 3) := by decide +kernel
theorem dX5_count_22 : decode prog_7_method_34_code 22 = .ok (.iload_n 3, 1) := by decide +kernel
theorem dX5_count_23 : decode prog_7_method_34_code 23 = .ok (.iaload, 1) := by decide +kernel
theorem dX5_count_24 : decode prog_7_method_34_code 24 = .ok (.iconst 1, 1) := by decide +kernel
theorem dX5_count_25 : decode prog_7_method_34_code 25 = .ok (.if_icmp .ne 7, 3) := by decide +kernel
theorem dX5_count_28 : decode prog_7_method_34_code 28 = .ok (.iconst 1, 1) := by decide +kernel
theorem dX5_count_29 : decode prog_7_method_34_code 29 = .ok (.goto 4, 3) := by decide +kernel
theorem dX5_count_32 : decode prog_7_method_34_code 32 = .ok (.iconst 0, 1) := by decide +kernel
theorem dX5_count_33 : decode prog_7_method_34_code 33 = .ok (.iadd, 1) := by decide +kernel
theorem dX5_count_34 : decode prog_7_method_34_code 34 = .ok (.istore_n 2, 1) := by decide +kernel
theorem dX5_count_35 : decode prog_7_method_34_code 35 = .ok (.iinc 3 1, 3) := by decide +kernel
theorem dX5_count_38 : decode prog_7_method_34_code 38 = .ok (.goto (-29), 3) := by decide +kernel
theorem dX5_count_41 : decode prog_7_method_34_code 41 = .ok (.iconst 0, 1) := by decide +kernel
theorem dX5_count_42 : decode prog_7_method_34_code 42 = .ok (.istore_n 3, 1) := by decide +kernel
theorem dX5_count_43 : decode prog_7_method_34_code 43 = .ok (.iconst 0, 1) := by decide +kernel
theorem dX5_count_44 : decode prog_7_method_34_code 44 = .ok (.istore 4, 2) := by decide +kernel
theorem dX5_count_46 : decode prog_7_method_34_code 46 = .ok (.iload 4, 2) := by decide +kernel
theorem dX5_count_48 : decode prog_7_method_34_code 48 = .ok (.aload_n 0, 1) := by decide +kernel
theorem dX5_count_49 : decode prog_7_method_34_code 49 = .ok (.getfield 64, 3) := by decide +kernel
theorem dX5_count_52 : decode prog_7_method_34_code 52 = .ok (.if_icmp .ge 29, 3) := by decide +kernel
theorem dX5_count_55 : decode prog_7_method_34_code 55 = .ok (.iload_n 3, 1) := by decide +kernel
theorem dX5_count_56 : decode prog_7_method_34_code 56 = .ok (.aload_n 0, 1) := by decide +kernel
theorem dX5_count_57 : decode prog_7_method_34_code 57 = .ok (.getfield 70, 3) := by decide +kernel
theorem dX5_count_60 : decode prog_7_method_34_code 60 = .ok (.iload 4, 2) := by decide +kernel
theorem dX5_count_62 : decode prog_7_method_34_code 62 = .ok (.laload, 1) := by decide +kernel
theorem dX5_count_63 : decode prog_7_method_34_code 63 = .ok (.lconst 0, 1) := by decide +kernel
theorem dX5_count_64 : decode prog_7_method_34_code 64 = .ok (.lcmp, 1) := by decide +kernel
theorem dX5_count_65 : decode prog_7_method_34_code 65 = .ok (.ifCond .le 7, 3) := by decide +kernel
theorem dX5_count_68 : decode prog_7_method_34_code 68 = .ok (.iconst 1, 1) := by decide +kernel
theorem dX5_count_69 : decode prog_7_method_34_code 69 = .ok (.goto 4, 3) := by decide +kernel
theorem dX5_count_72 : decode prog_7_method_34_code 72 = .ok (.iconst 0, 1) := by decide +kernel
theorem dX5_count_73 : decode prog_7_method_34_code 73 = .ok (.iadd, 1) := by decide +kernel
theorem dX5_count_74 : decode prog_7_method_34_code 74 = .ok (.istore_n 3, 1) := by decide +kernel
theorem dX5_count_75 : decode prog_7_method_34_code 75 = .ok (.iinc 4 1, 3) := by decide +kernel
theorem dX5_count_78 : decode prog_7_method_34_code 78 = .ok (.goto (-32), 3) := by decide +kernel
theorem dX5_count_81 : decode prog_7_method_34_code 81 = .ok (.iconst 0, 1) := by decide +kernel
theorem dX5_count_82 : decode prog_7_method_34_code 82 = .ok (.istore 4, 2) := by decide +kernel
theorem dX5_count_84 : decode prog_7_method_34_code 84 = .ok (.iconst 0, 1) := by decide +kernel
theorem dX5_count_85 : decode prog_7_method_34_code 85 = .ok (.istore 5, 2) := by decide +kernel
theorem dX5_count_87 : decode prog_7_method_34_code 87 = .ok (.iload 5, 2) := by decide +kernel
theorem dX5_count_89 : decode prog_7_method_34_code 89 = .ok (.aload_n 0, 1) := by decide +kernel
theorem dX5_count_90 : decode prog_7_method_34_code 90 = .ok (.getfield 19, 3) := by decide +kernel
theorem dX5_count_93 : decode prog_7_method_34_code 93 = .ok (.if_icmp .ge 29, 3) := by decide +kernel
theorem dX5_count_96 : decode prog_7_method_34_code 96 = .ok (.iload 4, 2) := by decide +kernel
theorem dX5_count_98 : decode prog_7_method_34_code 98 = .ok (.aload_n 0, 1) := by decide +kernel
theorem dX5_count_99 : decode prog_7_method_34_code 99 = .ok (.getfield 22, 3) := by decide +kernel
theorem dX5_count_102 : decode prog_7_method_34_code 102 = .ok (.iload 5, 2) := by decide +kernel
theorem dX5_count_104 : decode prog_7_method_34_code 104 = .ok (.baload, 1) := by decide +kernel
theorem dX5_count_105 : decode prog_7_method_34_code 105 = .ok (.ifCond .eq 7, 3) := by decide +kernel
theorem dX5_count_108 : decode prog_7_method_34_code 108 = .ok (.iconst 1, 1) := by decide +kernel
theorem dX5_count_109 : decode prog_7_method_34_code 109 = .ok (.goto 4, 3) := by decide +kernel
theorem dX5_count_112 : decode prog_7_method_34_code 112 = .ok (.iconst 0, 1) := by decide +kernel
theorem dX5_count_113 : decode prog_7_method_34_code 113 = .ok (.iadd, 1) := by decide +kernel
theorem dX5_count_114 : decode prog_7_method_34_code 114 = .ok (.istore 4, 2) := by decide +kernel
theorem dX5_count_116 : decode prog_7_method_34_code 116 = .ok (.iinc 5 1, 3) := by decide +kernel
theorem dX5_count_119 : decode prog_7_method_34_code 119 = .ok (.goto (-32), 3) := by decide +kernel
theorem dX5_count_122 : decode prog_7_method_34_code 122 = .ok (.iload_n 1, 1) := by decide +kernel
theorem dX5_count_123 : decode prog_7_method_34_code 123 = .ok (.tableswitch 86 0 8 #[49, 54, 59, 64, 66, 71, 73, 78, 83], 49) := by decide +kernel
theorem dX5_count_172 : decode prog_7_method_34_code 172 = .ok (.aload_n 0, 1) := by decide +kernel
theorem dX5_count_173 : decode prog_7_method_34_code 173 = .ok (.getfield 19, 3) := by decide +kernel
theorem dX5_count_176 : decode prog_7_method_34_code 176 = .ok (.ireturn, 1) := by decide +kernel
theorem dX5_count_177 : decode prog_7_method_34_code 177 = .ok (.aload_n 0, 1) := by decide +kernel
theorem dX5_count_178 : decode prog_7_method_34_code 178 = .ok (.getfield 30, 3) := by decide +kernel
theorem dX5_count_181 : decode prog_7_method_34_code 181 = .ok (.ireturn, 1) := by decide +kernel
theorem dX5_count_182 : decode prog_7_method_34_code 182 = .ok (.aload_n 0, 1) := by decide +kernel
theorem dX5_count_183 : decode prog_7_method_34_code 183 = .ok (.getfield 37, 3) := by decide +kernel
theorem dX5_count_186 : decode prog_7_method_34_code 186 = .ok (.ireturn, 1) := by decide +kernel
theorem dX5_count_187 : decode prog_7_method_34_code 187 = .ok (.iload_n 2, 1) := by decide +kernel
theorem dX5_count_188 : decode prog_7_method_34_code 188 = .ok (.ireturn, 1) := by decide +kernel
theorem dX5_count_189 : decode prog_7_method_34_code 189 = .ok (.aload_n 0, 1) := by decide +kernel
theorem dX5_count_190 : decode prog_7_method_34_code 190 = .ok (.getfield 64, 3) := by decide +kernel
theorem dX5_count_193 : decode prog_7_method_34_code 193 = .ok (.ireturn, 1) := by decide +kernel
theorem dX5_count_194 : decode prog_7_method_34_code 194 = .ok (.iload_n 3, 1) := by decide +kernel
theorem dX5_count_195 : decode prog_7_method_34_code 195 = .ok (.ireturn, 1) := by decide +kernel
theorem dX5_count_196 : decode prog_7_method_34_code 196 = .ok (.aload_n 0, 1) := by decide +kernel
theorem dX5_count_197 : decode prog_7_method_34_code 197 = .ok (.getfield 13, 3) := by decide +kernel
theorem dX5_count_200 : decode prog_7_method_34_code 200 = .ok (.ireturn, 1) := by decide +kernel
theorem dX5_count_201 : decode prog_7_method_34_code 201 = .ok (.aload_n 0, 1) := by decide +kernel
theorem dX5_count_202 : decode prog_7_method_34_code 202 = .ok (.getfield 16, 3) := by decide +kernel
theorem dX5_count_205 : decode prog_7_method_34_code 205 = .ok (.ireturn, 1) := by decide +kernel
theorem dX5_count_206 : decode prog_7_method_34_code 206 = .ok (.iload 4, 2) := by decide +kernel
theorem dX5_count_208 : decode prog_7_method_34_code 208 = .ok (.ireturn, 1) := by decide +kernel
theorem dX5_count_209 : decode prog_7_method_34_code 209 = .ok (.iconst (-1), 1) := by decide +kernel
theorem dX5_count_210 : decode prog_7_method_34_code 210 = .ok (.ireturn, 1) := by decide +kernel
