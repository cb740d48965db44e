theorem dX0_init_0 : decode prog_2_method_1_code 0 = .ok (.aload_n 0, 1) := by decide +kernel
theorem dX0_init_1 : decode prog_2_method_1_code 1 = .ok (.invokespecial 3, 3) := by decide +kernel
theorem dX0_init_4 : decode prog_2_method_1_code 4 = .ok (.aload_n 0, 1) := by decide +kernel
theorem dX0_init_5 : decode prog_2_method_1_code 5 = .ok (.iload_n 1, 1) := by decide +kernel
theorem dX0_init_6 : decode prog_2_method_1_code 6 = .ok (.putfield 9, 3) := by decide +kernel
theorem dX0_init_9 : decode prog_2_method_1_code 9 = .ok (.aload_n 0, 1) := by decide +kernel
theorem dX0_init_10 : decode prog_2_method_1_code 10 = .ok (.bipush 8, 2) := by decide +kernel
theorem dX0_init_12 : decode prog_2_method_1_code 12 = .ok (.anewarray 15, 3) := by decide +kernel
theorem dX0_init_15 : decode prog_2_method_1_code 15 = .ok (.putfield 17, 3) := by decide +kernel
theorem dX0_init_18 : decode prog_2_method_1_code 18 = .ok (.aload_n 0, 1) := by decide +kernel
theorem dX0_init_19 : decode prog_2_method_1_code 19 = .ok (.iconst 0, 1) := by decide +kernel
theorem dX0_init_20 : decode prog_2_method_1_code 20 = .ok (.putfield 21, 3) := by decide +kernel
theorem dX0_init_23 : decode prog_2_method_1_code 23 = .ok (.return_, 1) := by decide +kernel
theorem dX0_addRow_0 : decode prog_2_method_2_code 0 = .ok (.aload_n 0, 1) := by decide +kernel
theorem dX0_addRow_1 : decode prog_2_method_2_code 1 = .ok (.getfield 24, 3) := by decide +kernel
theorem dX0_addRow_4 : decode prog_2_method_2_code 4 = .ok (.aload_n 0, 1) := by decide +kernel
theorem dX0_addRow_5 : decode prog_2_method_2_code 5 = .ok (.getfield 17, 3) := by decide +kernel
theorem dX0_addRow_8 : decode prog_2_method_2_code 8 = .ok (.arraylength, 1) := by decide +kernel
theorem dX0_addRow_9 : decode prog_2_method_2_code 9 = .ok (.invokestatic 27, 3) := by decide +kernel
theorem dX0_addRow_12 : decode prog_2_method_2_code 12 = .ok (.aload_n 0, 1) := by decide +kernel
theorem dX0_addRow_13 : decode prog_2_method_2_code 13 = .ok (.getfield 17, 3) := by decide +kernel
theorem dX0_addRow_16 : decode prog_2_method_2_code 16 = .ok (.aload_n 0, 1) := by decide +kernel
theorem dX0_addRow_17 : decode prog_2_method_2_code 17 = .ok (.getfield 24, 3) := by decide +kernel
theorem dX0_addRow_20 : decode prog_2_method_2_code 20 = .ok (.aload_n 1, 1) := by decide +kernel
theorem dX0_addRow_21 : decode prog_2_method_2_code 21 = .ok (.aastore, 1) := by decide +kernel
theorem dX0_addRow_22 : decode prog_2_method_2_code 22 = .ok (.aload_n 0, 1) := by decide +kernel
theorem dX0_addRow_23 : decode prog_2_method_2_code 23 = .ok (.dup, 1) := by decide +kernel
theorem dX0_addRow_24 : decode prog_2_method_2_code 24 = .ok (.getfield 24, 3) := by decide +kernel
theorem dX0_addRow_27 : decode prog_2_method_2_code 27 = .ok (.iconst 1, 1) := by decide +kernel
theorem dX0_addRow_28 : decode prog_2_method_2_code 28 = .ok (.iadd, 1) := by decide +kernel
theorem dX0_addRow_29 : decode prog_2_method_2_code 29 = .ok (.putfield 24, 3) := by decide +kernel
theorem dX0_addRow_32 : decode prog_2_method_2_code 32 = .ok (.return_, 1) := by decide +kernel
theorem dX0_copyOpposites_0 : decode prog_2_method_3_code 0 = .ok (.iconst 0, 1) := by decide +kernel
theorem dX0_copyOpposites_1 : decode prog_2_method_3_code 1 = .ok (.istore_n 2, 1) := by decide +kernel
theorem dX0_copyOpposites_2 : decode prog_2_method_3_code 2 = .ok (.iload_n 2, 1) := by decide +kernel
theorem dX0_copyOpposites_3 : decode prog_2_method_3_code 3 = .ok (.aload_n 0, 1) := by decide +kernel
theorem dX0_copyOpposites_4 : decode prog_2_method_3_code 4 = .ok (.getfield 17, 3) := by decide +kernel
theorem dX0_copyOpposites_7 : decode prog_2_method_3_code 7 = .ok (.arraylength, 1) := by decide +kernel
theorem dX0_copyOpposites_8 : decode prog_2_method_3_code 8 = .ok (.if_icmp .ge 59, 3) := by decide +kernel
theorem dX0_copyOpposites_11 : decode prog_2_method_3_code 11 = .ok (.iload_n 2, 1) := by decide +kernel
theorem dX0_copyOpposites_12 : decode prog_2_method_3_code 12 = .ok (.aload_n 1, 1) := by decide +kernel
theorem dX0_copyOpposites_13 : decode prog_2_method_3_code 13 = .ok (.getfield 17, 3) := by decide +kernel
theorem dX0_copyOpposites_16 : decode prog_2_method_3_code 16 = .ok (.arraylength, 1) := by decide +kernel
theorem dX0_copyOpposites_17 : decode prog_2_method_3_code 17 = .ok (.if_icmp .ge 50, 3) := by decide +kernel
theorem dX0_copyOpposites_20 : decode prog_2_method_3_code 20 = .ok (.aload_n 1, 1) := by decide +kernel
theorem dX0_copyOpposites_21 : decode prog_2_method_3_code 21 = .ok (.getfield 17, 3) := by decide +kernel
theorem dX0_copyOpposites_24 : decode prog_2_method_3_code 24 = .ok (.iload_n 2, 1) := by decide +kernel
theorem dX0_copyOpposites_25 : decode prog_2_method_3_code 25 = .ok (.aaload, 1) := by decide +kernel
theorem dX0_copyOpposites_26 : decode prog_2_method_3_code 26 = .ok (.astore_n 3, 1) := by decide +kernel
theorem dX0_copyOpposites_27 : decode prog_2_method_3_code 27 = .ok (.aload_n 0, 1) := by decide +kernel
theorem dX0_copyOpposites_28 : decode prog_2_method_3_code 28 = .ok (.getfield 17, 3) := by decide +kernel
theorem dX0_copyOpposites_31 : decode prog_2_method_3_code 31 = .ok (.iload_n 2, 1) := by decide +kernel
theorem dX0_copyOpposites_32 : decode prog_2_method_3_code 32 = .ok (.aload_n 3, 1) := by decide +kernel
theorem dX0_copyOpposites_33 : decode prog_2_method_3_code 33 = .ok (.ifnonnull 7, 3) := by decide +kernel
theorem dX0_copyOpposites_36 : decode prog_2_method_3_code 36 = .ok (.aconst_null, 1) := by decide +kernel
theorem dX0_copyOpposites_37 : decode prog_2_method_3_code 37 = .ok (.goto 23, 3) := by decide +kernel
theorem dX0_copyOpposites_40 : decode prog_2_method_3_code 40 = .ok (.new 15, 3) := by decide +kernel
theorem dX0_copyOpposites_43 : decode prog_2_method_3_code 43 = .ok (.dup, 1) := by decide +kernel
theorem dX0_copyOpposites_44 : decode prog_2_method_3_code 44 = .ok (.aload_n 3, 1) := by decide +kernel
theorem dX0_copyOpposites_45 : decode prog_2_method_3_code 45 = .ok (.getfield 31, 3) := by decide +kernel
theorem dX0_copyOpposites_48 : decode prog_2_method_3_code 48 = .ok (.aload_n 3, 1) := by decide +kernel
theorem dX0_copyOpposites_49 : decode prog_2_method_3_code 49 = .ok (.getfield 34, 3) := by decide +kernel
theorem dX0_copyOpposites_52 : decode prog_2_method_3_code 52 = .ok (.aload_n 3, 1) := by decide +kernel
theorem dX0_copyOpposites_53 : decode prog_2_method_3_code 53 = .ok (.getfield 37, 3) := by decide +kernel
theorem dX0_copyOpposites_56 : decode prog_2_method_3_code 56 = .ok (.lneg, 1) := by decide +kernel
theorem dX0_copyOpposites_57 : decode prog_2_method_3_code 57 = .ok (.invokespecial 41, 3) := by decide +kernel
theorem dX0_copyOpposites_60 : decode prog_2_method_3_code 60 = .ok (.aastore, 1) := by decide +kernel
theorem dX0_copyOpposites_61 : decode prog_2_method_3_code 61 = .ok (.iinc 2 1, 3) := by decide +kernel
theorem dX0_copyOpposites_64 : decode prog_2_method_3_code 64 = .ok (.goto (-62), 3) := by decide +kernel
theorem dX0_copyOpposites_67 : decode prog_2_method_3_code 67 = .ok (.aload_n 0, 1) := by decide +kernel
theorem dX0_copyOpposites_68 : decode prog_2_method_3_code 68 = .ok (.aload_n 1, 1) := by decide +kernel
theorem dX0_copyOpposites_69 : decode prog_2_method_3_code 69 = .ok (.getfield 24, 3) := by decide +kernel
theorem dX0_copyOpposites_72 : decode prog_2_method_3_code 72 = .ok (.putfield 24, 3) := by decide +kernel
theorem dX0_copyOpposites_75 : decode prog_2_method_3_code 75 = .ok (.return_, 1) := by decide +kernel
theorem dX0_firstBreaking_0 : decode prog_2_method_4_code 0 = .ok (.iconst 0, 1) := by decide +kernel
theorem dX0_firstBreaking_1 : decode prog_2_method_4_code 1 = .ok (.istore_n 1, 1) := by decide +kernel
theorem dX0_firstBreaking_2 : decode prog_2_method_4_code 2 = .ok (.iload_n 1, 1) := by decide +kernel
theorem dX0_firstBreaking_3 : decode prog_2_method_4_code 3 = .ok (.aload_n 0, 1) := by decide +kernel
theorem dX0_firstBreaking_4 : decode prog_2_method_4_code 4 = .ok (.getfield 17, 3) := by decide +kernel
theorem dX0_firstBreaking_7 : decode prog_2_method_4_code 7 = .ok (.arraylength, 1) := by decide +kernel
theorem dX0_firstBreaking_8 : decode prog_2_method_4_code 8 = .ok (.if_icmp .ge 29, 3) := by decide +kernel
theorem dX0_firstBreaking_11 : decode prog_2_method_4_code 11 = .ok (.aload_n 0, 1) := by decide +kernel
theorem dX0_firstBreaking_12 : decode prog_2_method_4_code 12 = .ok (.getfield 17, 3) := by decide +kernel
theorem dX0_firstBreaking_15 : decode prog_2_method_4_code 15 = .ok (.iload_n 1, 1) := by decide +kernel
theorem dX0_firstBreaking_16 : decode prog_2_method_4_code 16 = .ok (.aaload, 1) := by decide +kernel
theorem dX0_firstBreaking_17 : decode prog_2_method_4_code 17 = .ok (.astore_n 2, 1) := by decide +kernel
theorem dX0_firstBreaking_18 : decode prog_2_method_4_code 18 = .ok (.aload_n 2, 1) := by decide +kernel
theorem dX0_firstBreaking_19 : decode prog_2_method_4_code 19 = .ok (.ifnull 12, 3) := by decide +kernel
theorem dX0_firstBreaking_22 : decode prog_2_method_4_code 22 = .ok (.aload_n 2, 1) := by decide +kernel
theorem dX0_firstBreaking_23 : decode prog_2_method_4_code 23 = .ok (.getfield 44, 3) := by decide +kernel
theorem dX0_firstBreaking_26 : decode prog_2_method_4_code 26 = .ok (.ifCond .eq 5, 3) := by decide +kernel
theorem dX0_firstBreaking_29 : decode prog_2_method_4_code 29 = .ok (.iload_n 1, 1) := by decide +kernel
theorem dX0_firstBreaking_30 : decode prog_2_method_4_code 30 = .ok (.ireturn, 1) := by decide +kernel
theorem dX0_firstBreaking_31 : decode prog_2_method_4_code 31 = .ok (.iinc 1 1, 3) := by decide +kernel
theorem dX0_firstBreaking_34 : decode prog_2_method_4_code 34 = .ok (.goto (-32), 3) := by decide +kernel
theorem dX0_firstBreaking_37 : decode prog_2_method_4_code 37 = .ok (.iconst (-1), 1) := by decide +kernel
theorem dX0_firstBreaking_38 : decode prog_2_method_4_code 38 = .ok (.ireturn, 1) := by decide +kernel
theorem dX0_sumsToZero_0 : decode prog_2_method_5_code 0 = .ok (.iconst 0, 1) := by decide +kernel
theorem dX0_sumsToZero_1 : decode prog_2_method_5_code 1 = .ok (.istore_n 1, 1) := by decide +kernel
theorem dX0_sumsToZero_2 : decode prog_2_method_5_code 2 = .ok (.iload_n 1, 1) := by decide +kernel
theorem dX0_sumsToZero_3 : decode prog_2_method_5_code 3 = .ok (.iconst 3, 1) := by decide +kernel
theorem dX0_sumsToZero_4 : decode prog_2_method_5_code 4 = .ok (.if_icmp .ge 21, 3) := by decide +kernel
theorem dX0_sumsToZero_7 : decode prog_2_method_5_code 7 = .ok (.aload_n 0, 1) := by decide +kernel
theorem dX0_sumsToZero_8 : decode prog_2_method_5_code 8 = .ok (.iload_n 1, 1) := by decide +kernel
theorem dX0_sumsToZero_9 : decode prog_2_method_5_code 9 = .ok (.invokevirtual 48, 3) := by decide +kernel
theorem dX0_sumsToZero_12 : decode prog_2_method_5_code 12 = .ok (.lconst 0, 1) := by decide +kernel
theorem dX0_sumsToZero_13 : decode prog_2_method_5_code 13 = .ok (.lcmp, 1) := by decide +kernel
theorem dX0_sumsToZero_14 : decode prog_2_method_5_code 14 = .ok (.ifCond .eq 5, 3) := by decide +kernel
theorem dX0_sumsToZero_17 : decode prog_2_method_5_code 17 = .ok (.iconst 0, 1) := by decide +kernel
theorem dX0_sumsToZero_18 : decode prog_2_method_5_code 18 = .ok (.ireturn, 1) := by decide +kernel
theorem dX0_sumsToZero_19 : decode prog_2_method_5_code 19 = .ok (.iinc 1 1, 3) := by decide +kernel
theorem dX0_sumsToZero_22 : decode prog_2_method_5_code 22 = .ok (.goto (-20), 3) := by decide +kernel
theorem dX0_sumsToZero_25 : decode prog_2_method_5_code 25 = .ok (.iconst 1, 1) := by decide +kernel
theorem dX0_sumsToZero_26 : decode prog_2_method_5_code 26 = .ok (.ireturn, 1) := by decide +kernel
theorem dX0_sumOfCurrency_0 : decode prog_2_method_6_code 0 = .ok (.lconst 0, 1) := by decide +kernel
theorem dX0_sumOfCurrency_1 : decode prog_2_method_6_code 1 = .ok (.lstore_n 2, 1) := by decide +kernel
theorem dX0_sumOfCurrency_2 : decode prog_2_method_6_code 2 = .ok (.aload_n 0, 1) := by decide +kernel
theorem dX0_sumOfCurrency_3 : decode prog_2_method_6_code 3 = .ok (.getfield 17, 3) := by decide +kernel
theorem dX0_sumOfCurrency_6 : decode prog_2_method_6_code 6 = .ok (.astore 4, 2) := by decide +kernel
theorem dX0_sumOfCurrency_8 : decode prog_2_method_6_code 8 = .ok (.aload 4, 2) := by decide +kernel
theorem dX0_sumOfCurrency_10 : decode prog_2_method_6_code 10 = .ok (.arraylength, 1) := by decide +kernel
theorem dX0_sumOfCurrency_11 : decode prog_2_method_6_code 11 = .ok (.istore 5, 2) := by decide +kernel
theorem dX0_sumOfCurrency_13 : decode prog_2_method_6_code 13 = .ok (.iconst 0, 1) := by decide +kernel
theorem dX0_sumOfCurrency_14 : decode prog_2_method_6_code 14 = .ok (.istore 6, 2) := by decide +kernel
theorem dX0_sumOfCurrency_16 : decode prog_2_method_6_code 16 = .ok (.iload 6, 2) := by decide +kernel
theorem dX0_sumOfCurrency_18 : decode prog_2_method_6_code 18 = .ok (.iload 5, 2) := by decide +kernel
theorem dX0_sumOfCurrency_20 : decode prog_2_method_6_code 20 = .ok (.if_icmp .ge 38, 3) := by decide +kernel
theorem dX0_sumOfCurrency_23 : decode prog_2_method_6_code 23 = .ok (.aload 4, 2) := by decide +kernel
theorem dX0_sumOfCurrency_25 : decode prog_2_method_6_code 25 = .ok (.iload 6, 2) := by decide +kernel
theorem dX0_sumOfCurrency_27 : decode prog_2_method_6_code 27 = .ok (.aaload, 1) := by decide +kernel
theorem dX0_sumOfCurrency_28 : decode prog_2_method_6_code 28 = .ok (.astore 7, 2) := by decide +kernel
theorem dX0_sumOfCurrency_30 : decode prog_2_method_6_code 30 = .ok (.aload 7, 2) := by decide +kernel
theorem dX0_sumOfCurrency_32 : decode prog_2_method_6_code 32 = .ok (.ifnull 20, 3) := by decide +kernel
theorem dX0_sumOfCurrency_35 : decode prog_2_method_6_code 35 = .ok (.aload 7, 2) := by decide +kernel
theorem dX0_sumOfCurrency_37 : decode prog_2_method_6_code 37 = .ok (.getfield 34, 3) := by decide +kernel
theorem dX0_sumOfCurrency_40 : decode prog_2_method_6_code 40 = .ok (.iload_n 1, 1) := by decide +kernel
theorem dX0_sumOfCurrency_41 : decode prog_2_method_6_code 41 = .ok (.if_icmp .ne 11, 3) := by decide +kernel
theorem dX0_sumOfCurrency_44 : decode prog_2_method_6_code 44 = .ok (.lload_n 2, 1) := by decide +kernel
theorem dX0_sumOfCurrency_45 : decode prog_2_method_6_code 45 = .ok (.aload 7, 2) := by decide +kernel
theorem dX0_sumOfCurrency_47 : decode prog_2_method_6_code 47 = .ok (.getfield 37, 3) := by decide +kernel
theorem dX0_sumOfCurrency_50 : decode prog_2_method_6_code 50 = .ok (.ladd, 1) := by decide +kernel
theorem dX0_sumOfCurrency_51 : decode prog_2_method_6_code 51 = .ok (.lstore_n 2, 1) := by decide +kernel
theorem dX0_sumOfCurrency_52 : decode prog_2_method_6_code 52 = .ok (.iinc 6 1, 3) := by decide +kernel
theorem dX0_sumOfCurrency_55 : decode prog_2_method_6_code 55 = .ok (.goto (-39), 3) := by decide +kernel
theorem dX0_sumOfCurrency_58 : decode prog_2_method_6_code 58 = .ok (.lload_n 2, 1) := by decide +kernel
theorem dX0_sumOfCurrency_59 : decode prog_2_method_6_code 59 = .ok (.lreturn, 1) := by decide +kernel
theorem dX0_sumOfAccount_0 : decode prog_2_method_7_code 0 = .ok (.lconst 0, 1) := by decide +kernel
theorem dX0_sumOfAccount_1 : decode prog_2_method_7_code 1 = .ok (.lstore_n 2, 1) := by decide +kernel
theorem dX0_sumOfAccount_2 : decode prog_2_method_7_code 2 = .ok (.aload_n 0, 1) := by decide +kernel
theorem dX0_sumOfAccount_3 : decode prog_2_method_7_code 3 = .ok (.getfield 17, 3) := by decide +kernel
theorem dX0_sumOfAccount_6 : decode prog_2_method_7_code 6 = .ok (.astore 4, 2) := by decide +kernel
theorem dX0_sumOfAccount_8 : decode prog_2_method_7_code 8 = .ok (.aload 4, 2) := by decide +kernel
theorem dX0_sumOfAccount_10 : decode prog_2_method_7_code 10 = .ok (.arraylength, 1) := by decide +kernel
theorem dX0_sumOfAccount_11 : decode prog_2_method_7_code 11 = .ok (.istore 5, 2) := by decide +kernel
theorem dX0_sumOfAccount_13 : decode prog_2_method_7_code 13 = .ok (.iconst 0, 1) := by decide +kernel
theorem dX0_sumOfAccount_14 : decode prog_2_method_7_code 14 = .ok (.istore 6, 2) := by decide +kernel
theorem dX0_sumOfAccount_16 : decode prog_2_method_7_code 16 = .ok (.iload 6, 2) := by decide +kernel
theorem dX0_sumOfAccount_18 : decode prog_2_method_7_code 18 = .ok (.iload 5, 2) := by decide +kernel
theorem dX0_sumOfAccount_20 : decode prog_2_method_7_code 20 = .ok (.if_icmp .ge 38, 3) := by decide +kernel
theorem dX0_sumOfAccount_23 : decode prog_2_method_7_code 23 = .ok (.aload 4, 2) := by decide +kernel
theorem dX0_sumOfAccount_25 : decode prog_2_method_7_code 25 = .ok (.iload 6, 2) := by decide +kernel
theorem dX0_sumOfAccount_27 : decode prog_2_method_7_code 27 = .ok (.aaload, 1) := by decide +kernel
theorem dX0_sumOfAccount_28 : decode prog_2_method_7_code 28 = .ok (.astore 7, 2) := by decide +kernel
theorem dX0_sumOfAccount_30 : decode prog_2_method_7_code 30 = .ok (.aload 7, 2) := by decide +kernel
theorem dX0_sumOfAccount_32 : decode prog_2_method_7_code 32 = .ok (.ifnull 20, 3) := by decide +kernel
theorem dX0_sumOfAccount_35 : decode prog_2_method_7_code 35 = .ok (.aload 7, 2) := by decide +kernel
theorem dX0_sumOfAccount_37 : decode prog_2_method_7_code 37 = .ok (.getfield 31, 3) := by decide +kernel
theorem dX0_sumOfAccount_40 : decode prog_2_method_7_code 40 = .ok (.iload_n 1, 1) := by decide +kernel
theorem dX0_sumOfAccount_41 : decode prog_2_method_7_code 41 = .ok (.if_icmp .ne 11, 3) := by decide +kernel
theorem dX0_sumOfAccount_44 : decode prog_2_method_7_code 44 = .ok (.lload_n 2, 1) := by decide +kernel
theorem dX0_sumOfAccount_45 : decode prog_2_method_7_code 45 = .ok (.aload 7, 2) := by decide +kernel
theorem dX0_sumOfAccount_47 : decode prog_2_method_7_code 47 = .ok (.getfield 37, 3) := by decide +kernel
theorem dX0_sumOfAccount_50 : decode prog_2_method_7_code 50 = .ok (.ladd, 1) := by decide +kernel
theorem dX0_sumOfAccount_51 : decode prog_2_method_7_code 51 = .ok (.lstore_n 2, 1) := by decide +kernel
theorem dX0_sumOfAccount_52 : decode prog_2_method_7_code 52 = .ok (.iinc 6 1, 3) := by decide +kernel
theorem dX0_sumOfAccount_55 : decode prog_2_method_7_code 55 = .ok (.goto (-39), 3) := by decide +kernel
theorem dX0_sumOfAccount_58 : decode prog_2_method_7_code 58 = .ok (.lload_n 2, 1) := by decide +kernel
theorem dX0_sumOfAccount_59 : decode prog_2_method_7_code 59 = .ok (.lreturn, 1) := by decide +kernel
theorem dX1_init_0 : decode prog_3_method_1_code 0 = .ok (.aload_n 0, 1) := by decide +kernel
theorem dX1_init_1 : decode prog_3_method_1_code 1 = .ok (.invokespecial 1, 3) := by decide +kernel
theorem dX1_init_4 : decode prog_3_method_1_code 4 = .ok (.aload_n 0, 1) := by decide +kernel
theorem dX1_init_5 : decode prog_3_method_1_code 5 = .ok (.iload_n 1, 1) := by decide +kernel
theorem dX1_init_6 : decode prog_3_method_1_code 6 = .ok (.putfield 7, 3) := by decide +kernel
theorem dX1_init_9 : decode prog_3_method_1_code 9 = .ok (.aload_n 0, 1) := by decide +kernel
theorem dX1_init_10 : decode prog_3_method_1_code 10 = .ok (.lload_n 2, 1) := by decide +kernel
theorem dX1_init_11 : decode prog_3_method_1_code 11 = .ok (.putfield 13, 3) := by decide +kernel
theorem dX1_init_14 : decode prog_3_method_1_code 14 = .ok (.aload_n 0, 1) := by decide +kernel
theorem dX1_init_15 : decode prog_3_method_1_code 15 = .ok (.iload 4, 2) := by decide +kernel
theorem dX1_init_17 : decode prog_3_method_1_code 17 = .ok (.putfield 17, 3) := by decide +kernel
theorem dX1_init_20 : decode prog_3_method_1_code 20 = .ok (.return_, 1) := by decide +kernel
theorem dX1_takeFrom_0 : decode prog_3_method_2_code 0 = .ok (.aload_n 0, 1) := by decide +kernel
theorem dX1_takeFrom_1 : decode prog_3_method_2_code 1 = .ok (.getfield 13, 3) := by decide +kernel
theorem dX1_takeFrom_4 : decode prog_3_method_2_code 4 = .ok (.lload_n 1, 1) := by decide +kernel
theorem dX1_takeFrom_5 : decode prog_3_method_2_code 5 = .ok (.invokestatic 20, 3) := by decide +kernel
theorem dX1_takeFrom_8 : decode prog_3_method_2_code 8 = .ok (.lstore_n 3, 1) := by decide +kernel
theorem dX1_takeFrom_9 : decode prog_3_method_2_code 9 = .ok (.aload_n 0, 1) := by decide +kernel
theorem dX1_takeFrom_10 : decode prog_3_method_2_code 10 = .ok (.dup, 1) := by decide +kernel
theorem dX1_takeFrom_11 : decode prog_3_method_2_code 11 = .ok (.getfield 13, 3) := by decide +kernel
theorem dX1_takeFrom_14 : decode prog_3_method_2_code 14 = .ok (.lload_n 3, 1) := by decide +kernel
theorem dX1_takeFrom_15 : decode prog_3_method_2_code 15 = .ok (.lsub, 1) := by decide +kernel
theorem dX1_takeFrom_16 : decode prog_3_method_2_code 16 = .ok (.putfield 13, 3) := by decide +kernel
theorem dX1_takeFrom_19 : decode prog_3_method_2_code 19 = .ok (.lload_n 1, 1) := by decide +kernel
theorem dX1_takeFrom_20 : decode prog_3_method_2_code 20 = .ok (.lload_n 3, 1) := by decide +kernel
theorem dX1_takeFrom_21 : decode prog_3_method_2_code 21 = .ok (.lsub, 1) := by decide +kernel
theorem dX1_takeFrom_22 : decode prog_3_method_2_code 22 = .ok (.lreturn, 1) := by decide +kernel
theorem dX1_isOverdue_0 : decode prog_3_method_3_code 0 = .ok (.aload_n 0, 1) := by decide +kernel
theorem dX1_isOverdue_1 : decode prog_3_method_3_code 1 = .ok (.getfield 13, 3) := by decide +kernel
theorem dX1_isOverdue_4 : decode prog_3_method_3_code 4 = .ok (.lconst 0, 1) := by decide +kernel
theorem dX1_isOverdue_5 : decode prog_3_method_3_code 5 = .ok (.lcmp, 1) := by decide +kernel
theorem dX1_isOverdue_6 : decode prog_3_method_3_code 6 = .ok (.ifCond .le 22, 3) := by decide +kernel
theorem dX1_isOverdue_9 : decode prog_3_method_3_code 9 = .ok (.aload_n 0, 1) := by decide +kernel
theorem dX1_isOverdue_10 : decode prog_3_method_3_code 10 = .ok (.getfield 26, 3) := by decide +kernel
theorem dX1_isOverdue_13 : decode prog_3_method_3_code 13 = .ok (.ifCond .ne 15, 3) := by decide +kernel
theorem dX1_isOverdue_16 : decode prog_3_method_3_code 16 = .ok (.iload_n 1, 1) := by decide +kernel
theorem dX1_isOverdue_17 : decode prog_3_method_3_code 17 = .ok (.aload_n 0, 1) := by decide +kernel
theorem dX1_isOverdue_18 : decode prog_3_method_3_code 18 = .ok (.getfield 17, 3) := by decide +kernel
theorem dX1_isOverdue_21 : decode prog_3_method_3_code 21 = .ok (.if_icmp .le 7, 3) := by decide +kernel
theorem dX1_isOverdue_24 : decode prog_3_method_3_code 24 = .ok (.iconst 1, 1) := by decide +kernel
theorem dX1_isOverdue_25 : decode prog_3_method_3_code 25 = .ok (.goto 4, 3) := by decide +kernel
theorem dX1_isOverdue_28 : decode prog_3_method_3_code 28 = .ok (.iconst 0, 1) := by decide +kernel
theorem dX1_isOverdue_29 : decode prog_3_method_3_code 29 = .ok (.ireturn, 1) := by decide +kernel
theorem dX1_monthsOverdue_0 : decode prog_3_method_4_code 0 = .ok (.aload_n 0, 1) := by decide +kernel
theorem dX1_monthsOverdue_1 : decode prog_3_method_4_code 1 = .ok (.iload_n 1, 1) := by decide +kernel
theorem dX1_monthsOverdue_2 : decode prog_3_method_4_code 2 = .ok (.invokevirtual 30, 3) := by decide +kernel
theorem dX1_monthsOverdue_5 : decode prog_3_method_4_code 5 = .ok (.ifCond .eq 12, 3) := by decide +kernel
theorem dX1_monthsOverdue_8 : decode prog_3_method_4_code 8 = .ok (.iload_n 1, 1) := by decide +kernel
theorem dX1_monthsOverdue_9 : decode prog_3_method_4_code 9 = .ok (.aload_n 0, 1) := by decide +kernel
theorem dX1_monthsOverdue_10 : decode prog_3_method_4_code 10 = .ok (.getfield 17, 3) := by decide +kernel
theorem dX1_monthsOverdue_13 : decode prog_3_method_4_code 13 = .ok (.isub, 1) := by decide +kernel
theorem dX1_monthsOverdue_14 : decode prog_3_method_4_code 14 = .ok (.goto 4, 3) := by decide +kernel
theorem dX1_monthsOverdue_17 : decode prog_3_method_4_code 17 = .ok (.iconst 0, 1) := by decide +kernel
theorem dX1_monthsOverdue_18 : decode prog_3_method_4_code 18 = .ok (.ireturn, 1) := by decide +kernel
theorem dX2_init_0 : decode prog_4_method_1_code 0 = .ok (.aload_n 0, 1) := by decide +kernel
theorem dX2_init_1 : decode prog_4_method_1_code 1 = .ok (.invokespecial 1, 3) := by decide +kernel
theorem dX2_init_4 : decode prog_4_method_1_code 4 = .ok (.return_, 1) := by decide +kernel
theorem dX3_init_0 : decode prog_5_method_1_code 0 = .ok (.aload_n 0, 1) := by decide +kernel
theorem dX3_init_1 : decode prog_5_method_1_code 1 = .ok (.invokespecial 1, 3) := by decide +kernel
theorem dX3_init_4 : decode prog_5_method_1_code 4 = .ok (.aload_n 0, 1) := by decide +kernel
theorem dX3_init_5 : decode prog_5_method_1_code 5 = .ok (.iload_n 1, 1) := by decide +kernel
theorem dX3_init_6 : decode prog_5_method_1_code 6 = .ok (.putfield 7, 3) := by decide +kernel
theorem dX3_init_9 : decode prog_5_method_1_code 9 = .ok (.aload_n 0, 1) := by decide +kernel
theorem dX3_init_10 : decode prog_5_method_1_code 10 = .ok (.iload_n 2, 1) := by decide +kernel
theorem dX3_init_11 : decode prog_5_method_1_code 11 = .ok (.putfield 13, 3) := by decide +kernel
theorem dX3_init_14 : decode prog_5_method_1_code 14 = .ok (.aload_n 0, 1) := by decide +kernel
theorem dX3_init_15 : decode prog_5_method_1_code 15 = .ok (.lload_n 3, 1) := by decide +kernel
theorem dX3_init_16 : decode prog_5_method_1_code 16 = .ok (.putfield 16, 3) := by decide +kernel
theorem dX3_init_19 : decode prog_5_method_1_code 19 = .ok (.return_, 1) := by decide +kernel
theorem dX4_init_0 : decode prog_1_method_1_code 0 = .ok (.aload_n 0, 1) := by decide +kernel
theorem dX4_init_1 : decode prog_1_method_1_code 1 = .ok (.invokespecial 1, 3) := by decide +kernel
theorem dX4_init_4 : decode prog_1_method_1_code 4 = .ok (.aload_n 0, 1) := by decide +kernel
theorem dX4_init_5 : decode prog_1_method_1_code 5 = .ok (.bipush 6, 2) := by decide +kernel
theorem dX4_init_7 : decode prog_1_method_1_code 7 = .ok (.anewarray 9, 3) := by decide +kernel
theorem dX4_init_10 : decode prog_1_method_1_code 10 = .ok (.putfield 11, 3) := by decide +kernel
theorem dX4_init_13 : decode prog_1_method_1_code 13 = .ok (.aload_n 0, 1) := by decide +kernel
theorem dX4_init_14 : decode prog_1_method_1_code 14 = .ok (.bipush 20, 2) := by decide +kernel
theorem dX4_init_16 : decode prog_1_method_1_code 16 = .ok (.newarray .int, 2) := by decide +kernel
theorem dX4_init_18 : decode prog_1_method_1_code 18 = .ok (.putfield 15, 3) := by decide +kernel
theorem dX4_init_21 : decode prog_1_method_1_code 21 = .ok (.aload_n 0, 1) := by decide +kernel
theorem dX4_init_22 : decode prog_1_method_1_code 22 = .ok (.bipush 30, 2) := by decide +kernel
theorem dX4_init_24 : decode prog_1_method_1_code 24 = .ok (.anewarray 19, 3) := by decide +kernel
theorem dX4_init_27 : decode prog_1_method_1_code 27 = .ok (.putfield 21, 3) := by decide +kernel
theorem dX4_init_30 : decode prog_1_method_1_code 30 = .ok (.aload_n 0, 1) := by decide +kernel
theorem dX4_init_31 : decode prog_1_method_1_code 31 = .ok (.bipush 20, 2) := by decide +kernel
theorem dX4_init_33 : decode prog_1_method_1_code 33 = .ok (.anewarray 25, 3) := by decide +kernel
theorem dX4_init_36 : decode prog_1_method_1_code 36 = .ok (.putfield 27, 3) := by decide +kernel
theorem dX4_init_39 : decode prog_1_method_1_code 39 = .ok (.return_, 1) := by decide +kernel
theorem dX4_owner_0 : decode prog_1_method_2_code 0 = .ok (.aload_n 0, 1) := by decide +kernel
theorem dX4_owner_1 : decode prog_1_method_2_code 1 = .ok (.getfield 31, 3) := by decide +kernel
theorem dX4_owner_4 : decode prog_1_method_2_code 4 = .ok (.aload_n 0, 1) := by decide +kernel
theorem dX4_owner_5 : decode prog_1_method_2_code 5 = .ok (.getfield 11, 3) := by decide +kernel
theorem dX4_owner_8 : decode prog_1_method_2_code 8 = .ok (.arraylength, 1) := by decide +kernel
theorem dX4_owner_9 : decode prog_1_method_2_code 9 = .ok (.invokestatic 35, 3) := by decide +kernel
theorem dX4_owner_12 : decode prog_1_method_2_code 12 = .ok (.aload_n 0, 1) := by decide +kernel
theorem dX4_owner_13 : decode prog_1_method_2_code 13 = .ok (.getfield 31, 3) := by decide +kernel
theorem dX4_owner_16 : decode prog_1_method_2_code 16 = .ok (.istore_n 1, 1) := by decide +kernel
theorem dX4_owner_17 : decode prog_1_method_2_code 17 = .ok (.aload_n 0, 1) := by decide +kernel
theorem dX4_owner_18 : decode prog_1_method_2_code 18 = .ok (.getfield 11, 3) := by decide +kernel
theorem dX4_owner_21 : decode prog_1_method_2_code 21 = .ok (.iload_n 1, 1) := by decide +kernel
theorem dX4_owner_22 : decode prog_1_method_2_code 22 = .ok (.new 9, 3) := by decide +kernel
theorem dX4_owner_25 : decode prog_1_method_2_code 25 = .ok (.dup, 1) := by decide +kernel
theorem dX4_owner_26 : decode prog_1_method_2_code 26 = .ok (.invokespecial 39, 3) := by decide +kernel
theorem dX4_owner_29 : decode prog_1_method_2_code 29 = .ok (.aastore, 1) := by decide +kernel
theorem dX4_owner_30 : decode prog_1_method_2_code 30 = .ok (.aload_n 0, 1) := by decide +kernel
theorem dX4_owner_31 : decode prog_1_method_2_code 31 = .ok (.dup, 1) := by decide +kernel
theorem dX4_owner_32 : decode prog_1_method_2_code 32 = .ok (.getfield 31, 3) := by decide +kernel
theorem dX4_owner_35 : decode prog_1_method_2_code 35 = .ok (.iconst 1, 1) := by decide +kernel
theorem dX4_owner_36 : decode prog_1_method_2_code 36 = .ok (.iadd, 1) := by decide +kernel
theorem dX4_owner_37 : decode prog_1_method_2_code 37 = .ok (.putfield 31, 3) := by decide +kernel
theorem dX4_owner_40 : decode prog_1_method_2_code 40 = .ok (.iload_n 1, 1) := by decide +kernel
theorem dX4_owner_41 : decode prog_1_method_2_code 41 = .ok (.ireturn, 1) := by decide +kernel
theorem dX4_account_0 : decode prog_1_method_3_code 0 = .ok (.aload_n 0, 1) := by decide +kernel
theorem dX4_account_1 : decode prog_1_method_3_code 1 = .ok (.iload_n 1, 1) := by decide +kernel
theorem dX4_account_2 : decode prog_1_method_3_code 2 = .ok (.invokevirtual 40, 3) := by decide +kernel
theorem dX4_account_5 : decode prog_1_method_3_code 5 = .ok (.pop, 1) := by decide +kernel
theorem dX4_account_6 : decode prog_1_method_3_code 6 = .ok (.iload_n 2, 1) := by decide +kernel
theorem dX4_account_7 : decode prog_1_method_3_code 7 = .ok (.i2l, 1) := by decide +kernel
theorem dX4_account_8 : decode prog_1_method_3_code 8 = .ok (.lconst 0, 1) := by decide +kernel
theorem dX4_account_9 : decode prog_1_method_3_code 9 = .ok (.ldc2_w 44, 3) := by decide +kernel
theorem dX4_account_12 : decode prog_1_method_3_code 12 = .ok (.invokestatic 46, 3) := by decide +kernel
theorem dX4_account_15 : decode prog_1_method_3_code 15 = .ok (.aload_n 0, 1) := by decide +kernel
theorem dX4_account_16 : decode prog_1_method_3_code 16 = .ok (.getfield 50, 3) := by decide +kernel
theorem dX4_account_19 : decode prog_1_method_3_code 19 = .ok (.aload_n 0, 1) := by decide +kernel
theorem dX4_account_20 : decode prog_1_method_3_code 20 = .ok (.getfield 15, 3) := by decide +kernel
theorem dX4_account_23 : decode prog_1_method_3_code 23 = .ok (.arraylength, 1) := by decide +kernel
theorem dX4_account_24 : decode prog_1_method_3_code 24 = .ok (.invokestatic 35, 3) := by decide +kernel
theorem dX4_account_27 : decode prog_1_method_3_code 27 = .ok (.aload_n 0, 1) := by decide +kernel
theorem dX4_account_28 : decode prog_1_method_3_code 28 = .ok (.getfield 50, 3) := by decide +kernel
theorem dX4_account_31 : decode prog_1_method_3_code 31 = .ok (.istore_n 3, 1) := by decide +kernel
theorem dX4_account_32 : decode prog_1_method_3_code 32 = .ok (.aload_n 0, 1) := by decide +kernel
theorem dX4_account_33 : decode prog_1_method_3_code 33 = .ok (.getfield 15, 3) := by decide +kernel
theorem dX4_account_36 : decode prog_1_method_3_code 36 = .ok (.iload_n 3, 1) := by decide +kernel
theorem dX4_account_37 : decode prog_1_method_3_code 37 = .ok (.iload_n 2, 1) := by decide +kernel
theorem dX4_account_38 : decode prog_1_method_3_code 38 = .ok (.iastore, 1) := by decide +kernel
theorem dX4_account_39 : decode prog_1_method_3_code 39 = .ok (.aload_n 0, 1) := by decide +kernel
theorem dX4_account_40 : decode prog_1_method_3_code 40 = .ok (.dup, 1) := by decide +kernel
theorem dX4_account_41 : decode prog_1_method_3_code 41 = .ok (.getfield 50, 3) := by decide +kernel
theorem dX4_account_44 : decode prog_1_method_3_code 44 = .ok (.iconst 1, 1) := by decide +kernel
theorem dX4_account_45 : decode prog_1_method_3_code 45 = .ok (.iadd, 1) := by decide +kernel
theorem dX4_account_46 : decode prog_1_method_3_code 46 = .ok (.putfield 50, 3) := by decide +kernel
theorem dX4_account_49 : decode prog_1_method_3_code 49 = .ok (.iload_n 3, 1) := by decide +kernel
theorem dX4_account_50 : decode prog_1_method_3_code 50 = .ok (.ireturn, 1) := by decide +kernel
theorem dX4_month_0 : decode prog_1_method_4_code 0 = .ok (.iload_n 1, 1) := by decide +kernel
theorem dX4_month_1 : decode prog_1_method_4_code 1 = .ok (.i2l, 1) := by decide +kernel
theorem dX4_month_2 : decode prog_1_method_4_code 2 = .ok (.aload_n 0, 1) := by decide +kernel
theorem dX4_month_3 : decode prog_1_method_4_code 3 = .ok (.getfield 53, 3) := by decide +kernel
theorem dX4_month_6 : decode prog_1_method_4_code 6 = .ok (.i2l, 1) := by decide +kernel
theorem dX4_month_7 : decode prog_1_method_4_code 7 = .ok (.ldc2_w 56, 3) := by decide +kernel
theorem dX4_month_10 : decode prog_1_method_4_code 10 = .ok (.invokestatic 46, 3) := by decide +kernel
theorem dX4_month_13 : decode prog_1_method_4_code 13 = .ok (.aload_n 0, 1) := by decide +kernel
theorem dX4_month_14 : decode prog_1_method_4_code 14 = .ok (.iload_n 1, 1) := by decide +kernel
theorem dX4_month_15 : decode prog_1_method_4_code 15 = .ok (.putfield 53, 3) := by decide +kernel
theorem dX4_month_18 : decode prog_1_method_4_code 18 = .ok (.return_, 1) := by decide +kernel
theorem dX4_close_0 : decode prog_1_method_5_code 0 = .ok (.iload_n 1, 1) := by decide +kernel
theorem dX4_close_1 : decode prog_1_method_5_code 1 = .ok (.i2l, 1) := by decide +kernel
theorem dX4_close_2 : decode prog_1_method_5_code 2 = .ok (.lconst 0, 1) := by decide +kernel
theorem dX4_close_3 : decode prog_1_method_5_code 3 = .ok (.aload_n 0, 1) := by decide +kernel
theorem dX4_close_4 : decode prog_1_method_5_code 4 = .ok (.getfield 53, 3) := by decide +kernel
theorem dX4_close_7 : decode prog_1_method_5_code 7 = .ok (.i2l, 1) := by decide +kernel
theorem dX4_close_8 : decode prog_1_method_5_code 8 = .ok (.invokestatic 46, 3) := by decide +kernel
theorem dX4_close_11 : decode prog_1_method_5_code 11 = .ok (.iload_n 1, 1) := by decide +kernel
theorem dX4_close_12 : decode prog_1_method_5_code 12 = .ok (.aload_n 0, 1) := by decide +kernel
theorem dX4_close_13 : decode prog_1_method_5_code 13 = .ok (.getfield 58, 3) := by decide +kernel
theorem dX4_close_16 : decode prog_1_method_5_code 16 = .ok (.if_icmp .ge 13, 3) := by decide +kernel
theorem dX4_close_19 : decode prog_1_method_5_code 19 = .ok (.new 61, 3) := by decide +kernel
theorem dX4_close_22 : decode prog_1_method_5_code 22 = .ok (.dup, 1) := by decide +kernel
theorem dX4_close_23 : decode prog_1_method_5_code 23 = .ok (.ldc 63, 2) := by decide +kernel
theorem dX4_close_25 : decode prog_1_method_5_code 25 = .ok (.invokespecial 65, 3) := by decide +kernel
theorem dX4_close_28 : decode prog_1_method_5_code 28 = .ok (.athrow, 1) := by decide +kernel
theorem dX4_close_29 : decode prog_1_method_5_code 29 = .ok (.iload_n 1, 1) := by decide +kernel
theorem dX4_close_30 : decode prog_1_method_5_code 30 = .ok (.aload_n 0, 1) := by decide +kernel
theorem dX4_close_31 : decode prog_1_method_5_code 31 = .ok (.getfield 58, 3) := by decide +kernel
theorem dX4_close_34 : decode prog_1_method_5_code 34 = .ok (.isub, 1) := by decide +kernel
theorem dX4_close_35 : decode prog_1_method_5_code 35 = .ok (.istore_n 2, 1) := by decide +kernel
theorem dX4_close_36 : decode prog_1_method_5_code 36 = .ok (.aload_n 0, 1) := by decide +kernel
theorem dX4_close_37 : decode prog_1_method_5_code 37 = .ok (.iload_n 1, 1) := by decide +kernel
theorem dX4_close_38 : decode prog_1_method_5_code 38 = .ok (.putfield 58, 3) := by decide +kernel
theorem dX4_close_41 : decode prog_1_method_5_code 41 = .ok (.iload_n 2, 1) := by decide +kernel
theorem dX4_close_42 : decode prog_1_method_5_code 42 = .ok (.ireturn, 1) := by decide +kernel
theorem dX4_batch_0 : decode prog_1_method_6_code 0 = .ok (.iload_n 1, 1) := by decide +kernel
theorem dX4_batch_1 : decode prog_1_method_6_code 1 = .ok (.i2l, 1) := by decide +kernel
theorem dX4_batch_2 : decode prog_1_method_6_code 2 = .ok (.lconst 0, 1) := by decide +kernel
theorem dX4_batch_3 : decode prog_1_method_6_code 3 = .ok (.aload_n 0, 1) := by decide +kernel
theorem dX4_batch_4 : decode prog_1_method_6_code 4 = .ok (.getfield 53, 3) := by decide +kernel
theorem dX4_batch_7 : decode prog_1_method_6_code 7 = .ok (.i2l, 1) := by decide +kernel
theorem dX4_batch_8 : decode prog_1_method_6_code 8 = .ok (.invokestatic 46, 3) := by decide +kernel
theorem dX4_batch_11 : decode prog_1_method_6_code 11 = .ok (.iload_n 1, 1) := by decide +kernel
theorem dX4_batch_12 : decode prog_1_method_6_code 12 = .ok (.aload_n 0, 1) := by decide +kernel
theorem dX4_batch_13 : decode prog_1_method_6_code 13 = .ok (.getfield 58, 3) := by decide +kernel
theorem dX4_batch_16 : decode prog_1_method_6_code 16 = .ok (.if_icmp .ge 13, 3) := by decide +kernel
theorem dX4_batch_19 : decode prog_1_method_6_code 19 = .ok (.new 61, 3) := by decide +kernel
theorem dX4_batch_22 : decode prog_1_method_6_code 22 = .ok (.dup, 1) := by decide +kernel
theorem dX4_batch_23 : decode prog_1_method_6_code 23 = .ok (.ldc 68, 2) := by decide +kernel
theorem dX4_batch_25 : decode prog_1_method_6_code 25 = .ok (.invokespecial 65, 3) := by decide +kernel
theorem dX4_batch_28 : decode prog_1_method_6_code 28 = .ok (.athrow, 1) := by decide +kernel
theorem dX4_batch_29 : decode prog_1_method_6_code 29 = .ok (.aload_n 0, 1) := by decide +kernel
theorem dX4_batch_30 : decode prog_1_method_6_code 30 = .ok (.new 19, 3) := by decide +kernel
theorem dX4_batch_33 : decode prog_1_method_6_code 33 = .ok (.dup, 1) := by decide +kernel
theorem dX4_batch_34 : decode prog_1_method_6_code 34 = .ok (.iload_n 1, 1) := by decide +kernel
theorem dX4_batch_35 : decode prog_1_method_6_code 35 = .ok (.invokespecial 70, 3) := by decide +kernel
theorem dX4_batch_38 : decode prog_1_method_6_code 38 = .ok (.invokevirtual 73, 3) := by decide +kernel
theorem dX4_batch_41 : decode prog_1_method_6_code 41 = .ok (.ireturn, 1) := by decide +kernel
theorem dX4_row_0 : decode prog_1_method_7_code 0 = .ok (.aload_n 0, 1) := by decide +kernel
theorem dX4_row_1 : decode prog_1_method_7_code 1 = .ok (.iload_n 1, 1) := by decide +kernel
theorem dX4_row_2 : decode prog_1_method_7_code 2 = .ok (.invokevirtual 77, 3) := by decide +kernel
theorem dX4_row_5 : decode prog_1_method_7_code 5 = .ok (.astore 5, 2) := by decide +kernel
theorem dX4_row_7 : decode prog_1_method_7_code 7 = .ok (.aload_n 0, 1) := by decide +kernel
theorem dX4_row_8 : decode prog_1_method_7_code 8 = .ok (.iload_n 2, 1) := by decide +kernel
theorem dX4_row_9 : decode prog_1_method_7_code 9 = .ok (.invokevirtual 81, 3) := by decide +kernel
theorem dX4_row_12 : decode prog_1_method_7_code 12 = .ok (.istore 6, 2) := by decide +kernel
theorem dX4_row_14 : decode prog_1_method_7_code 14 = .ok (.lload_n 3, 1) := by decide +kernel
theorem dX4_row_15 : decode prog_1_method_7_code 15 = .ok (.ldc2_w 85, 3) := by decide +kernel
theorem dX4_row_18 : decode prog_1_method_7_code 18 = .ok (.ldc2_w 87, 3) := by decide +kernel
theorem dX4_row_21 : decode prog_1_method_7_code 21 = .ok (.invokestatic 46, 3) := by decide +kernel
theorem dX4_row_24 : decode prog_1_method_7_code 24 = .ok (.lload_n 3, 1) := by decide +kernel
theorem dX4_row_25 : decode prog_1_method_7_code 25 = .ok (.lconst 0, 1) := by decide +kernel
theorem dX4_row_26 : decode prog_1_method_7_code 26 = .ok (.lcmp, 1) := by decide +kernel
theorem dX4_row_27 : decode prog_1_method_7_code 27 = .ok (.ifCond .ne 13, 3) := by decide +kernel
theorem dX4_row_30 : decode prog_1_method_7_code 30 = .ok (.new 89, 3) := by decide +kernel
theorem dX4_row_33 : decode prog_1_method_7_code 33 = .ok (.dup, 1) := by decide +kernel
theorem dX4_row_34 : decode prog_1_method_7_code 34 = .ok (.ldc 91, 2) := by decide +kernel
theorem dX4_row_36 : decode prog_1_method_7_code 36 = .ok (.invokespecial 93, 3) := by decide +kernel
theorem dX4_row_39 : decode prog_1_method_7_code 39 = .ok (.athrow, 1) := by decide +kernel
theorem dX4_row_40 : decode prog_1_method_7_code 40 = .ok (.aload 5, 2) := by decide +kernel
theorem dX4_row_42 : decode prog_1_method_7_code 42 = .ok (.invokestatic 94, 3) := by decide +kernel
theorem dX4_row_45 : decode prog_1_method_7_code 45 = .ok (.aload 5, 2) := by decide +kernel
theorem dX4_row_47 : decode prog_1_method_7_code 47 = .ok (.new 98, 3) := by decide +kernel
theorem dX4_row_50 : decode prog_1_method_7_code 50 = .ok (.dup, 1) := by decide +kernel
theorem dX4_row_51 : decode prog_1_method_7_code 51 = .ok (.iload_n 2, 1) := by decide +kernel
theorem dX4_row_52 : decode prog_1_method_7_code 52 = .ok (.iload 6, 2) := by decide +kernel
theorem dX4_row_54 : decode prog_1_method_7_code 54 = .ok (.lload_n 3, 1) := by decide +kernel
theorem dX4_row_55 : decode prog_1_method_7_code 55 = .ok (.invokespecial 100, 3) := by decide +kernel
theorem dX4_row_58 : decode prog_1_method_7_code 58 = .ok (.invokevirtual 103, 3) := by decide +kernel
theorem dX4_row_61 : decode prog_1_method_7_code 61 = .ok (.aload 5, 2) := by decide +kernel
theorem dX4_row_63 : decode prog_1_method_7_code 63 = .ok (.getfield 107, 3) := by decide +kernel
theorem dX4_row_66 : decode prog_1_method_7_code 66 = .ok (.ireturn, 1) := by decide +kernel
theorem dX4_breaks_0 : decode prog_1_method_8_code 0 = .ok (.aload_n 0, 1) := by decide +kernel
theorem dX4_breaks_1 : decode prog_1_method_8_code 1 = .ok (.iload_n 1, 1) := by decide +kernel
theorem dX4_breaks_2 : decode prog_1_method_8_code 2 = .ok (.invokevirtual 77, 3) := by decide +kernel
theorem dX4_breaks_5 : decode prog_1_method_8_code 5 = .ok (.astore 4, 2) := by decide +kernel
theorem dX4_breaks_7 : decode prog_1_method_8_code 7 = .ok (.aload 4, 2) := by decide +kernel
theorem dX4_breaks_9 : decode prog_1_method_8_code 9 = .ok (.iload_n 2, 1) := by decide +kernel
theorem dX4_breaks_10 : decode prog_1_method_8_code 10 = .ok (.invokestatic 110, 3) := by decide +kernel
theorem dX4_breaks_13 : decode prog_1_method_8_code 13 = .ok (.astore 5, 2) := by decide +kernel
theorem dX4_breaks_15 : decode prog_1_method_8_code 15 = .ok (.aload 4, 2) := by decide +kernel
theorem dX4_breaks_17 : decode prog_1_method_8_code 17 = .ok (.invokestatic 94, 3) := by decide +kernel
theorem dX4_breaks_20 : decode prog_1_method_8_code 20 = .ok (.aload 5, 2) := by decide +kernel
theorem dX4_breaks_22 : decode prog_1_method_8_code 22 = .ok (.iload_n 3, 1) := by decide +kernel
theorem dX4_breaks_23 : decode prog_1_method_8_code 23 = .ok (.putfield 114, 3) := by decide +kernel
theorem dX4_breaks_26 : decode prog_1_method_8_code 26 = .ok (.return_, 1) := by decide +kernel
theorem dX4_post_0 : decode prog_1_method_9_code 0 = .ok (.aload_n 0, 1) := by decide +kernel
theorem dX4_post_1 : decode prog_1_method_9_code 1 = .ok (.iload_n 1, 1) := by decide +kernel
theorem dX4_post_2 : decode prog_1_method_9_code 2 = .ok (.invokevirtual 77, 3) := by decide +kernel
theorem dX4_post_5 : decode prog_1_method_9_code 5 = .ok (.astore_n 2, 1) := by decide +kernel
theorem dX4_post_6 : decode prog_1_method_9_code 6 = .ok (.aload_n 2, 1) := by decide +kernel
theorem dX4_post_7 : decode prog_1_method_9_code 7 = .ok (.invokestatic 94, 3) := by decide +kernel
theorem dX4_post_10 : decode prog_1_method_9_code 10 = .ok (.aload_n 2, 1) := by decide +kernel
theorem dX4_post_11 : decode prog_1_method_9_code 11 = .ok (.getfield 118, 3) := by decide +kernel
theorem dX4_post_14 : decode prog_1_method_9_code 14 = .ok (.aload_n 0, 1) := by decide +kernel
theorem dX4_post_15 : decode prog_1_method_9_code 15 = .ok (.getfield 58, 3) := by decide +kernel
theorem dX4_post_18 : decode prog_1_method_9_code 18 = .ok (.if_icmp .ge 13, 3) := by decide +kernel
theorem dX4_post_21 : decode prog_1_method_9_code 21 = .ok (.new 61, 3) := by decide +kernel
theorem dX4_post_24 : decode prog_1_method_9_code 24 = .ok (.dup, 1) := by decide +kernel
theorem dX4_post_25 : decode prog_1_method_9_code 25 = .ok (.ldc 121, 2) := by decide +kernel
theorem dX4_post_27 : decode prog_1_method_9_code 27 = .ok (.invokespecial 65, 3) := by decide +kernel
theorem dX4_post_30 : decode prog_1_method_9_code 30 = .ok (.athrow, 1) := by decide +kernel
theorem dX4_post_31 : decode prog_1_method_9_code 31 = .ok (.aload_n 2, 1) := by decide +kernel
theorem dX4_post_32 : decode prog_1_method_9_code 32 = .ok (.getfield 107, 3) := by decide +kernel
theorem dX4_post_35 : decode prog_1_method_9_code 35 = .ok (.ifCond .ne 13, 3) := by decide +kernel
theorem dX4_post_38 : decode prog_1_method_9_code 38 = .ok (.new 61, 3) := by decide +kernel
theorem dX4_post_41 : decode prog_1_method_9_code 41 = .ok (.dup, 1) := by decide +kernel
theorem dX4_post_42 : decode prog_1_method_9_code 42 = .ok (.ldc 123, 2) := by decide +kernel
theorem dX4_post_44 : decode prog_1_method_9_code 44 = .ok (.invokespecial 65, 3) := by decide +kernel
theorem dX4_post_47 : decode prog_1_method_9_code 47 = .ok (.athrow, 1) := by decide +kernel
theorem dX4_post_48 : decode prog_1_method_9_code 48 = .ok (.aload_n 2, 1) := by decide +kernel
theorem dX4_post_49 : decode prog_1_method_9_code 49 = .ok (.invokevirtual 125, 3) := by decide +kernel
theorem dX4_post_52 : decode prog_1_method_9_code 52 = .ok (.istore_n 3, 1) := by decide +kernel
theorem dX4_post_53 : decode prog_1_method_9_code 53 = .ok (.iload_n 3, 1) := by decide +kernel
theorem dX4_post_54 : decode prog_1_method_9_code 54 = .ok (.iconst (-1), 1) := by decide +kernel
theorem dX4_post_55 : decode prog_1_method_9_code 55 = .ok (.if_icmp .ne 14, 3) := by decide +kernel
theorem dX4_post_58 : decode prog_1_method_9_code 58 = .ok (.aload_n 2, 1) := by decide +kernel
theorem dX4_post_59 : decode prog_1_method_9_code 59 = .ok (.invokevirtual 129, 3) := by decide +kernel
theorem dX4_post_62 : decode prog_1_method_9_code 62 = .ok (.ifCond .eq 7, 3) := by decide +kernel
theorem dX4_post_65 : decode prog_1_method_9_code 65 = .ok (.iconst 1, 1) := by decide +kernel
theorem dX4_post_66 : decode prog_1_method_9_code 66 = .ok (.goto 4, 3) := by decide +kernel
theorem dX4_post_69 : decode prog_1_method_9_code 69 = .ok (.iconst 0, 1) := by decide +kernel
theorem dX4_post_70 : decode prog_1_method_9_code 70 = .ok (.istore 4, 2) := by decide +kernel
theorem dX4_post_72 : decode prog_1_method_9_code 72 = .ok (.aload_n 2, 1) := by decide +kernel
theorem dX4_post_73 : decode prog_1_method_9_code 73 = .ok (.iload 4, 2) := by decide +kernel
theorem dX4_post_75 : decode prog_1_method_9_code 75 = .ok (.ifCond .eq 7, 3) := by decide +kernel
theorem dX4_post_78 : decode prog_1_method_9_code 78 = .ok (.iconst 1, 1) := by decide +kernel
theorem dX4_post_79 : decode prog_1_method_9_code 79 = .ok (.goto 4, 3) := by decide +kernel
theorem dX4_post_82 : decode prog_1_method_9_code 82 = .ok (.iconst 2, 1) := by decide +kernel
theorem dX4_post_83 : decode prog_1_method_9_code 83 = .ok (.putfield 133, 3) := by decide +kernel
theorem dX4_post_86 : decode prog_1_method_9_code 86 = .ok (.iload 4, 2) := by decide +kernel
theorem dX4_post_88 : decode prog_1_method_9_code 88 = .ok (.ifCond .eq 5, 3) := by decide +kernel
theorem dX4_post_91 : decode prog_1_method_9_code 91 = .ok (.iconst 1, 1) := by decide +kernel
theorem dX4_post_92 : decode prog_1_method_9_code 92 = .ok (.ireturn, 1) := by decide +kernel
theorem dX4_post_93 : decode prog_1_method_9_code 93 = .ok (.iload_n 3, 1) := by decide +kernel
theorem dX4_post_94 : decode prog_1_method_9_code 94 = .ok (.iconst (-1), 1) := by decide +kernel
theorem dX4_post_95 : decode prog_1_method_9_code 95 = .ok (.if_icmp .ne 8, 3) := by decide +kernel
theorem dX4_post_98 : decode prog_1_method_9_code 98 = .ok (.bipush (-9), 2) := by decide +kernel
theorem dX4_post_100 : decode prog_1_method_9_code 100 = .ok (.goto 6, 3) := by decide +kernel
theorem dX4_post_103 : decode prog_1_method_9_code 103 = .ok (.iconst (-1), 1) := by decide +kernel
theorem dX4_post_104 : decode prog_1_method_9_code 104 = .ok (.iload_n 3, 1) := by decide +kernel
theorem dX4_post_105 : decode prog_1_method_9_code 105 = .ok (.isub, 1) := by decide +kernel
theorem dX4_post_106 : decode prog_1_method_9_code 106 = .ok (.ireturn, 1) := by decide +kernel
theorem dX4_reverse_0 : decode prog_1_method_10_code 0 = .ok (.aload_n 0, 1) := by decide +kernel
theorem dX4_reverse_1 : decode prog_1_method_10_code 1 = .ok (.iload_n 1, 1) := by decide +kernel
theorem dX4_reverse_2 : decode prog_1_method_10_code 2 = .ok (.invokevirtual 77, 3) := by decide +kernel
theorem dX4_reverse_5 : decode prog_1_method_10_code 5 = .ok (.astore_n 2, 1) := by decide +kernel
theorem dX4_reverse_6 : decode prog_1_method_10_code 6 = .ok (.aload_n 2, 1) := by decide +kernel
theorem dX4_reverse_7 : decode prog_1_method_10_code 7 = .ok (.getfield 133, 3) := by decide +kernel
theorem dX4_reverse_10 : decode prog_1_method_10_code 10 = .ok (.iconst 1, 1) := by decide +kernel
theorem dX4_reverse_11 : decode prog_1_method_10_code 11 = .ok (.if_icmp .eq 13, 3) := by decide +kernel
theorem dX4_reverse_14 : decode prog_1_method_10_code 14 = .ok (.new 61, 3) := by decide +kernel
theorem dX4_reverse_17 : decode prog_1_method_10_code 17 = .ok (.dup, 1) := by decide +kernel
theorem dX4_reverse_18 : decode prog_1_method_10_code 18 = .ok (.ldc 136, 2) := by decide +kernel
theorem dX4_reverse_20 : decode prog_1_method_10_code 20 = .ok (.invokespecial 65, 3) := by decide +kernel
theorem dX4_reverse_23 : decode prog_1_method_10_code 23 = .ok (.athrow, 1) := by decide +kernel
theorem dX4_reverse_24 : decode prog_1_method_10_code 24 = .ok (.aload_n 2, 1) := by decide +kernel
theorem dX4_reverse_25 : decode prog_1_method_10_code 25 = .ok (.getfield 138, 3) := by decide +kernel
theorem dX4_reverse_28 : decode prog_1_method_10_code 28 = .ok (.ifCond .eq 13, 3) := by decide +kernel
theorem dX4_reverse_31 : decode prog_1_method_10_code 31 = .ok (.new 61, 3) := by decide +kernel
theorem dX4_reverse_34 : decode prog_1_method_10_code 34 = .ok (.dup, 1) := by decide +kernel
theorem dX4_reverse_35 : decode prog_1_method_10_code 35 = .ok (.ldc 141, 2) := by decide +kernel
theorem dX4_reverse_37 : decode prog_1_method_10_code 37 = .ok (.invokespecial 65, 3) := by decide +kernel
theorem dX4_reverse_40 : decode prog_1_method_10_code 40 = .ok (.athrow, 1) := by decide +kernel
theorem dX4_reverse_41 : decode prog_1_method_10_code 41 = .ok (.aload_n 2, 1) := by decide +kernel
theorem dX4_reverse_42 : decode prog_1_method_10_code 42 = .ok (.getfield 143, 3) := by decide +kernel
theorem dX4_reverse_45 : decode prog_1_method_10_code 45 = .ok (.ifCond .eq 13, 3) := by decide +kernel
theorem dX4_reverse_48 : decode prog_1_method_10_code 48 = .ok (.new 61, 3) := by decide +kernel
theorem dX4_reverse_51 : decode prog_1_method_10_code 51 = .ok (.dup, 1) := by decide +kernel
theorem dX4_reverse_52 : decode prog_1_method_10_code 52 = .ok (.ldc 146, 2) := by decide +kernel
theorem dX4_reverse_54 : decode prog_1_method_10_code 54 = .ok (.invokespecial 65, 3) := by decide +kernel
theorem dX4_reverse_57 : decode prog_1_method_10_code 57 = .ok (.athrow, 1) := by decide +kernel
theorem dX4_reverse_58 : decode prog_1_method_10_code 58 = .ok (.new 19, 3) := by decide +kernel
theorem dX4_reverse_61 : decode prog_1_method_10_code 61 = .ok (.dup, 1) := by decide +kernel
theorem dX4_reverse_62 : decode prog_1_method_10_code 62 = .ok (.aload_n 0, 1) := by decide +kernel
theorem dX4_reverse_63 : decode prog_1_method_10_code 63 = .ok (.getfield 53, 3) := by decide +kernel
theorem dX4_reverse_66 : decode prog_1_method_10_code 66 = .ok (.invokespecial 70, 3) := by decide +kernel
theorem dX4_reverse_69 : decode prog_1_method_10_code 69 = .ok (.astore_n 3, 1) := by decide +kernel
theorem dX4_reverse_70 : decode prog_1_method_10_code 70 = .ok (.aload_n 3, 1) := by decide +kernel
theorem dX4_reverse_71 : decode prog_1_method_10_code 71 = .ok (.aload_n 2, 1) := by decide +kernel
theorem dX4_reverse_72 : decode prog_1_method_10_code 72 = .ok (.invokevirtual 148, 3) := by decide +kernel
theorem dX4_reverse_75 : decode prog_1_method_10_code 75 = .ok (.aload_n 3, 1) := by decide +kernel
theorem dX4_reverse_76 : decode prog_1_method_10_code 76 = .ok (.iconst 1, 1) := by decide +kernel
theorem dX4_reverse_77 : decode prog_1_method_10_code 77 = .ok (.putfield 133, 3) := by decide +kernel
theorem dX4_reverse_80 : decode prog_1_method_10_code 80 = .ok (.aload_n 3, 1) := by decide +kernel
theorem dX4_reverse_81 : decode prog_1_method_10_code 81 = .ok (.iload_n 1, 1) := by decide +kernel
theorem dX4_reverse_82 : decode prog_1_method_10_code 82 = .ok (.putfield 143, 3) := by decide +kernel
theorem dX4_reverse_85 : decode prog_1_method_10_code 85 = .ok (.aload_n 2, 1) := by decide +kernel
theorem dX4_reverse_86 : decode prog_1_method_10_code 86 = .ok (.aload_n 0, 1) := by decide +kernel
theorem dX4_reverse_87 : decode prog_1_method_10_code 87 = .ok (.aload_n 3, 1) := by decide +kernel
theorem dX4_reverse_88 : decode prog_1_method_10_code 88 = .ok (.invokevirtual 73, 3) := by decide +kernel
theorem dX4_reverse_91 : decode prog_1_method_10_code 91 = .ok (.putfield 138, 3) := by decide +kernel
theorem dX4_reverse_94 : decode prog_1_method_10_code 94 = .ok (.aload_n 2, 1) := by decide +kernel
theorem dX4_reverse_95 : decode prog_1_method_10_code 95 = .ok (.getfield 138, 3) := by decide +kernel
theorem dX4_reverse_98 : decode prog_1_method_10_code 98 = .ok (.ireturn, 1) := by decide +kernel
theorem dX4_balance_0 : decode prog_1_method_11_code 0 = .ok (.aload_n 0, 1) := by decide +kernel
theorem dX4_balance_1 : decode prog_1_method_11_code 1 = .ok (.iload_n 1, 1) := by decide +kernel
theorem dX4_balance_2 : decode prog_1_method_11_code 2 = .ok (.invokevirtual 81, 3) := by decide +kernel
theorem dX4_balance_5 : decode prog_1_method_11_code 5 = .ok (.pop, 1) := by decide +kernel
theorem dX4_balance_6 : decode prog_1_method_11_code 6 = .ok (.iload_n 2, 1) := by decide +kernel
theorem dX4_balance_7 : decode prog_1_method_11_code 7 = .ok (.i2l, 1) := by decide +kernel
theorem dX4_balance_8 : decode prog_1_method_11_code 8 = .ok (.lconst 0, 1) := by decide +kernel
theorem dX4_balance_9 : decode prog_1_method_11_code 9 = .ok (.ldc2_w 56, 3) := by decide +kernel
theorem dX4_balance_12 : decode prog_1_method_11_code 12 = .ok (.invokestatic 46, 3) := by decide +kernel
theorem dX4_balance_15 : decode prog_1_method_11_code 15 = .ok (.lconst 0, 1) := by decide +kernel
theorem dX4_balance_16 : decode prog_1_method_11_code 16 = .ok (.lstore_n 3, 1) := by decide +kernel
theorem dX4_balance_17 : decode prog_1_method_11_code 17 = .ok (.aload_n 0, 1) := by decide +kernel
theorem dX4_balance_18 : decode prog_1_method_11_code 18 = .ok (.getfield 21, 3) := by decide +kernel
theorem dX4_balance_21 : decode prog_1_method_11_code 21 = .ok (.astore 5, 2) := by decide +kernel
theorem dX4_balance_23 : decode prog_1_method_11_code 23 = .ok (.aload 5, 2) := by decide +kernel
theorem dX4_balance_25 : decode prog_1_method_11_code 25 = .ok (.arraylength, 1) := by decide +kernel
theorem dX4_balance_26 : decode prog_1_method_11_code 26 = .ok (.istore 6, 2) := by decide +kernel
theorem dX4_balance_28 : decode prog_1_method_11_code 28 = .ok (.iconst 0, 1) := by decide +kernel
theorem dX4_balance_29 : decode prog_1_method_11_code 29 = .ok (.istore 7, 2) := by decide +kernel
theorem dX4_balance_31 : decode prog_1_method_11_code 31 = .ok (.iload 7, 2) := by decide +kernel
theorem dX4_balance_33 : decode prog_1_method_11_code 33 = .ok (.iload 6, 2) := by decide +kernel
theorem dX4_balance_35 : decode prog_1_method_11_code 35 = .ok (.if_icmp .ge 48, 3) := by decide +kernel
theorem dX4_balance_38 : decode prog_1_method_11_code 38 = .ok (.aload 5, 2) := by decide +kernel
theorem dX4_balance_40 : decode prog_1_method_11_code 40 = .ok (.iload 7, 2) := by decide +kernel
theorem dX4_balance_42 : decode prog_1_method_11_code 42 = .ok (.aaload, 1) := by decide +kernel
theorem dX4_balance_43 : decode prog_1_method_11_code 43 = .ok (.astore 8, 2) := by decide +kernel
theorem dX4_balance_45 : decode prog_1_method_11_code 45 = .ok (.aload 8, 2) := by decide +kernel
theorem dX4_balance_47 : decode prog_1_method_11_code 47 = .ok (.ifnull 30, 3) := by decide +kernel
theorem dX4_balance_50 : decode prog_1_method_11_code 50 = .ok (.aload 8, 2) := by decide +kernel
theorem dX4_balance_52 : decode prog_1_method_11_code 52 = .ok (.getfield 133, 3) := by decide +kernel
theorem dX4_balance_55 : decode prog_1_method_11_code 55 = .ok (.iconst 1, 1) := by decide +kernel
theorem dX4_balance_56 : decode prog_1_method_11_code 56 = .ok (.if_icmp .ne 21, 3) := by decide +kernel
theorem dX4_balance_59 : decode prog_1_method_11_code 59 = .ok (.aload 8, 2) := by decide +kernel
theorem dX4_balance_61 : decode prog_1_method_11_code 61 = .ok (.getfield 118, 3) := by decide +kernel
theorem dX4_balance_64 : decode prog_1_method_11_code 64 = .ok (.iload_n 2, 1) := by decide +kernel
theorem dX4_balance_65 : decode prog_1_method_11_code 65 = .ok (.if_icmp .gt 12, 3) := by decide +kernel
theorem dX4_balance_68 : decode prog_1_method_11_code 68 = .ok (.lload_n 3, 1) := by decide +kernel
theorem dX4_balance_69 : decode prog_1_method_11_code 69 = .ok (.aload 8, 2) := by decide +kernel
theorem dX4_balance_71 : decode prog_1_method_11_code 71 = .ok (.iload_n 1, 1) := by decide +kernel
theorem dX4_balance_72 : decode prog_1_method_11_code 72 = .ok (.invokevirtual 151, 3) := by decide +kernel
theorem dX4_balance_75 : decode prog_1_method_11_code 75 = .ok (.ladd, 1) := by decide +kernel
theorem dX4_balance_76 : decode prog_1_method_11_code 76 = .ok (.lstore_n 3, 1) := by decide +kernel
theorem dX4_balance_77 : decode prog_1_method_11_code 77 = .ok (.iinc 7 1, 3) := by decide +kernel
theorem dX4_balance_80 : decode prog_1_method_11_code 80 = .ok (.goto (-49), 3) := by decide +kernel
theorem dX4_balance_83 : decode prog_1_method_11_code 83 = .ok (.lload_n 3, 1) := by decide +kernel
theorem dX4_balance_84 : decode prog_1_method_11_code 84 = .ok (.lreturn, 1) := by decide +kernel
theorem dX4_all_0 : decode prog_1_method_12_code 0 = .ok (.iload_n 1, 1) := by decide +kernel
theorem dX4_all_1 : decode prog_1_method_12_code 1 = .ok (.i2l, 1) := by decide +kernel
theorem dX4_all_2 : decode prog_1_method_12_code 2 = .ok (.lconst 0, 1) := by decide +kernel
theorem dX4_all_3 : decode prog_1_method_12_code 3 = .ok (.ldc2_w 44, 3) := by decide +kernel
theorem dX4_all_6 : decode prog_1_method_12_code 6 = .ok (.invokestatic 46, 3) := by decide +kernel
theorem dX4_all_9 : decode prog_1_method_12_code 9 = .ok (.lconst 0, 1) := by decide +kernel
theorem dX4_all_10 : decode prog_1_method_12_code 10 = .ok (.lstore_n 2, 1) := by decide +kernel
theorem dX4_all_11 : decode prog_1_method_12_code 11 = .ok (.aload_n 0, 1) := by decide +kernel
theorem dX4_all_12 : decode prog_1_method_12_code 12 = .ok (.getfield 21, 3) := by decide +kernel
theorem dX4_all_15 : decode prog_1_method_12_code 15 = .ok (.astore 4, 2) := by decide +kernel
theorem dX4_all_17 : decode prog_1_method_12_code 17 = .ok (.aload 4, 2) := by decide +kernel
theorem dX4_all_19 : decode prog_1_method_12_code 19 = .ok (.arraylength, 1) := by decide +kernel
theorem dX4_all_20 : decode prog_1_method_12_code 20 = .ok (.istore 5, 2) := by decide +kernel
theorem dX4_all_22 : decode prog_1_method_12_code 22 = .ok (.iconst 0, 1) := by decide +kernel
theorem dX4_all_23 : decode prog_1_method_12_code 23 = .ok (.istore 6, 2) := by decide +kernel
theorem dX4_all_25 : decode prog_1_method_12_code 25 = .ok (.iload 6, 2) := by decide +kernel
theorem dX4_all_27 : decode prog_1_method_12_code 27 = .ok (.iload 5, 2) := by decide +kernel
theorem dX4_all_29 : decode prog_1_method_12_code 29 = .ok (.if_icmp .ge 39, 3) := by decide +kernel
theorem dX4_all_32 : decode prog_1_method_12_code 32 = .ok (.aload 4, 2) := by decide +kernel
theorem dX4_all_34 : decode prog_1_method_12_code 34 = .ok (.iload 6, 2) := by decide +kernel
theorem dX4_all_36 : decode prog_1_method_12_code 36 = .ok (.aaload, 1) := by decide +kernel
theorem dX4_all_37 : decode prog_1_method_12_code 37 = .ok (.astore 7, 2) := by decide +kernel
theorem dX4_all_39 : decode prog_1_method_12_code 39 = .ok (.aload 7, 2) := by decide +kernel
theorem dX4_all_41 : decode prog_1_method_12_code 41 = .ok (.ifnull 21, 3) := by decide +kernel
theorem dX4_all_44 : decode prog_1_method_12_code 44 = .ok (.aload 7, 2) := by decide +kernel
theorem dX4_all_46 : decode prog_1_method_12_code 46 = .ok (.getfield 133, 3) := by decide +kernel
theorem dX4_all_49 : decode prog_1_method_12_code 49 = .ok (.iconst 1, 1) := by decide +kernel
theorem dX4_all_50 : decode prog_1_method_12_code 50 = .ok (.if_icmp .ne 12, 3) := by decide +kernel
theorem dX4_all_53 : decode prog_1_method_12_code 53 = .ok (.lload_n 2, 1) := by decide +kernel
theorem dX4_all_54 : decode prog_1_method_12_code 54 = .ok (.aload 7, 2) := by decide +kernel
theorem dX4_all_56 : decode prog_1_method_12_code 56 = .ok (.iload_n 1, 1) := by decide +kernel
theorem dX4_all_57 : decode prog_1_method_12_code 57 = .ok (.invokevirtual 155, 3) := by decide +kernel
theorem dX4_all_60 : decode prog_1_method_12_code 60 = .ok (.ladd, 1) := by decide +kernel
theorem dX4_all_61 : decode prog_1_method_12_code 61 = .ok (.lstore_n 2, 1) := by decide +kernel
theorem dX4_all_62 : decode prog_1_method_12_code 62 = .ok (.iinc 6 1, 3) := by decide +kernel
theorem dX4_all_65 : decode prog_1_method_12_code 65 = .ok (.goto (-40), 3) := by decide +kernel
theorem dX4_all_68 : decode prog_1_method_12_code 68 = .ok (.lload_n 2, 1) := by decide +kernel
theorem dX4_all_69 : decode prog_1_method_12_code 69 = .ok (.lreturn, 1) := by decide +kernel
theorem dX4_invoice_0 : decode prog_1_method_13_code 0 = .ok (.aload_n 0, 1) := by decide +kernel
theorem dX4_invoice_1 : decode prog_1_method_13_code 1 = .ok (.iload_n 1, 1) := by decide +kernel
theorem dX4_invoice_2 : decode prog_1_method_13_code 2 = .ok (.invokevirtual 40, 3) := by decide +kernel
theorem dX4_invoice_5 : decode prog_1_method_13_code 5 = .ok (.astore 5, 2) := by decide +kernel
theorem dX4_invoice_7 : decode prog_1_method_13_code 7 = .ok (.lload_n 2, 1) := by decide +kernel
theorem dX4_invoice_8 : decode prog_1_method_13_code 8 = .ok (.lconst 1, 1) := by decide +kernel
theorem dX4_invoice_9 : decode prog_1_method_13_code 9 = .ok (.ldc2_w 87, 3) := by decide +kernel
theorem dX4_invoice_12 : decode prog_1_method_13_code 12 = .ok (.invokestatic 46, 3) := by decide +kernel
theorem dX4_invoice_15 : decode prog_1_method_13_code 15 = .ok (.iload 4, 2) := by decide +kernel
theorem dX4_invoice_17 : decode prog_1_method_13_code 17 = .ok (.i2l, 1) := by decide +kernel
theorem dX4_invoice_18 : decode prog_1_method_13_code 18 = .ok (.lconst 0, 1) := by decide +kernel
theorem dX4_invoice_19 : decode prog_1_method_13_code 19 = .ok (.ldc2_w 56, 3) := by decide +kernel
theorem dX4_invoice_22 : decode prog_1_method_13_code 22 = .ok (.invokestatic 46, 3) := by decide +kernel
theorem dX4_invoice_25 : decode prog_1_method_13_code 25 = .ok (.aload 5, 2) := by decide +kernel
theorem dX4_invoice_27 : decode prog_1_method_13_code 27 = .ok (.getfield 158, 3) := by decide +kernel
theorem dX4_invoice_30 : decode prog_1_method_13_code 30 = .ok (.ifCond .eq 13, 3) := by decide +kernel
theorem dX4_invoice_33 : decode prog_1_method_13_code 33 = .ok (.new 61, 3) := by decide +kernel
theorem dX4_invoice_36 : decode prog_1_method_13_code 36 = .ok (.dup, 1) := by decide +kernel
theorem dX4_invoice_37 : decode prog_1_method_13_code 37 = .ok (.ldc 161, 2) := by decide +kernel
theorem dX4_invoice_39 : decode prog_1_method_13_code 39 = .ok (.invokespecial 65, 3) := by decide +kernel
theorem dX4_invoice_42 : decode prog_1_method_13_code 42 = .ok (.athrow, 1) := by decide +kernel
theorem dX4_invoice_43 : decode prog_1_method_13_code 43 = .ok (.aload_n 0, 1) := by decide +kernel
theorem dX4_invoice_44 : decode prog_1_method_13_code 44 = .ok (.getfield 163, 3) := by decide +kernel
theorem dX4_invoice_47 : decode prog_1_method_13_code 47 = .ok (.aload_n 0, 1) := by decide +kernel
theorem dX4_invoice_48 : decode prog_1_method_13_code 48 = .ok (.getfield 27, 3) := by decide +kernel
theorem dX4_invoice_51 : decode prog_1_method_13_code 51 = .ok (.arraylength, 1) := by decide +kernel
theorem dX4_invoice_52 : decode prog_1_method_13_code 52 = .ok (.invokestatic 35, 3) := by decide +kernel
theorem dX4_invoice_55 : decode prog_1_method_13_code 55 = .ok (.new 25, 3) := by decide +kernel
theorem dX4_invoice_58 : decode prog_1_method_13_code 58 = .ok (.dup, 1) := by decide +kernel
theorem dX4_invoice_59 : decode prog_1_method_13_code 59 = .ok (.iload_n 1, 1) := by decide +kernel
theorem dX4_invoice_60 : decode prog_1_method_13_code 60 = .ok (.lload_n 2, 1) := by decide +kernel
theorem dX4_invoice_61 : decode prog_1_method_13_code 61 = .ok (.iload 4, 2) := by decide +kernel
theorem dX4_invoice_63 : decode prog_1_method_13_code 63 = .ok (.invokespecial 166, 3) := by decide +kernel
theorem dX4_invoice_66 : decode prog_1_method_13_code 66 = .ok (.astore 6, 2) := by decide +kernel
theorem dX4_invoice_68 : decode prog_1_method_13_code 68 = .ok (.aload 5, 2) := by decide +kernel
theorem dX4_invoice_70 : decode prog_1_method_13_code 70 = .ok (.aload 6, 2) := by decide +kernel
theorem dX4_invoice_72 : decode prog_1_method_13_code 72 = .ok (.aload 5, 2) := by decide +kernel
theorem dX4_invoice_74 : decode prog_1_method_13_code 74 = .ok (.getfield 169, 3) := by decide +kernel
theorem dX4_invoice_77 : decode prog_1_method_13_code 77 = .ok (.invokevirtual 173, 3) := by decide +kernel
theorem dX4_invoice_80 : decode prog_1_method_13_code 80 = .ok (.putfield 169, 3) := by decide +kernel
theorem dX4_invoice_83 : decode prog_1_method_13_code 83 = .ok (.aload_n 0, 1) := by decide +kernel
theorem dX4_invoice_84 : decode prog_1_method_13_code 84 = .ok (.getfield 27, 3) := by decide +kernel
theorem dX4_invoice_87 : decode prog_1_method_13_code 87 = .ok (.aload_n 0, 1) := by decide +kernel
theorem dX4_invoice_88 : decode prog_1_method_13_code 88 = .ok (.getfield 163, 3) := by decide +kernel
theorem dX4_invoice_91 : decode prog_1_method_13_code 91 = .ok (.aload 6, 2) := by decide +kernel
theorem dX4_invoice_93 : decode prog_1_method_13_code 93 = .ok (.aastore, 1) := by decide +kernel
theorem dX4_invoice_94 : decode prog_1_method_13_code 94 = .ok (.aload_n 0, 1) := by decide +kernel
theorem dX4_invoice_95 : decode prog_1_method_13_code 95 = .ok (.dup, 1) := by decide +kernel
theorem dX4_invoice_96 : decode prog_1_method_13_code 96 = .ok (.getfield 163, 3) := by decide +kernel
theorem dX4_invoice_99 : decode prog_1_method_13_code 99 = .ok (.iconst 1, 1) := by decide +kernel
theorem dX4_invoice_100 : decode prog_1_method_13_code 100 = .ok (.iadd, 1) := by decide +kernel
theorem dX4_invoice_101 : decode prog_1_method_13_code 101 = .ok (.putfield 163, 3) := by decide +kernel
theorem dX4_invoice_104 : decode prog_1_method_13_code 104 = .ok (.aload_n 0, 1) := by decide +kernel
theorem dX4_invoice_105 : decode prog_1_method_13_code 105 = .ok (.getfield 163, 3) := by decide +kernel
theorem dX4_invoice_108 : decode prog_1_method_13_code 108 = .ok (.ireturn, 1) := by decide +kernel
theorem dX4_pay_0 : decode prog_1_method_14_code 0 = .ok (.aload_n 0, 1) := by decide +kernel
theorem dX4_pay_1 : decode prog_1_method_14_code 1 = .ok (.iload_n 1, 1) := by decide +kernel
theorem dX4_pay_2 : decode prog_1_method_14_code 2 = .ok (.invokevirtual 40, 3) := by decide +kernel
theorem dX4_pay_5 : decode prog_1_method_14_code 5 = .ok (.astore 4, 2) := by decide +kernel
theorem dX4_pay_7 : decode prog_1_method_14_code 7 = .ok (.lload_n 2, 1) := by decide +kernel
theorem dX4_pay_8 : decode prog_1_method_14_code 8 = .ok (.lconst 1, 1) := by decide +kernel
theorem dX4_pay_9 : decode prog_1_method_14_code 9 = .ok (.ldc2_w 87, 3) := by decide +kernel
theorem dX4_pay_12 : decode prog_1_method_14_code 12 = .ok (.invokestatic 46, 3) := by decide +kernel
theorem dX4_pay_15 : decode prog_1_method_14_code 15 = .ok (.lload_n 2, 1) := by decide +kernel
theorem dX4_pay_16 : decode prog_1_method_14_code 16 = .ok (.lstore 5, 2) := by decide +kernel
theorem dX4_pay_18 : decode prog_1_method_14_code 18 = .ok (.iconst 0, 1) := by decide +kernel
theorem dX4_pay_19 : decode prog_1_method_14_code 19 = .ok (.istore 7, 2) := by decide +kernel
theorem dX4_pay_21 : decode prog_1_method_14_code 21 = .ok (.iconst 0, 1) := by decide +kernel
theorem dX4_pay_22 : decode prog_1_method_14_code 22 = .ok (.istore 8, 2) := by decide +kernel
theorem dX4_pay_24 : decode prog_1_method_14_code 24 = .ok (.iload 8, 2) := by decide +kernel
theorem dX4_pay_26 : decode prog_1_method_14_code 26 = .ok (.bipush 20, 2) := by decide +kernel
theorem dX4_pay_28 : decode prog_1_method_14_code 28 = .ok (.if_icmp .ge 53, 3) := by decide +kernel
theorem dX4_pay_31 : decode prog_1_method_14_code 31 = .ok (.lload 5, 2) := by decide +kernel
theorem dX4_pay_33 : decode prog_1_method_14_code 33 = .ok (.lconst 0, 1) := by decide +kernel
theorem dX4_pay_34 : decode prog_1_method_14_code 34 = .ok (.lcmp, 1) := by decide +kernel
theorem dX4_pay_35 : decode prog_1_method_14_code 35 = .ok (.ifCond .le 46, 3) := by decide +kernel
theorem dX4_pay_38 : decode prog_1_method_14_code 38 = .ok (.aload_n 0, 1) := by decide +kernel
theorem dX4_pay_39 : decode prog_1_method_14_code 39 = .ok (.iload_n 1, 1) := by decide +kernel
theorem dX4_pay_40 : decode prog_1_method_14_code 40 = .ok (.invokevirtual 177, 3) := by decide +kernel
theorem dX4_pay_43 : decode prog_1_method_14_code 43 = .ok (.astore 9, 2) := by decide +kernel
theorem dX4_pay_45 : decode prog_1_method_14_code 45 = .ok (.aload 9, 2) := by decide +kernel
theorem dX4_pay_47 : decode prog_1_method_14_code 47 = .ok (.ifnonnull 6, 3) := by decide +kernel
theorem dX4_pay_50 : decode prog_1_method_14_code 50 = .ok (.goto 31, 3) := by decide +kernel
theorem dX4_pay_53 : decode prog_1_method_14_code 53 = .ok (.aload 9, 2) := by decide +kernel
theorem dX4_pay_55 : decode prog_1_method_14_code 55 = .ok (.lload 5, 2) := by decide +kernel
theorem dX4_pay_57 : decode prog_1_method_14_code 57 = .ok (.invokevirtual 173, 3) := by decide +kernel
theorem dX4_pay_60 : decode prog_1_method_14_code 60 = .ok (.lstore 5, 2) := by decide +kernel
theorem dX4_pay_62 : decode prog_1_method_14_code 62 = .ok (.aload 9, 2) := by decide +kernel
theorem dX4_pay_64 : decode prog_1_method_14_code 64 = .ok (.getfield 181, 3) := by decide +kernel
theorem dX4_pay_67 : decode prog_1_method_14_code 67 = .ok (.lconst 0, 1) := by decide +kernel
theorem dX4_pay_68 : decode prog_1_method_14_code 68 = .ok (.lcmp, 1) := by decide +kernel
theorem dX4_pay_69 : decode prog_1_method_14_code 69 = .ok (.ifCond .ne 6, 3) := by decide +kernel
theorem dX4_pay_72 : decode prog_1_method_14_code 72 = .ok (.iinc 7 1, 3) := by decide +kernel
theorem dX4_pay_75 : decode prog_1_method_14_code 75 = .ok (.iinc 8 1, 3) := by decide +kernel
theorem dX4_pay_78 : decode prog_1_method_14_code 78 = .ok (.goto (-54), 3) := by decide +kernel
theorem dX4_pay_81 : decode prog_1_method_14_code 81 = .ok (.aload 4, 2) := by decide +kernel
theorem dX4_pay_83 : decode prog_1_method_14_code 83 = .ok (.dup, 1) := by decide +kernel
theorem dX4_pay_84 : decode prog_1_method_14_code 84 = .ok (.getfield 169, 3) := by decide +kernel
theorem dX4_pay_87 : decode prog_1_method_14_code 87 = .ok (.lload 5, 2) := by decide +kernel
theorem dX4_pay_89 : decode prog_1_method_14_code 89 = .ok (.ladd, 1) := by decide +kernel
theorem dX4_pay_90 : decode prog_1_method_14_code 90 = .ok (.putfield 169, 3) := by decide +kernel
theorem dX4_pay_93 : decode prog_1_method_14_code 93 = .ok (.iload 7, 2) := by decide +kernel
theorem dX4_pay_95 : decode prog_1_method_14_code 95 = .ok (.ireturn, 1) := by decide +kernel
theorem dX4_settle_0 : decode prog_1_method_15_code 0 = .ok (.aload_n 0, 1) := by decide +kernel
theorem dX4_settle_1 : decode prog_1_method_15_code 1 = .ok (.iload_n 1, 1) := by decide +kernel
theorem dX4_settle_2 : decode prog_1_method_15_code 2 = .ok (.invokevirtual 184, 3) := by decide +kernel
theorem dX4_settle_5 : decode prog_1_method_15_code 5 = .ok (.astore 4, 2) := by decide +kernel
theorem dX4_settle_7 : decode prog_1_method_15_code 7 = .ok (.lload_n 2, 1) := by decide +kernel
theorem dX4_settle_8 : decode prog_1_method_15_code 8 = .ok (.lconst 1, 1) := by decide +kernel
theorem dX4_settle_9 : decode prog_1_method_15_code 9 = .ok (.ldc2_w 87, 3) := by decide +kernel
theorem dX4_settle_12 : decode prog_1_method_15_code 12 = .ok (.invokestatic 46, 3) := by decide +kernel
theorem dX4_settle_15 : decode prog_1_method_15_code 15 = .ok (.aload_n 0, 1) := by decide +kernel
theorem dX4_settle_16 : decode prog_1_method_15_code 16 = .ok (.aload 4, 2) := by decide +kernel
theorem dX4_settle_18 : decode prog_1_method_15_code 18 = .ok (.getfield 187, 3) := by decide +kernel
theorem dX4_settle_21 : decode prog_1_method_15_code 21 = .ok (.invokevirtual 40, 3) := by decide +kernel
theorem dX4_settle_24 : decode prog_1_method_15_code 24 = .ok (.astore 5, 2) := by decide +kernel
theorem dX4_settle_26 : decode prog_1_method_15_code 26 = .ok (.aload 5, 2) := by decide +kernel
theorem dX4_settle_28 : decode prog_1_method_15_code 28 = .ok (.dup, 1) := by decide +kernel
theorem dX4_settle_29 : decode prog_1_method_15_code 29 = .ok (.getfield 169, 3) := by decide +kernel
theorem dX4_settle_32 : decode prog_1_method_15_code 32 = .ok (.aload 4, 2) := by decide +kernel
theorem dX4_settle_34 : decode prog_1_method_15_code 34 = .ok (.lload_n 2, 1) := by decide +kernel
theorem dX4_settle_35 : decode prog_1_method_15_code 35 = .ok (.invokevirtual 173, 3) := by decide +kernel
theorem dX4_settle_38 : decode prog_1_method_15_code 38 = .ok (.ladd, 1) := by decide +kernel
theorem dX4_settle_39 : decode prog_1_method_15_code 39 = .ok (.putfield 169, 3) := by decide +kernel
theorem dX4_settle_42 : decode prog_1_method_15_code 42 = .ok (.aload 4, 2) := by decide +kernel
theorem dX4_settle_44 : decode prog_1_method_15_code 44 = .ok (.getfield 181, 3) := by decide +kernel
theorem dX4_settle_47 : decode prog_1_method_15_code 47 = .ok (.lreturn, 1) := by decide +kernel
theorem dX4_dispute_0 : decode prog_1_method_16_code 0 = .ok (.aload_n 0, 1) := by decide +kernel
theorem dX4_dispute_1 : decode prog_1_method_16_code 1 = .ok (.iload_n 1, 1) := by decide +kernel
theorem dX4_dispute_2 : decode prog_1_method_16_code 2 = .ok (.invokevirtual 184, 3) := by decide +kernel
theorem dX4_dispute_5 : decode prog_1_method_16_code 5 = .ok (.astore_n 3, 1) := by decide +kernel
theorem dX4_dispute_6 : decode prog_1_method_16_code 6 = .ok (.aload_n 3, 1) := by decide +kernel
theorem dX4_dispute_7 : decode prog_1_method_16_code 7 = .ok (.getfield 190, 3) := by decide +kernel
theorem dX4_dispute_10 : decode prog_1_method_16_code 10 = .ok (.iload_n 2, 1) := by decide +kernel
theorem dX4_dispute_11 : decode prog_1_method_16_code 11 = .ok (.if_icmp .ne 13, 3) := by decide +kernel
theorem dX4_dispute_14 : decode prog_1_method_16_code 14 = .ok (.new 61, 3) := by decide +kernel
theorem dX4_dispute_17 : decode prog_1_method_16_code 17 = .ok (.dup, 1) := by decide +kernel
theorem dX4_dispute_18 : decode prog_1_method_16_code 18 = .ok (.ldc 193, 2) := by decide +kernel
theorem dX4_dispute_20 : decode prog_1_method_16_code 20 = .ok (.invokespecial 65, 3) := by decide +kernel
theorem dX4_dispute_23 : decode prog_1_method_16_code 23 = .ok (.athrow, 1) := by decide +kernel
theorem dX4_dispute_24 : decode prog_1_method_16_code 24 = .ok (.aload_n 3, 1) := by decide +kernel
theorem dX4_dispute_25 : decode prog_1_method_16_code 25 = .ok (.iload_n 2, 1) := by decide +kernel
theorem dX4_dispute_26 : decode prog_1_method_16_code 26 = .ok (.putfield 190, 3) := by decide +kernel
theorem dX4_dispute_29 : decode prog_1_method_16_code 29 = .ok (.aload_n 3, 1) := by decide +kernel
theorem dX4_dispute_30 : decode prog_1_method_16_code 30 = .ok (.getfield 181, 3) := by decide +kernel
theorem dX4_dispute_33 : decode prog_1_method_16_code 33 = .ok (.lreturn, 1) := by decide +kernel
theorem dX4_dun_0 : decode prog_1_method_17_code 0 = .ok (.aload_n 0, 1) := by decide +kernel
theorem dX4_dun_1 : decode prog_1_method_17_code 1 = .ok (.iload_n 1, 1) := by decide +kernel
theorem dX4_dun_2 : decode prog_1_method_17_code 2 = .ok (.invokevirtual 184, 3) := by decide +kernel
theorem dX4_dun_5 : decode prog_1_method_17_code 5 = .ok (.astore_n 2, 1) := by decide +kernel
theorem dX4_dun_6 : decode prog_1_method_17_code 6 = .ok (.aload_n 2, 1) := by decide +kernel
theorem dX4_dun_7 : decode prog_1_method_17_code 7 = .ok (.aload_n 0, 1) := by decide +kernel
theorem dX4_dun_8 : decode prog_1_method_17_code 8 = .ok (.getfield 53, 3) := by decide +kernel
theorem dX4_dun_11 : decode prog_1_method_17_code 11 = .ok (.invokevirtual 195, 3) := by decide +kernel
theorem dX4_dun_14 : decode prog_1_method_17_code 14 = .ok (.ifCond .ne 13, 3) := by decide +kernel
theorem dX4_dun_17 : decode prog_1_method_17_code 17 = .ok (.new 61, 3) := by decide +kernel
theorem dX4_dun_20 : decode prog_1_method_17_code 20 = .ok (.dup, 1) := by decide +kernel
theorem dX4_dun_21 : decode prog_1_method_17_code 21 = .ok (.ldc 199, 2) := by decide +kernel
theorem dX4_dun_23 : decode prog_1_method_17_code 23 = .ok (.invokespecial 65, 3) := by decide +kernel
theorem dX4_dun_26 : decode prog_1_method_17_code 26 = .ok (.athrow, 1) := by decide +kernel
theorem dX4_dun_27 : decode prog_1_method_17_code 27 = .ok (.aload_n 2, 1) := by decide +kernel
theorem dX4_dun_28 : decode prog_1_method_17_code 28 = .ok (.getfield 201, 3) := by decide +kernel
theorem dX4_dun_31 : decode prog_1_method_17_code 31 = .ok (.iconst 3, 1) := by decide +kernel
theorem dX4_dun_32 : decode prog_1_method_17_code 32 = .ok (.if_icmp .lt 13, 3) := by decide +kernel
theorem dX4_dun_35 : decode prog_1_method_17_code 35 = .ok (.new 61, 3) := by decide +kernel
theorem dX4_dun_38 : decode prog_1_method_17_code 38 = .ok (.dup, 1) := by decide +kernel
theorem dX4_dun_39 : decode prog_1_method_17_code 39 = .ok (.ldc 204, 2) := by decide +kernel
theorem dX4_dun_41 : decode prog_1_method_17_code 41 = .ok (.invokespecial 65, 3) := by decide +kernel
theorem dX4_dun_44 : decode prog_1_method_17_code 44 = .ok (.athrow, 1) := by decide +kernel
theorem dX4_dun_45 : decode prog_1_method_17_code 45 = .ok (.aload_n 2, 1) := by decide +kernel
theorem dX4_dun_46 : decode prog_1_method_17_code 46 = .ok (.dup, 1) := by decide +kernel
theorem dX4_dun_47 : decode prog_1_method_17_code 47 = .ok (.getfield 201, 3) := by decide +kernel
theorem dX4_dun_50 : decode prog_1_method_17_code 50 = .ok (.iconst 1, 1) := by decide +kernel
theorem dX4_dun_51 : decode prog_1_method_17_code 51 = .ok (.iadd, 1) := by decide +kernel
theorem dX4_dun_52 : decode prog_1_method_17_code 52 = .ok (.putfield 201, 3) := by decide +kernel
theorem dX4_dun_55 : decode prog_1_method_17_code 55 = .ok (.aload_n 2, 1) := by decide +kernel
theorem dX4_dun_56 : decode prog_1_method_17_code 56 = .ok (.getfield 201, 3) := by decide +kernel
theorem dX4_dun_59 : decode prog_1_method_17_code 59 = .ok (.iconst 3, 1) := by decide +kernel
theorem dX4_dun_60 : decode prog_1_method_17_code 60 = .ok (.if_icmp .ne 15, 3) := by decide +kernel
theorem dX4_dun_63 : decode prog_1_method_17_code 63 = .ok (.aload_n 0, 1) := by decide +kernel
theorem dX4_dun_64 : decode prog_1_method_17_code 64 = .ok (.aload_n 2, 1) := by decide +kernel
theorem dX4_dun_65 : decode prog_1_method_17_code 65 = .ok (.getfield 187, 3) := by decide +kernel
theorem dX4_dun_68 : decode prog_1_method_17_code 68 = .ok (.invokevirtual 40, 3) := by decide +kernel
theorem dX4_dun_71 : decode prog_1_method_17_code 71 = .ok (.iconst 1, 1) := by decide +kernel
theorem dX4_dun_72 : decode prog_1_method_17_code 72 = .ok (.putfield 158, 3) := by decide +kernel
theorem dX4_dun_75 : decode prog_1_method_17_code 75 = .ok (.aload_n 2, 1) := by decide +kernel
theorem dX4_dun_76 : decode prog_1_method_17_code 76 = .ok (.getfield 201, 3) := by decide +kernel
theorem dX4_dun_79 : decode prog_1_method_17_code 79 = .ok (.ireturn, 1) := by decide +kernel
theorem dX4_rate_0 : decode prog_1_method_18_code 0 = .ok (.iload_n 1, 1) := by decide +kernel
theorem dX4_rate_1 : decode prog_1_method_18_code 1 = .ok (.i2l, 1) := by decide +kernel
theorem dX4_rate_2 : decode prog_1_method_18_code 2 = .ok (.lconst 0, 1) := by decide +kernel
theorem dX4_rate_3 : decode prog_1_method_18_code 3 = .ok (.ldc2_w 206, 3) := by decide +kernel
theorem dX4_rate_6 : decode prog_1_method_18_code 6 = .ok (.invokestatic 46, 3) := by decide +kernel
theorem dX4_rate_9 : decode prog_1_method_18_code 9 = .ok (.aload_n 0, 1) := by decide +kernel
theorem dX4_rate_10 : decode prog_1_method_18_code 10 = .ok (.iload_n 1, 1) := by decide +kernel
theorem dX4_rate_11 : decode prog_1_method_18_code 11 = .ok (.putfield 208, 3) := by decide +kernel
theorem dX4_rate_14 : decode prog_1_method_18_code 14 = .ok (.return_, 1) := by decide +kernel
theorem dX4_interest_0 : decode prog_1_method_19_code 0 = .ok (.aload_n 0, 1) := by decide +kernel
theorem dX4_interest_1 : decode prog_1_method_19_code 1 = .ok (.iload_n 1, 1) := by decide +kernel
theorem dX4_interest_2 : decode prog_1_method_19_code 2 = .ok (.invokevirtual 184, 3) := by decide +kernel
theorem dX4_interest_5 : decode prog_1_method_19_code 5 = .ok (.astore_n 3, 1) := by decide +kernel
theorem dX4_interest_6 : decode prog_1_method_19_code 6 = .ok (.iload_n 2, 1) := by decide +kernel
theorem dX4_interest_7 : decode prog_1_method_19_code 7 = .ok (.i2l, 1) := by decide +kernel
theorem dX4_interest_8 : decode prog_1_method_19_code 8 = .ok (.lconst 0, 1) := by decide +kernel
theorem dX4_interest_9 : decode prog_1_method_19_code 9 = .ok (.lconst 1, 1) := by decide +kernel
theorem dX4_interest_10 : decode prog_1_method_19_code 10 = .ok (.invokestatic 46, 3) := by decide +kernel
theorem dX4_interest_13 : decode prog_1_method_19_code 13 = .ok (.aload_n 3, 1) := by decide +kernel
theorem dX4_interest_14 : decode prog_1_method_19_code 14 = .ok (.getfield 181, 3) := by decide +kernel
theorem dX4_interest_17 : decode prog_1_method_19_code 17 = .ok (.aload_n 3, 1) := by decide +kernel
theorem dX4_interest_18 : decode prog_1_method_19_code 18 = .ok (.aload_n 0, 1) := by decide +kernel
theorem dX4_interest_19 : decode prog_1_method_19_code 19 = .ok (.getfield 53, 3) := by decide +kernel
theorem dX4_interest_22 : decode prog_1_method_19_code 22 = .ok (.invokevirtual 211, 3) := by decide +kernel
theorem dX4_interest_25 : decode prog_1_method_19_code 25 = .ok (.i2l, 1) := by decide +kernel
theorem dX4_interest_26 : decode prog_1_method_19_code 26 = .ok (.lmul, 1) := by decide +kernel
theorem dX4_interest_27 : decode prog_1_method_19_code 27 = .ok (.aload_n 0, 1) := by decide +kernel
theorem dX4_interest_28 : decode prog_1_method_19_code 28 = .ok (.getfield 208, 3) := by decide +kernel
theorem dX4_interest_31 : decode prog_1_method_19_code 31 = .ok (.i2l, 1) := by decide +kernel
theorem dX4_interest_32 : decode prog_1_method_19_code 32 = .ok (.lmul, 1) := by decide +kernel
theorem dX4_interest_33 : decode prog_1_method_19_code 33 = .ok (.lstore 4, 2) := by decide +kernel
theorem dX4_interest_35 : decode prog_1_method_19_code 35 = .ok (.lload 4, 2) := by decide +kernel
theorem dX4_interest_37 : decode prog_1_method_19_code 37 = .ok (.ldc2_w 214, 3) := by decide +kernel
theorem dX4_interest_40 : decode prog_1_method_19_code 40 = .ok (.invokestatic 216, 3) := by decide +kernel
theorem dX4_interest_43 : decode prog_1_method_19_code 43 = .ok (.lstore 6, 2) := by decide +kernel
theorem dX4_interest_45 : decode prog_1_method_19_code 45 = .ok (.iload_n 2, 1) := by decide +kernel
theorem dX4_interest_46 : decode prog_1_method_19_code 46 = .ok (.ifCond .ne 11, 3) := by decide +kernel
theorem dX4_interest_49 : decode prog_1_method_19_code 49 = .ok (.lload 4, 2) := by decide +kernel
theorem dX4_interest_51 : decode prog_1_method_19_code 51 = .ok (.lload 6, 2) := by decide +kernel
theorem dX4_interest_53 : decode prog_1_method_19_code 53 = .ok (.ldiv, 1) := by decide +kernel
theorem dX4_interest_54 : decode prog_1_method_19_code 54 = .ok (.goto 9, 3) := by decide +kernel
theorem dX4_interest_57 : decode prog_1_method_19_code 57 = .ok (.ldc2_w 214, 3) := by decide +kernel
theorem dX4_interest_60 : decode prog_1_method_19_code 60 = .ok (.lload 6, 2) := by decide +kernel
theorem dX4_interest_62 : decode prog_1_method_19_code 62 = .ok (.ldiv, 1) := by decide +kernel
theorem dX4_interest_63 : decode prog_1_method_19_code 63 = .ok (.lreturn, 1) := by decide +kernel
theorem dX4_hold_0 : decode prog_1_method_20_code 0 = .ok (.aload_n 0, 1) := by decide +kernel
theorem dX4_hold_1 : decode prog_1_method_20_code 1 = .ok (.iload_n 1, 1) := by decide +kernel
theorem dX4_hold_2 : decode prog_1_method_20_code 2 = .ok (.invokevirtual 40, 3) := by decide +kernel
theorem dX4_hold_5 : decode prog_1_method_20_code 5 = .ok (.astore_n 3, 1) := by decide +kernel
theorem dX4_hold_6 : decode prog_1_method_20_code 6 = .ok (.aload_n 3, 1) := by decide +kernel
theorem dX4_hold_7 : decode prog_1_method_20_code 7 = .ok (.getfield 158, 3) := by decide +kernel
theorem dX4_hold_10 : decode prog_1_method_20_code 10 = .ok (.iload_n 2, 1) := by decide +kernel
theorem dX4_hold_11 : decode prog_1_method_20_code 11 = .ok (.if_icmp .ne 13, 3) := by decide +kernel
theorem dX4_hold_14 : decode prog_1_method_20_code 14 = .ok (.new 61, 3) := by decide +kernel
theorem dX4_hold_17 : decode prog_1_method_20_code 17 = .ok (.dup, 1) := by decide +kernel
theorem dX4_hold_18 : decode prog_1_method_20_code 18 = .ok (.ldc 220, 2) := by decide +kernel
theorem dX4_hold_20 : decode prog_1_method_20_code 20 = .ok (.invokespecial 65, 3) := by decide +kernel
theorem dX4_hold_23 : decode prog_1_method_20_code 23 = .ok (.athrow, 1) := by decide +kernel
theorem dX4_hold_24 : decode prog_1_method_20_code 24 = .ok (.aload_n 3, 1) := by decide +kernel
theorem dX4_hold_25 : decode prog_1_method_20_code 25 = .ok (.iload_n 2, 1) := by decide +kernel
theorem dX4_hold_26 : decode prog_1_method_20_code 26 = .ok (.putfield 158, 3) := by decide +kernel
theorem dX4_hold_29 : decode prog_1_method_20_code 29 = .ok (.aload_n 0, 1) := by decide +kernel
theorem dX4_hold_30 : decode prog_1_method_20_code 30 = .ok (.iload_n 1, 1) := by decide +kernel
theorem dX4_hold_31 : decode prog_1_method_20_code 31 = .ok (.invokevirtual 222, 3) := by decide +kernel
theorem dX4_hold_34 : decode prog_1_method_20_code 34 = .ok (.ireturn, 1) := by decide +kernel
theorem dX4_told_0 : decode prog_1_method_21_code 0 = .ok (.aload_n 0, 1) := by decide +kernel
theorem dX4_told_1 : decode prog_1_method_21_code 1 = .ok (.iload_n 1, 1) := by decide +kernel
theorem dX4_told_2 : decode prog_1_method_21_code 2 = .ok (.invokevirtual 77, 3) := by decide +kernel
theorem dX4_told_5 : decode prog_1_method_21_code 5 = .ok (.astore_n 3, 1) := by decide +kernel
theorem dX4_told_6 : decode prog_1_method_21_code 6 = .ok (.iload_n 2, 1) := by decide +kernel
theorem dX4_told_7 : decode prog_1_method_21_code 7 = .ok (.i2l, 1) := by decide +kernel
theorem dX4_told_8 : decode prog_1_method_21_code 8 = .ok (.lconst 0, 1) := by decide +kernel
theorem dX4_told_9 : decode prog_1_method_21_code 9 = .ok (.ldc2_w 225, 3) := by decide +kernel
theorem dX4_told_12 : decode prog_1_method_21_code 12 = .ok (.invokestatic 46, 3) := by decide +kernel
theorem dX4_told_15 : decode prog_1_method_21_code 15 = .ok (.iload_n 2, 1) := by decide +kernel
theorem dX4_told_16 : decode prog_1_method_21_code 16 = .ok (.tableswitch 52 0 3 #[32, 37, 42, 47], 32) := by decide +kernel
theorem dX4_told_48 : decode prog_1_method_21_code 48 = .ok (.aload_n 3, 1) := by decide +kernel
theorem dX4_told_49 : decode prog_1_method_21_code 49 = .ok (.getfield 133, 3) := by decide +kernel
theorem dX4_told_52 : decode prog_1_method_21_code 52 = .ok (.ireturn, 1) := by decide +kernel
theorem dX4_told_53 : decode prog_1_method_21_code 53 = .ok (.aload_n 3, 1) := by decide +kernel
theorem dX4_told_54 : decode prog_1_method_21_code 54 = .ok (.getfield 118, 3) := by decide +kernel
theorem dX4_told_57 : decode prog_1_method_21_code 57 = .ok (.ireturn, 1) := by decide +kernel
theorem dX4_told_58 : decode prog_1_method_21_code 58 = .ok (.aload_n 3, 1) := by decide +kernel
theorem dX4_told_59 : decode prog_1_method_21_code 59 = .ok (.getfield 107, 3) := by decide +kernel
theorem dX4_told_62 : decode prog_1_method_21_code 62 = .ok (.ireturn, 1) := by decide +kernel
theorem dX4_told_63 : decode prog_1_method_21_code 63 = .ok (.aload_n 3, 1) := by decide +kernel
theorem dX4_told_64 : decode prog_1_method_21_code 64 = .ok (.getfield 138, 3) := by decide +kernel
theorem dX4_told_67 : decode prog_1_method_21_code 67 = .ok (.ireturn, 1) := by decide +kernel
theorem dX4_told_68 : decode prog_1_method_21_code 68 = .ok (.aload_n 3, 1) := by decide +kernel
theorem dX4_told_69 : decode prog_1_method_21_code 69 = .ok (.getfield 143, 3) := by decide +kernel
theorem dX4_told_72 : decode prog_1_method_21_code 72 = .ok (.ireturn, 1) := by decide +kernel
theorem dX4_known_0 : decode prog_1_method_22_code 0 = .ok (.aload_n 0, 1) := by decide +kernel
theorem dX4_known_1 : decode prog_1_method_22_code 1 = .ok (.iload_n 1, 1) := by decide +kernel
theorem dX4_known_2 : decode prog_1_method_22_code 2 = .ok (.invokevirtual 184, 3) := by decide +kernel
theorem dX4_known_5 : decode prog_1_method_22_code 5 = .ok (.astore_n 3, 1) := by decide +kernel
theorem dX4_known_6 : decode prog_1_method_22_code 6 = .ok (.iload_n 2, 1) := by decide +kernel
theorem dX4_known_7 : decode prog_1_method_22_code 7 = .ok (.i2l, 1) := by decide +kernel
theorem dX4_known_8 : decode prog_1_method_22_code 8 = .ok (.lconst 0, 1) := by decide +kernel
theorem dX4_known_9 : decode prog_1_method_22_code 9 = .ok (.ldc2_w 227, 3) := by decide +kernel
theorem dX4_known_12 : decode prog_1_method_22_code 12 = .ok (.invokestatic 46, 3) := by decide +kernel
theorem dX4_known_15 : decode prog_1_method_22_code 15 = .ok (.iload_n 2, 1) := by decide +kernel
theorem dX4_known_16 : decode prog_1_method_22_code 16 = .ok (.tableswitch 83 0 4 #[36, 41, 47, 60, 77], 36) := by decide +kernel
theorem dX4_known_52 : decode prog_1_method_22_code 52 = .ok (.aload_n 3, 1) := by decide +kernel
theorem dX4_known_53 : decode prog_1_method_22_code 53 = .ok (.getfield 181, 3) := by decide +kernel
theorem dX4_known_56 : decode prog_1_method_22_code 56 = .ok (.lreturn, 1) := by decide +kernel
theorem dX4_known_57 : decode prog_1_method_22_code 57 = .ok (.aload_n 3, 1) := by decide +kernel
theorem dX4_known_58 : decode prog_1_method_22_code 58 = .ok (.getfield 201, 3) := by decide +kernel
theorem dX4_known_61 : decode prog_1_method_22_code 61 = .ok (.i2l, 1) := by decide +kernel
theorem dX4_known_62 : decode prog_1_method_22_code 62 = .ok (.lreturn, 1) := by decide +kernel
theorem dX4_known_63 : decode prog_1_method_22_code 63 = .ok (.aload_n 3, 1) := by decide +kernel
theorem dX4_known_64 : decode prog_1_method_22_code 64 = .ok (.getfield 190, 3) := by decide +kernel
theorem dX4_known_67 : decode prog_1_method_22_code 67 = .ok (.ifCond .eq 7, 3) := by decide +kernel
theorem dX4_known_70 : decode prog_1_method_22_code 70 = .ok (.lconst 1, 1) := by decide +kernel
theorem dX4_known_71 : decode prog_1_method_22_code 71 = .ok (.goto 4, 3) := by decide +kernel
theorem dX4_known_74 : decode prog_1_method_22_code 74 = .ok (.lconst 0, 1) := by decide +kernel
theorem dX4_known_75 : decode prog_1_method_22_code 75 = .ok (.lreturn, 1) := by decide +kernel
theorem dX4_known_76 : decode prog_1_method_22_code 76 = .ok (.aload_n 3, 1) := by decide +kernel
theorem dX4_known_77 : decode prog_1_method_22_code 77 = .ok (.aload_n 0, 1) := by decide +kernel
theorem dX4_known_78 : decode prog_1_method_22_code 78 = .ok (.getfield 53, 3) := by decide +kernel
theorem dX4_known_81 : decode prog_1_method_22_code 81 = .ok (.invokevirtual 195, 3) := by decide +kernel
theorem dX4_known_84 : decode prog_1_method_22_code 84 = .ok (.ifCond .eq 7, 3) := by decide +kernel
theorem dX4_known_87 : decode prog_1_method_22_code 87 = .ok (.lconst 1, 1) := by decide +kernel
theorem dX4_known_88 : decode prog_1_method_22_code 88 = .ok (.goto 4, 3) := by decide +kernel
theorem dX4_known_91 : decode prog_1_method_22_code 91 = .ok (.lconst 0, 1) := by decide +kernel
theorem dX4_known_92 : decode prog_1_method_22_code 92 = .ok (.lreturn, 1) := by decide +kernel
theorem dX4_known_93 : decode prog_1_method_22_code 93 = .ok (.aload_n 3, 1) := by decide +kernel
theorem dX4_known_94 : decode prog_1_method_22_code 94 = .ok (.getfield 187, 3) := by decide +kernel
theorem dX4_known_97 : decode prog_1_method_22_code 97 = .ok (.i2l, 1) := by decide +kernel
theorem dX4_known_98 : decode prog_1_method_22_code 98 = .ok (.lreturn, 1) := by decide +kernel
theorem dX4_known_99 : decode prog_1_method_22_code 99 = .ok (.aload_n 3, 1) := by decide +kernel
theorem dX4_known_100 : decode prog_1_method_22_code 100 = .ok (.getfield 229, 3) := by decide +kernel
theorem dX4_known_103 : decode prog_1_method_22_code 103 = .ok (.i2l, 1) := by decide +kernel
theorem dX4_known_104 : decode prog_1_method_22_code 104 = .ok (.lreturn, 1) := by decide +kernel
theorem dX4_credit_0 : decode prog_1_method_23_code 0 = .ok (.aload_n 0, 1) := by decide +kernel
theorem dX4_credit_1 : decode prog_1_method_23_code 1 = .ok (.iload_n 1, 1) := by decide +kernel
theorem dX4_credit_2 : decode prog_1_method_23_code 2 = .ok (.invokevirtual 40, 3) := by decide +kernel
theorem dX4_credit_5 : decode prog_1_method_23_code 5 = .ok (.getfield 169, 3) := by decide +kernel
theorem dX4_credit_8 : decode prog_1_method_23_code 8 = .ok (.lreturn, 1) := by decide +kernel
theorem dX4_count_0 : decode prog_1_method_24_code 0 = .ok (.iload_n 1, 1) := by decide +kernel
theorem dX4_count_1 : decode prog_1_method_24_code 1 = .ok (.tableswitch 96 0 8 #[51, 56, 61, 66, 71, 76, 81, 86, 91], 51) := by decide +kernel
theorem dX4_count_52 : decode prog_1_method_24_code 52 = .ok (.aload_n 0, 1) := by decide +kernel
theorem dX4_count_53 : decode prog_1_method_24_code 53 = .ok (.getfield 31, 3) := by decide +kernel
theorem dX4_count_56 : decode prog_1_method_24_code 56 = .ok (.ireturn, 1) := by decide +kernel
theorem dX4_count_57 : decode prog_1_method_24_code 57 = .ok (.aload_n 0, 1) := by decide +kernel
theorem dX4_count_58 : decode prog_1_method_24_code 58 = .ok (.getfield 50, 3) := by decide +kernel
theorem dX4_count_61 : decode prog_1_method_24_code 61 = .ok (.ireturn, 1) := by decide +kernel
theorem dX4_count_62 : decode prog_1_method_24_code 62 = .ok (.aload_n 0, 1) := by decide +kernel
theorem dX4_count_63 : decode prog_1_method_24_code 63 = .ok (.getfield 232, 3) := by decide +kernel
theorem dX4_count_66 : decode prog_1_method_24_code 66 = .ok (.ireturn, 1) := by decide +kernel
theorem dX4_count_67 : decode prog_1_method_24_code 67 = .ok (.aload_n 0, 1) := by decide +kernel
theorem dX4_count_68 : decode prog_1_method_24_code 68 = .ok (.invokevirtual 235, 3) := by decide +kernel
theorem dX4_count_71 : decode prog_1_method_24_code 71 = .ok (.ireturn, 1) := by decide +kernel
theorem dX4_count_72 : decode prog_1_method_24_code 72 = .ok (.aload_n 0, 1) := by decide +kernel
theorem dX4_count_73 : decode prog_1_method_24_code 73 = .ok (.getfield 163, 3) := by decide +kernel
theorem dX4_count_76 : decode prog_1_method_24_code 76 = .ok (.ireturn, 1) := by decide +kernel
theorem dX4_count_77 : decode prog_1_method_24_code 77 = .ok (.aload_n 0, 1) := by decide +kernel
theorem dX4_count_78 : decode prog_1_method_24_code 78 = .ok (.invokevirtual 238, 3) := by decide +kernel
theorem dX4_count_81 : decode prog_1_method_24_code 81 = .ok (.ireturn, 1) := by decide +kernel
theorem dX4_count_82 : decode prog_1_method_24_code 82 = .ok (.aload_n 0, 1) := by decide +kernel
theorem dX4_count_83 : decode prog_1_method_24_code 83 = .ok (.getfield 53, 3) := by decide +kernel
theorem dX4_count_86 : decode prog_1_method_24_code 86 = .ok (.ireturn, 1) := by decide +kernel
theorem dX4_count_87 : decode prog_1_method_24_code 87 = .ok (.aload_n 0, 1) := by decide +kernel
theorem dX4_count_88 : decode prog_1_method_24_code 88 = .ok (.getfield 58, 3) := by decide +kernel
theorem dX4_count_91 : decode prog_1_method_24_code 91 = .ok (.ireturn, 1) := by decide +kernel
theorem dX4_count_92 : decode prog_1_method_24_code 92 = .ok (.aload_n 0, 1) := by decide +kernel
theorem dX4_count_93 : decode prog_1_method_24_code 93 = .ok (.invokevirtual 241, 3) := by decide +kernel
theorem dX4_count_96 : decode prog_1_method_24_code 96 = .ok (.ireturn, 1) := by decide +kernel
theorem dX4_count_97 : decode prog_1_method_24_code 97 = .ok (.iconst (-1), 1) := by decide +kernel
theorem dX4_count_98 : decode prog_1_method_24_code 98 = .ok (.ireturn, 1) := by decide +kernel
theorem dX4_requireRange_0 : decode prog_1_method_25_code 0 = .ok (.lload_n 0, 1) := by decide +kernel
theorem dX4_requireRange_1 : decode prog_1_method_25_code 1 = .ok (.lload_n 2, 1) := by decide +kernel
theorem dX4_requireRange_2 : decode prog_1_method_25_code 2 = .ok (.lcmp, 1) := by decide +kernel
theorem dX4_requireRange_3 : decode prog_1_method_25_code 3 = .ok (.ifCond .lt 10, 3) := by decide +kernel
theorem dX4_requireRange_6 : decode prog_1_method_25_code 6 = .ok (.lload_n 0, 1) := by decide +kernel
theorem dX4_requireRange_7 : decode prog_1_method_25_code 7 = .ok (.lload 4, 2) := by decide +kernel
theorem dX4_requireRange_9 : decode prog_1_method_25_code 9 = .ok (.lcmp, 1) := by decide +kernel
theorem dX4_requireRange_10 : decode prog_1_method_25_code 10 = .ok (.ifCond .le 13, 3) := by decide +kernel
theorem dX4_requireRange_13 : decode prog_1_method_25_code 13 = .ok (.new 89, 3) := by decide +kernel
theorem dX4_requireRange_16 : decode prog_1_method_25_code 16 = .ok (.dup, 1) := by decide +kernel
theorem dX4_requireRange_17 : decode prog_1_method_25_code 17 = .ok (.ldc 244, 2) := by decide +kernel
theorem dX4_requireRange_19 : decode prog_1_method_25_code 19 = .ok (.invokespecial 93, 3) := by decide +kernel
theorem dX4_requireRange_22 : decode prog_1_method_25_code 22 = .ok (.athrow, 1) := by decide +kernel
theorem dX4_requireRange_23 : decode prog_1_method_25_code 23 = .ok (.return_, 1) := by decide +kernel
theorem dX4_requireRoom_0 : decode prog_1_method_26_code 0 = .ok (.iload_n 0, 1) := by decide +kernel
theorem dX4_requireRoom_1 : decode prog_1_method_26_code 1 = .ok (.ifCond .lt 8, 3) := by decide +kernel
theorem dX4_requireRoom_4 : decode prog_1_method_26_code 4 = .ok (.iload_n 0, 1) := by decide +kernel
theorem dX4_requireRoom_5 : decode prog_1_method_26_code 5 = .ok (.iload_n 1, 1) := by decide +kernel
theorem dX4_requireRoom_6 : decode prog_1_method_26_code 6 = .ok (.if_icmp .lt 13, 3) := by decide +kernel
theorem dX4_requireRoom_9 : decode prog_1_method_26_code 9 = .ok (.new 246, 3) := by decide +kernel
theorem dX4_requireRoom_12 : decode prog_1_method_26_code 12 = .ok (.dup, 1) := by decide +kernel
theorem dX4_requireRoom_13 : decode prog_1_method_26_code 13 = .ok (.ldc 248, 2) := by decide +kernel
theorem dX4_requireRoom_15 : decode prog_1_method_26_code 15 = .ok (.invokespecial 250, 3) := by decide +kernel
theorem dX4_requireRoom_18 : decode prog_1_method_26_code 18 = .ok (.athrow, 1) := by decide +kernel
theorem dX4_requireRoom_19 : decode prog_1_method_26_code 19 = .ok (.return_, 1) := by decide +kernel
theorem dX4_requireOpen_0 : decode prog_1_method_27_code 0 = .ok (.aload_n 0, 1) := by decide +kernel
theorem dX4_requireOpen_1 : decode prog_1_method_27_code 1 = .ok (.getfield 133, 3) := by decide +kernel
theorem dX4_requireOpen_4 : decode prog_1_method_27_code 4 = .ok (.ifCond .eq 13, 3) := by decide +kernel
theorem dX4_requireOpen_7 : decode prog_1_method_27_code 7 = .ok (.new 61, 3) := by decide +kernel
theorem dX4_requireOpen_10 : decode prog_1_method_27_code 10 = .ok (.dup, 1) := by decide +kernel
theorem dX4_requireOpen_11 : decode prog_1_method_27_code 11 = .ok (.ldc 251, 2) := by decide +kernel
theorem dX4_requireOpen_13 : decode prog_1_method_27_code 13 = .ok (.invokespecial 65, 3) := by decide +kernel
theorem dX4_requireOpen_16 : decode prog_1_method_27_code 16 = .ok (.athrow, 1) := by decide +kernel
theorem dX4_requireOpen_17 : decode prog_1_method_27_code 17 = .ok (.return_, 1) := by decide +kernel
theorem dX4_findOwner_0 : decode prog_1_method_28_code 0 = .ok (.iload_n 1, 1) := by decide +kernel
theorem dX4_findOwner_1 : decode prog_1_method_28_code 1 = .ok (.ifCond .lt 12, 3) := by decide +kernel
theorem dX4_findOwner_4 : decode prog_1_method_28_code 4 = .ok (.iload_n 1, 1) := by decide +kernel
theorem dX4_findOwner_5 : decode prog_1_method_28_code 5 = .ok (.aload_n 0, 1) := by decide +kernel
theorem dX4_findOwner_6 : decode prog_1_method_28_code 6 = .ok (.getfield 11, 3) := by decide +kernel
theorem dX4_findOwner_9 : decode prog_1_method_28_code 9 = .ok (.arraylength, 1) := by decide +kernel
theorem dX4_findOwner_10 : decode prog_1_method_28_code 10 = .ok (.if_icmp .lt 7, 3) := by decide +kernel
theorem dX4_findOwner_13 : decode prog_1_method_28_code 13 = .ok (.aconst_null, 1) := by decide +kernel
theorem dX4_findOwner_14 : decode prog_1_method_28_code 14 = .ok (.goto 9, 3) := by decide +kernel
theorem dX4_findOwner_17 : decode prog_1_method_28_code 17 = .ok (.aload_n 0, 1) := by decide +kernel
theorem dX4_findOwner_18 : decode prog_1_method_28_code 18 = .ok (.getfield 11, 3) := by decide +kernel
theorem dX4_findOwner_21 : decode prog_1_method_28_code 21 = .ok (.iload_n 1, 1) := by decide +kernel
theorem dX4_findOwner_22 : decode prog_1_method_28_code 22 = .ok (.aaload, 1) := by decide +kernel
theorem dX4_findOwner_23 : decode prog_1_method_28_code 23 = .ok (.astore_n 2, 1) := by decide +kernel
theorem dX4_findOwner_24 : decode prog_1_method_28_code 24 = .ok (.aload_n 2, 1) := by decide +kernel
theorem dX4_findOwner_25 : decode prog_1_method_28_code 25 = .ok (.ifnonnull 13, 3) := by decide +kernel
theorem dX4_findOwner_28 : decode prog_1_method_28_code 28 = .ok (.new 253, 3) := by decide +kernel
theorem dX4_findOwner_31 : decode prog_1_method_28_code 31 = .ok (.dup, 1) := by decide +kernel
theorem dX4_findOwner_32 : decode prog_1_method_28_code 32 = .ok (.ldc 255, 2) := by decide +kernel
theorem dX4_findOwner_34 : decode prog_1_method_28_code 34 = .ok (.invokespecial 257, 3) := by decide +kernel
theorem dX4_findOwner_37 : decode prog_1_method_28_code 37 = .ok (.athrow, 1) := by decide +kernel
theorem dX4_findOwner_38 : decode prog_1_method_28_code 38 = .ok (.aload_n 2, 1) := by decide +kernel
theorem dX4_findOwner_39 : decode prog_1_method_28_code 39 = .ok (.areturn, 1) := by decide +kernel
theorem dX4_currencyOf_0 : decode prog_1_method_29_code 0 = .ok (.iload_n 1, 1) := by decide +kernel
theorem dX4_currencyOf_1 : decode prog_1_method_29_code 1 = .ok (.ifCond .lt 20, 3) := by decide +kernel
theorem dX4_currencyOf_4 : decode prog_1_method_29_code 4 = .ok (.iload_n 1, 1) := by decide +kernel
theorem dX4_currencyOf_5 : decode prog_1_method_29_code 5 = .ok (.aload_n 0, 1) := by decide +kernel
theorem dX4_currencyOf_6 : decode prog_1_method_29_code 6 = .ok (.getfield 50, 3) := by decide +kernel
theorem dX4_currencyOf_9 : decode prog_1_method_29_code 9 = .ok (.if_icmp .ge 12, 3) := by decide +kernel
theorem dX4_currencyOf_12 : decode prog_1_method_29_code 12 = .ok (.iload_n 1, 1) := by decide +kernel
theorem dX4_currencyOf_13 : decode prog_1_method_29_code 13 = .ok (.aload_n 0, 1) := by decide +kernel
theorem dX4_currencyOf_14 : decode prog_1_method_29_code 14 = .ok (.getfield 15, 3) := by decide +kernel
theorem dX4_currencyOf_17 : decode prog_1_method_29_code 17 = .ok (.arraylength, 1) := by decide +kernel
theorem dX4_currencyOf_18 : decode prog_1_method_29_code 18 = .ok (.if_icmp .lt 14, 3) := by decide +kernel
theorem dX4_currencyOf_21 : decode prog_1_method_29_code 21 = .ok (.new 253, 3) := by decide +kernel
theorem dX4_currencyOf_24 : decode prog_1_method_29_code 24 = .ok (.dup, 1) := by decide +kernel
theorem dX4_currencyOf_25 : decode prog_1_method_29_code 25 = .ok (.ldc_w 258, 3) := by decide +kernel
theorem dX4_currencyOf_28 : decode prog_1_method_29_code 28 = .ok (.invokespecial 257, 3) := by decide +kernel
theorem dX4_currencyOf_31 : decode prog_1_method_29_code 31 = .ok (.athrow, 1) := by decide +kernel
theorem dX4_currencyOf_32 : decode prog_1_method_29_code 32 = .ok (.aload_n 0, 1) := by decide +kernel
theorem dX4_currencyOf_33 : decode prog_1_method_29_code 33 = .ok (.getfield 15, 3) := by decide +kernel
theorem dX4_currencyOf_36 : decode prog_1_method_29_code 36 = .ok (.iload_n 1, 1) := by decide +kernel
theorem dX4_currencyOf_37 : decode prog_1_method_29_code 37 = .ok (.iaload, 1) := by decide +kernel
theorem dX4_currencyOf_38 : decode prog_1_method_29_code 38 = .ok (.ireturn, 1) := by decide +kernel
theorem dX4_findBatch_0 : decode prog_1_method_30_code 0 = .ok (.iload_n 1, 1) := by decide +kernel
theorem dX4_findBatch_1 : decode prog_1_method_30_code 1 = .ok (.iconst 1, 1) := by decide +kernel
theorem dX4_findBatch_2 : decode prog_1_method_30_code 2 = .ok (.if_icmp .lt 12, 3) := by decide +kernel
theorem dX4_findBatch_5 : decode prog_1_method_30_code 5 = .ok (.iload_n 1, 1) := by decide +kernel
theorem dX4_findBatch_6 : decode prog_1_method_30_code 6 = .ok (.aload_n 0, 1) := by decide +kernel
theorem dX4_findBatch_7 : decode prog_1_method_30_code 7 = .ok (.getfield 21, 3) := by decide +kernel
theorem dX4_findBatch_10 : decode prog_1_method_30_code 10 = .ok (.arraylength, 1) := by decide +kernel
theorem dX4_findBatch_11 : decode prog_1_method_30_code 11 = .ok (.if_icmp .le 7, 3) := by decide +kernel
theorem dX4_findBatch_14 : decode prog_1_method_30_code 14 = .ok (.aconst_null, 1) := by decide +kernel
theorem dX4_findBatch_15 : decode prog_1_method_30_code 15 = .ok (.goto 11, 3) := by decide +kernel
theorem dX4_findBatch_18 : decode prog_1_method_30_code 18 = .ok (.aload_n 0, 1) := by decide +kernel
theorem dX4_findBatch_19 : decode prog_1_method_30_code 19 = .ok (.getfield 21, 3) := by decide +kernel
theorem dX4_findBatch_22 : decode prog_1_method_30_code 22 = .ok (.iload_n 1, 1) := by decide +kernel
theorem dX4_findBatch_23 : decode prog_1_method_30_code 23 = .ok (.iconst 1, 1) := by decide +kernel
theorem dX4_findBatch_24 : decode prog_1_method_30_code 24 = .ok (.isub, 1) := by decide +kernel
theorem dX4_findBatch_25 : decode prog_1_method_30_code 25 = .ok (.aaload, 1) := by decide +kernel
theorem dX4_findBatch_26 : decode prog_1_method_30_code 26 = .ok (.astore_n 2, 1) := by decide +kernel
theorem dX4_findBatch_27 : decode prog_1_method_30_code 27 = .ok (.aload_n 2, 1) := by decide +kernel
theorem dX4_findBatch_28 : decode prog_1_method_30_code 28 = .ok (.ifnonnull 14, 3) := by decide +kernel
theorem dX4_findBatch_31 : decode prog_1_method_30_code 31 = .ok (.new 253, 3) := by decide +kernel
theorem dX4_findBatch_34 : decode prog_1_method_30_code 34 = .ok (.dup, 1) := by decide +kernel
theorem dX4_findBatch_35 : decode prog_1_method_30_code 35 = .ok (.ldc_w 260, 3) := by decide +kernel
theorem dX4_findBatch_38 : decode prog_1_method_30_code 38 = .ok (.invokespecial 257, 3) := by decide +kernel
theorem dX4_findBatch_41 : decode prog_1_method_30_code 41 = .ok (.athrow, 1) := by decide +kernel
theorem dX4_findBatch_42 : decode prog_1_method_30_code 42 = .ok (.aload_n 2, 1) := by decide +kernel
theorem dX4_findBatch_43 : decode prog_1_method_30_code 43 = .ok (.areturn, 1) := by decide +kernel
theorem dX4_findRow_0 : decode prog_1_method_31_code 0 = .ok (.iload_n 1, 1) := by decide +kernel
theorem dX4_findRow_1 : decode prog_1_method_31_code 1 = .ok (.ifCond .lt 12, 3) := by decide +kernel
theorem dX4_findRow_4 : decode prog_1_method_31_code 4 = .ok (.iload_n 1, 1) := by decide +kernel
theorem dX4_findRow_5 : decode prog_1_method_31_code 5 = .ok (.aload_n 0, 1) := by decide +kernel
theorem dX4_findRow_6 : decode prog_1_method_31_code 6 = .ok (.getfield 262, 3) := by decide +kernel
theorem dX4_findRow_9 : decode prog_1_method_31_code 9 = .ok (.arraylength, 1) := by decide +kernel
theorem dX4_findRow_10 : decode prog_1_method_31_code 10 = .ok (.if_icmp .lt 7, 3) := by decide +kernel
theorem dX4_findRow_13 : decode prog_1_method_31_code 13 = .ok (.aconst_null, 1) := by decide +kernel
theorem dX4_findRow_14 : decode prog_1_method_31_code 14 = .ok (.goto 9, 3) := by decide +kernel
theorem dX4_findRow_17 : decode prog_1_method_31_code 17 = .ok (.aload_n 0, 1) := by decide +kernel
theorem dX4_findRow_18 : decode prog_1_method_31_code 18 = .ok (.getfield 262, 3) := by decide +kernel
theorem dX4_findRow_21 : decode prog_1_method_31_code 21 = .ok (.iload_n 1, 1) := by decide +kernel
theorem dX4_findRow_22 : decode prog_1_method_31_code 22 = .ok (.aaload, 1) := by decide +kernel
theorem dX4_findRow_23 : decode prog_1_method_31_code 23 = .ok (.astore_n 2, 1) := by decide +kernel
theorem dX4_findRow_24 : decode prog_1_method_31_code 24 = .ok (.aload_n 2, 1) := by decide +kernel
theorem dX4_findRow_25 : decode prog_1_method_31_code 25 = .ok (.ifnonnull 14, 3) := by decide +kernel
theorem dX4_findRow_28 : decode prog_1_method_31_code 28 = .ok (.new 253, 3) := by decide +kernel
theorem dX4_findRow_31 : decode prog_1_method_31_code 31 = .ok (.dup, 1) := by decide +kernel
theorem dX4_findRow_32 : decode prog_1_method_31_code 32 = .ok (.ldc_w 266, 3) := by decide +kernel
theorem dX4_findRow_35 : decode prog_1_method_31_code 35 = .ok (.invokespecial 257, 3) := by decide +kernel
theorem dX4_findRow_38 : decode prog_1_method_31_code 38 = .ok (.athrow, 1) := by decide +kernel
theorem dX4_findRow_39 : decode prog_1_method_31_code 39 = .ok (.aload_n 2, 1) := by decide +kernel
theorem dX4_findRow_40 : decode prog_1_method_31_code 40 = .ok (.areturn, 1) := by decide +kernel
theorem dX4_findInvoice_0 : decode prog_1_method_32_code 0 = .ok (.iload_n 1, 1) := by decide +kernel
theorem dX4_findInvoice_1 : decode prog_1_method_32_code 1 = .ok (.iconst 1, 1) := by decide +kernel
theorem dX4_findInvoice_2 : decode prog_1_method_32_code 2 = .ok (.if_icmp .lt 12, 3) := by decide +kernel
theorem dX4_findInvoice_5 : decode prog_1_method_32_code 5 = .ok (.iload_n 1, 1) := by decide +kernel
theorem dX4_findInvoice_6 : decode prog_1_method_32_code 6 = .ok (.aload_n 0, 1) := by decide +kernel
theorem dX4_findInvoice_7 : decode prog_1_method_32_code 7 = .ok (.getfield 27, 3) := by decide +kernel
theorem dX4_findInvoice_10 : decode prog_1_method_32_code 10 = .ok (.arraylength, 1) := by decide +kernel
theorem dX4_findInvoice_11 : decode prog_1_method_32_code 11 = .ok (.if_icmp .le 7, 3) := by decide +kernel
theorem dX4_findInvoice_14 : decode prog_1_method_32_code 14 = .ok (.aconst_null, 1) := by decide +kernel
theorem dX4_findInvoice_15 : decode prog_1_method_32_code 15 = .ok (.goto 11, 3) := by decide +kernel
theorem dX4_findInvoice_18 : decode prog_1_method_32_code 18 = .ok (.aload_n 0, 1) := by decide +kernel
theorem dX4_findInvoice_19 : decode prog_1_method_32_code 19 = .ok (.getfield 27, 3) := by decide +kernel
theorem dX4_findInvoice_22 : decode prog_1_method_32_code 22 = .ok (.iload_n 1, 1) := by decide +kernel
theorem dX4_findInvoice_23 : decode prog_1_method_32_code 23 = .ok (.iconst 1, 1) := by decide +kernel
theorem dX4_findInvoice_24 : decode prog_1_method_32_code 24 = .ok (.isub, 1) := by decide +kernel
theorem dX4_findInvoice_25 : decode prog_1_method_32_code 25 = .ok (.aaload, 1) := by decide +kernel
theorem dX4_findInvoice_26 : decode prog_1_method_32_code 26 = .ok (.astore_n 2, 1) := by decide +kernel
theorem dX4_findInvoice_27 : decode prog_1_method_32_code 27 = .ok (.aload_n 2, 1) := by decide +kernel
theorem dX4_findInvoice_28 : decode prog_1_method_32_code 28 = .ok (.ifnonnull 14, 3) := by decide +kernel
theorem dX4_findInvoice_31 : decode prog_1_method_32_code 31 = .ok (.new 253, 3) := by decide +kernel
theorem dX4_findInvoice_34 : decode prog_1_method_32_code 34 = .ok (.dup, 1) := by decide +kernel
theorem dX4_findInvoice_35 : decode prog_1_method_32_code 35 = .ok (.ldc_w 268, 3) := by decide +kernel
theorem dX4_findInvoice_38 : decode prog_1_method_32_code 38 = .ok (.invokespecial 257, 3) := by decide +kernel
theorem dX4_findInvoice_41 : decode prog_1_method_32_code 41 = .ok (.athrow, 1) := by decide +kernel
theorem dX4_findInvoice_42 : decode prog_1_method_32_code 42 = .ok (.aload_n 2, 1) := by decide +kernel
theorem dX4_findInvoice_43 : decode prog_1_method_32_code 43 = .ok (.areturn, 1) := by decide +kernel
theorem dX4_keepBatch_0 : decode prog_1_method_33_code 0 = .ok (.aload_n 0, 1) := by decide +kernel
theorem dX4_keepBatch_1 : decode prog_1_method_33_code 1 = .ok (.getfield 232, 3) := by decide +kernel
theorem dX4_keepBatch_4 : decode prog_1_method_33_code 4 = .ok (.aload_n 0, 1) := by decide +kernel
theorem dX4_keepBatch_5 : decode prog_1_method_33_code 5 = .ok (.getfield 21, 3) := by decide +kernel
theorem dX4_keepBatch_8 : decode prog_1_method_33_code 8 = .ok (.arraylength, 1) := by decide +kernel
theorem dX4_keepBatch_9 : decode prog_1_method_33_code 9 = .ok (.invokestatic 35, 3) := by decide +kernel
theorem dX4_keepBatch_12 : decode prog_1_method_33_code 12 = .ok (.aload_n 0, 1) := by decide +kernel
theorem dX4_keepBatch_13 : decode prog_1_method_33_code 13 = .ok (.getfield 21, 3) := by decide +kernel
theorem dX4_keepBatch_16 : decode prog_1_method_33_code 16 = .ok (.aload_n 0, 1) := by decide +kernel
theorem dX4_keepBatch_17 : decode prog_1_method_33_code 17 = .ok (.getfield 232, 3) := by decide +kernel
theorem dX4_keepBatch_20 : decode prog_1_method_33_code 20 = .ok (.aload_n 1, 1) := by decide +kernel
theorem dX4_keepBatch_21 : decode prog_1_method_33_code 21 = .ok (.aastore, 1) := by decide +kernel
theorem dX4_keepBatch_22 : decode prog_1_method_33_code 22 = .ok (.aload_n 0, 1) := by decide +kernel
theorem dX4_keepBatch_23 : decode prog_1_method_33_code 23 = .ok (.dup, 1) := by decide +kernel
theorem dX4_keepBatch_24 : decode prog_1_method_33_code 24 = .ok (.getfield 232, 3) := by decide +kernel
theorem dX4_keepBatch_27 : decode prog_1_method_33_code 27 = .ok (.iconst 1, 1) := by decide +kernel
theorem dX4_keepBatch_28 : decode prog_1_method_33_code 28 = .ok (.iadd, 1) := by decide +kernel
theorem dX4_keepBatch_29 : decode prog_1_method_33_code 29 = .ok (.putfield 232, 3) := by decide +kernel
theorem dX4_keepBatch_32 : decode prog_1_method_33_code 32 = .ok (.aload_n 0, 1) := by decide +kernel
theorem dX4_keepBatch_33 : decode prog_1_method_33_code 33 = .ok (.getfield 232, 3) := by decide +kernel
theorem dX4_keepBatch_36 : decode prog_1_method_33_code 36 = .ok (.ireturn, 1) := by decide +kernel
theorem dX4_firstToPay_0 : decode prog_1_method_34_code 0 = .ok (.aconst_null, 1) := by decide +kernel
theorem dX4_firstToPay_1 : decode prog_1_method_34_code 1 = .ok (.astore_n 2, 1) := by decide +kernel
theorem dX4_firstToPay_2 : decode prog_1_method_34_code 2 = .ok (.aload_n 0, 1) := by decide +kernel
theorem dX4_firstToPay_3 : decode prog_1_method_34_code 3 = .ok (.getfield 27, 3) := by decide +kernel
theorem dX4_firstToPay_6 : decode prog_1_method_34_code 6 = .ok (.astore_n 3, 1) := by decide +kernel
theorem dX4_firstToPay_7 : decode prog_1_method_34_code 7 = .ok (.aload_n 3, 1) := by decide +kernel
theorem dX4_firstToPay_8 : decode prog_1_method_34_code 8 = .ok (.arraylength, 1) := by decide +kernel
theorem dX4_firstToPay_9 : decode prog_1_method_34_code 9 = .ok (.istore 4, 2) := by decide +kernel
theorem dX4_firstToPay_11 : decode prog_1_method_34_code 11 = .ok (.iconst 0, 1) := by decide +kernel
theorem dX4_firstToPay_12 : decode prog_1_method_34_code 12 = .ok (.istore 5, 2) := by decide +kernel
theorem dX4_firstToPay_14 : decode prog_1_method_34_code 14 = .ok (.iload 5, 2) := by decide +kernel
theorem dX4_firstToPay_16 : decode prog_1_method_34_code 16 = .ok (.iload 4, 2) := by decide +kernel
theorem dX4_firstToPay_18 : decode prog_1_method_34_code 18 = .ok (.if_icmp .ge 66, 3) := by decide +kernel
theorem dX4_firstToPay_21 : decode prog_1_method_34_code 21 = .ok (.aload_n 3, 1) := by decide +kernel
theorem dX4_firstToPay_22 : decode prog_1_method_34_code 22 = .ok (.iload 5, 2) := by decide +kernel
theorem dX4_firstToPay_24 : decode prog_1_method_34_code 24 = .ok (.aaload, 1) := by decide +kernel
theorem dX4_firstToPay_25 : decode prog_1_method_34_code 25 = .ok (.astore 6, 2) := by decide +kernel
theorem dX4_firstToPay_27 : decode prog_1_method_34_code 27 = .ok (.aload 6, 2) := by decide +kernel
theorem dX4_firstToPay_29 : decode prog_1_method_34_code 29 = .ok (.ifnull 49, 3) := by decide +kernel
theorem dX4_firstToPay_32 : decode prog_1_method_34_code 32 = .ok (.aload 6, 2) := by decide +kernel
theorem dX4_firstToPay_34 : decode prog_1_method_34_code 34 = .ok (.getfield 187, 3) := by decide +kernel
theorem dX4_firstToPay_37 : decode prog_1_method_34_code 37 = .ok (.iload_n 1, 1) := by decide +kernel
theorem dX4_firstToPay_38 : decode prog_1_method_34_code 38 = .ok (.if_icmp .ne 40, 3) := by decide +kernel
theorem dX4_firstToPay_41 : decode prog_1_method_34_code 41 = .ok (.aload 6, 2) := by decide +kernel
theorem dX4_firstToPay_43 : decode prog_1_method_34_code 43 = .ok (.getfield 181, 3) := by decide +kernel
theorem dX4_firstToPay_46 : decode prog_1_method_34_code 46 = .ok (.lconst 0, 1) := by decide +kernel
theorem dX4_firstToPay_47 : decode prog_1_method_34_code 47 = .ok (.lcmp, 1) := by decide +kernel
theorem dX4_firstToPay_48 : decode prog_1_method_34_code 48 = .ok (.ifCond .le 30, 3) := by decide +kernel
theorem dX4_firstToPay_51 : decode prog_1_method_34_code 51 = .ok (.aload 6, 2) := by decide +kernel
theorem dX4_firstToPay_53 : decode prog_1_method_34_code 53 = .ok (.getfield 190, 3) := by decide +kernel
theorem dX4_firstToPay_56 : decode prog_1_method_34_code 56 = .ok (.ifCond .ne 22, 3) := by decide +kernel
theorem dX4_firstToPay_59 : decode prog_1_method_34_code 59 = .ok (.aload_n 2, 1) := by decide +kernel
theorem dX4_firstToPay_60 : decode prog_1_method_34_code 60 = .ok (.ifnull 15, 3) := by decide +kernel
theorem dX4_firstToPay_63 : decode prog_1_method_34_code 63 = .ok (.aload 6, 2) := by decide +kernel
theorem dX4_firstToPay_65 : decode prog_1_method_34_code 65 = .ok (.getfield 229, 3) := by decide +kernel
theorem dX4_firstToPay_68 : decode prog_1_method_34_code 68 = .ok (.aload_n 2, 1) := by decide +kernel
theorem dX4_firstToPay_69 : decode prog_1_method_34_code 69 = .ok (.getfield 229, 3) := by decide +kernel
theorem dX4_firstToPay_72 : decode prog_1_method_34_code 72 = .ok (.if_icmp .ge 6, 3) := by decide +kernel
theorem dX4_firstToPay_75 : decode prog_1_method_34_code 75 = .ok (.aload 6, 2) := by decide +kernel
theorem dX4_firstToPay_77 : decode prog_1_method_34_code 77 = .ok (.astore_n 2, 1) := by decide +kernel
theorem dX4_firstToPay_78 : decode prog_1_method_34_code 78 = .ok (.iinc 5 1, 3) := by decide +kernel
theorem dX4_firstToPay_81 : decode prog_1_method_34_code 81 = .ok (.goto (-67), 3) := by decide +kernel
theorem dX4_firstToPay_84 : decode prog_1_method_34_code 84 = .ok (.aload_n 2, 1) := by decide +kernel
theorem dX4_firstToPay_85 : decode prog_1_method_34_code 85 = .ok (.areturn, 1) := by decide +kernel
theorem dX4_overdueInvoicesOf_0 : decode prog_1_method_35_code 0 = .ok (.iconst 0, 1) := by decide +kernel
theorem dX4_overdueInvoicesOf_1 : decode prog_1_method_35_code 1 = .ok (.istore_n 2, 1) := by decide +kernel
theorem dX4_overdueInvoicesOf_2 : decode prog_1_method_35_code 2 = .ok (.aload_n 0, 1) := by decide +kernel
theorem dX4_overdueInvoicesOf_3 : decode prog_1_method_35_code 3 = .ok (.getfield 27, 3) := by decide +kernel
theorem dX4_overdueInvoicesOf_6 : decode prog_1_method_35_code 6 = .ok (.astore_n 3, 1) := by decide +kernel
theorem dX4_overdueInvoicesOf_7 : decode prog_1_method_35_code 7 = .ok (.aload_n 3, 1) := by decide +kernel
theorem dX4_overdueInvoicesOf_8 : decode prog_1_method_35_code 8 = .ok (.arraylength, 1) := by decide +kernel
theorem dX4_overdueInvoicesOf_9 : decode prog_1_method_35_code 9 = .ok (.istore 4, 2) := by decide +kernel
theorem dX4_overdueInvoicesOf_11 : decode prog_1_method_35_code 11 = .ok (.iconst 0, 1) := by decide +kernel
theorem dX4_overdueInvoicesOf_12 : decode prog_1_method_35_code 12 = .ok (.istore 5, 2) := by decide +kernel
theorem dX4_overdueInvoicesOf_14 : decode prog_1_method_35_code 14 = .ok (.iload 5, 2) := by decide +kernel
theorem dX4_overdueInvoicesOf_16 : decode prog_1_method_35_code 16 = .ok (.iload 4, 2) := by decide +kernel
theorem dX4_overdueInvoicesOf_18 : decode prog_1_method_35_code 18 = .ok (.if_icmp .ge 44, 3) := by decide +kernel
theorem dX4_overdueInvoicesOf_21 : decode prog_1_method_35_code 21 = .ok (.aload_n 3, 1) := by decide +kernel
theorem dX4_overdueInvoicesOf_22 : decode prog_1_method_35_code 22 = .ok (.iload 5, 2) := by decide +kernel
theorem dX4_overdueInvoicesOf_24 : decode prog_1_method_35_code 24 = .ok (.aaload, 1) := by decide +kernel
theorem dX4_overdueInvoicesOf_25 : decode prog_1_method_35_code 25 = .ok (.astore 6, 2) := by decide +kernel
theorem dX4_overdueInvoicesOf_27 : decode prog_1_method_35_code 27 = .ok (.aload 6, 2) := by decide +kernel
theorem dX4_overdueInvoicesOf_29 : decode prog_1_method_35_code 29 = .ok (.ifnull 27, 3) := by decide +kernel
theorem dX4_overdueInvoicesOf_32 : decode prog_1_method_35_code 32 = .ok (.aload 6, 2) := by decide +kernel
theorem dX4_overdueInvoicesOf_34 : decode prog_1_method_35_code 34 = .ok (.getfield 187, 3) := by decide +kernel
theorem dX4_overdueInvoicesOf_37 : decode prog_1_method_35_code 37 = .ok (.iload_n 1, 1) := by decide +kernel
theorem dX4_overdueInvoicesOf_38 : decode prog_1_method_35_code 38 = .ok (.if_icmp .ne 18, 3) := by decide +kernel
theorem dX4_overdueInvoicesOf_41 : decode prog_1_method_35_code 41 = .ok (.aload 6, 2) := by decide +kernel
theorem dX4_overdueInvoicesOf_43 : decode prog_1_method_35_code 43 = .ok (.aload_n 0, 1) := by decide +kernel
theorem dX4_overdueInvoicesOf_44 : decode prog_1_method_35_code 44 = .ok (.getfield 53, 3) := by decide +kernel
theorem dX4_overdueInvoicesOf_47 : decode prog_1_method_35_code 47 = .ok (.invokevirtual 195, 3) := by decide +kernel
theorem dX4_overdueInvoicesOf_50 : decode prog_1_method_35_code 50 = .ok (.ifCond .eq 6, 3) := by decide +kernel
theorem dX4_overdueInvoicesOf_53 : decode prog_1_method_35_code 53 = .ok (.iinc 2 1, 3) := by decide +kernel
theorem dX4_overdueInvoicesOf_56 : decode prog_1_method_35_code 56 = .ok (.iinc 5 1, 3) := by decide +kernel
theorem dX4_overdueInvoicesOf_59 : decode prog_1_method_35_code 59 = .ok (.goto (-45), 3) := by decide +kernel
theorem dX4_overdueInvoicesOf_62 : decode prog_1_method_35_code 62 = .ok (.iload_n 2, 1) := by decide +kernel
theorem dX4_overdueInvoicesOf_63 : decode prog_1_method_35_code 63 = .ok (.ireturn, 1) := by decide +kernel
theorem dX4_postedBatches_0 : decode prog_1_method_36_code 0 = .ok (.iconst 0, 1) := by decide +kernel
theorem dX4_postedBatches_1 : decode prog_1_method_36_code 1 = .ok (.istore_n 1, 1) := by decide +kernel
theorem dX4_postedBatches_2 : decode prog_1_method_36_code 2 = .ok (.aload_n 0, 1) := by decide +kernel
theorem dX4_postedBatches_3 : decode prog_1_method_36_code 3 = .ok (.getfield 21, 3) := by decide +kernel
theorem dX4_postedBatches_6 : decode prog_1_method_36_code 6 = .ok (.astore_n 2, 1) := by decide +kernel
theorem dX4_postedBatches_7 : decode prog_1_method_36_code 7 = .ok (.aload_n 2, 1) := by decide +kernel
theorem dX4_postedBatches_8 : decode prog_1_method_36_code 8 = .ok (.arraylength, 1) := by decide +kernel
theorem dX4_postedBatches_9 : decode prog_1_method_36_code 9 = .ok (.istore_n 3, 1) := by decide +kernel
theorem dX4_postedBatches_10 : decode prog_1_method_36_code 10 = .ok (.iconst 0, 1) := by decide +kernel
theorem dX4_postedBatches_11 : decode prog_1_method_36_code 11 = .ok (.istore 4, 2) := by decide +kernel
theorem dX4_postedBatches_13 : decode prog_1_method_36_code 13 = .ok (.iload 4, 2) := by decide +kernel
theorem dX4_postedBatches_15 : decode prog_1_method_36_code 15 = .ok (.iload_n 3, 1) := by decide +kernel
theorem dX4_postedBatches_16 : decode prog_1_method_36_code 16 = .ok (.if_icmp .ge 32, 3) := by decide +kernel
theorem dX4_postedBatches_19 : decode prog_1_method_36_code 19 = .ok (.aload_n 2, 1) := by decide +kernel
theorem dX4_postedBatches_20 : decode prog_1_method_36_code 20 = .ok (.iload 4, 2) := by decide +kernel
theorem dX4_postedBatches_22 : decode prog_1_method_36_code 22 = .ok (.aaload, 1) := by decide +kernel
theorem dX4_postedBatches_23 : decode prog_1_method_36_code 23 = .ok (.astore 5, 2) := by decide +kernel
theorem dX4_postedBatches_25 : decode prog_1_method_36_code 25 = .ok (.aload 5, 2) := by decide +kernel
theorem dX4_postedBatches_27 : decode prog_1_method_36_code 27 = .ok (.ifnull 15, 3) := by decide +kernel
theorem dX4_postedBatches_30 : decode prog_1_method_36_code 30 = .ok (.aload 5, 2) := by decide +kernel
theorem dX4_postedBatches_32 : decode prog_1_method_36_code 32 = .ok (.getfield 133, 3) := by decide +kernel
theorem dX4_postedBatches_35 : decode prog_1_method_36_code 35 = .ok (.iconst 1, 1) := by decide +kernel
theorem dX4_postedBatches_36 : decode prog_1_method_36_code 36 = .ok (.if_icmp .ne 6, 3) := by decide +kernel
theorem dX4_postedBatches_39 : decode prog_1_method_36_code 39 = .ok (.iinc 1 1, 3) := by decide +kernel
theorem dX4_postedBatches_42 : decode prog_1_method_36_code 42 = .ok (.iinc 4 1, 3) := by decide +kernel
theorem dX4_postedBatches_45 : decode prog_1_method_36_code 45 = .ok (.goto (-32), 3) := by decide +kernel
theorem dX4_postedBatches_48 : decode prog_1_method_36_code 48 = .ok (.iload_n 1, 1) := by decide +kernel
theorem dX4_postedBatches_49 : decode prog_1_method_36_code 49 = .ok (.ireturn, 1) := by decide +kernel
theorem dX4_unpaidInvoices_0 : decode prog_1_method_37_code 0 = .ok (.iconst 0, 1) := by decide +kernel
theorem dX4_unpaidInvoices_1 : decode prog_1_method_37_code 1 = .ok (.istore_n 1, 1) := by decide +kernel
theorem dX4_unpaidInvoices_2 : decode prog_1_method_37_code 2 = .ok (.aload_n 0, 1) := by decide +kernel
theorem dX4_unpaidInvoices_3 : decode prog_1_method_37_code 3 = .ok (.getfield 27, 3) := by decide +kernel
theorem dX4_unpaidInvoices_6 : decode prog_1_method_37_code 6 = .ok (.astore_n 2, 1) := by decide +kernel
theorem dX4_unpaidInvoices_7 : decode prog_1_method_37_code 7 = .ok (.aload_n 2, 1) := by decide +kernel
theorem dX4_unpaidInvoices_8 : decode prog_1_method_37_code 8 = .ok (.arraylength, 1) := by decide +kernel
theorem dX4_unpaidInvoices_9 : decode prog_1_method_37_code 9 = .ok (.istore_n 3, 1) := by decide +kernel
theorem dX4_unpaidInvoices_10 : decode prog_1_method_37_code 10 = .ok (.iconst 0, 1) := by decide +kernel
theorem dX4_unpaidInvoices_11 : decode prog_1_method_37_code 11 = .ok (.istore 4, 2) := by decide +kernel
theorem dX4_unpaidInvoices_13 : decode prog_1_method_37_code 13 = .ok (.iload 4, 2) := by decide +kernel
theorem dX4_unpaidInvoices_15 : decode prog_1_method_37_code 15 = .ok (.iload_n 3, 1) := by decide +kernel
theorem dX4_unpaidInvoices_16 : decode prog_1_method_37_code 16 = .ok (.if_icmp .ge 33, 3) := by decide +kernel
theorem dX4_unpaidInvoices_19 : decode prog_1_method_37_code 19 = .ok (.aload_n 2, 1) := by decide +kernel
theorem dX4_unpaidInvoices_20 : decode prog_1_method_37_code 20 = .ok (.iload 4, 2) := by decide +kernel
theorem dX4_unpaidInvoices_22 : decode prog_1_method_37_code 22 = .ok (.aaload, 1) := by decide +kernel
theorem dX4_unpaidInvoices_23 : decode prog_1_method_37_code 23 = .ok (.astore 5, 2) := by decide +kernel
theorem dX4_unpaidInvoices_25 : decode prog_1_method_37_code 25 = .ok (.aload 5, 2) := by decide +kernel
theorem dX4_unpaidInvoices_27 : decode prog_1_method_37_code 27 = .ok (.ifnull 16, 3) := by decide +kernel
theorem dX4_unpaidInvoices_30 : decode prog_1_method_37_code 30 = .ok (.aload 5, 2) := by decide +kernel
theorem dX4_unpaidInvoices_32 : decode prog_1_method_37_code 32 = .ok (.getfield 181, 3) := by decide +kernel
theorem dX4_unpaidInvoices_35 : decode prog_1_method_37_code 35 = .ok (.lconst 0, 1) := by decide +kernel
theorem dX4_unpaidInvoices_36 : decode prog_1_method_37_code 36 = .ok (.lcmp, 1) := by decide +kernel
theorem dX4_unpaidInvoices_37 : decode prog_1_method_37_code 37 = .ok (.ifCond .le 6, 3) := by decide +kernel
theorem dX4_unpaidInvoices_40 : decode prog_1_method_37_code 40 = .ok (.iinc 1 1, 3) := by decide +kernel
theorem dX4_unpaidInvoices_43 : decode prog_1_method_37_code 43 = .ok (.iinc 4 1, 3) := by decide +kernel
theorem dX4_unpaidInvoices_46 : decode prog_1_method_37_code 46 = .ok (.goto (-33), 3) := by decide +kernel
theorem dX4_unpaidInvoices_49 : decode prog_1_method_37_code 49 = .ok (.iload_n 1, 1) := by decide +kernel
theorem dX4_unpaidInvoices_50 : decode prog_1_method_37_code 50 = .ok (.ireturn, 1) := by decide +kernel
theorem dX4_heldOwners_0 : decode prog_1_method_38_code 0 = .ok (.iconst 0, 1) := by decide +kernel
theorem dX4_heldOwners_1 : decode prog_1_method_38_code 1 = .ok (.istore_n 1, 1) := by decide +kernel
theorem dX4_heldOwners_2 : decode prog_1_method_38_code 2 = .ok (.aload_n 0, 1) := by decide +kernel
theorem dX4_heldOwners_3 : decode prog_1_method_38_code 3 = .ok (.getfield 11, 3) := by decide +kernel
theorem dX4_heldOwners_6 : decode prog_1_method_38_code 6 = .ok (.astore_n 2, 1) := by decide +kernel
theorem dX4_heldOwners_7 : decode prog_1_method_38_code 7 = .ok (.aload_n 2, 1) := by decide +kernel
theorem dX4_heldOwners_8 : decode prog_1_method_38_code 8 = .ok (.arraylength, 1) := by decide +kernel
theorem dX4_heldOwners_9 : decode prog_1_method_38_code 9 = .ok (.istore_n 3, 1) := by decide +kernel
theorem dX4_heldOwners_10 : decode prog_1_method_38_code 10 = .ok (.iconst 0, 1) := by decide +kernel
theorem dX4_heldOwners_11 : decode prog_1_method_38_code 11 = .ok (.istore 4, 2) := by decide +kernel
theorem dX4_heldOwners_13 : decode prog_1_method_38_code 13 = .ok (.iload 4, 2) := by decide +kernel
theorem dX4_heldOwners_15 : decode prog_1_method_38_code 15 = .ok (.iload_n 3, 1) := by decide +kernel
theorem dX4_heldOwners_16 : decode prog_1_method_38_code 16 = .ok (.if_icmp .ge 31, 3) := by decide +kernel
theorem dX4_heldOwners_19 : decode prog_1_method_38_code 19 = .ok (.aload_n 2, 1) := by decide +kernel
theorem dX4_heldOwners_20 : decode prog_1_method_38_code 20 = .ok (.iload 4, 2) := by decide +kernel
theorem dX4_heldOwners_22 : decode prog_1_method_38_code 22 = .ok (.aaload, 1) := by decide +kernel
theorem dX4_heldOwners_23 : decode prog_1_method_38_code 23 = .ok (.astore 5, 2) := by decide +kernel
theorem dX4_heldOwners_25 : decode prog_1_method_38_code 25 = .ok (.aload 5, 2) := by decide +kernel
theorem dX4_heldOwners_27 : decode prog_1_method_38_code 27 = .ok (.ifnull 14, 3) := by decide +kernel
theorem dX4_heldOwners_30 : decode prog_1_method_38_code 30 = .ok (.aload 5, 2) := by decide +kernel
theorem dX4_heldOwners_32 : decode prog_1_method_38_code 32 = .ok (.getfield 158, 3) := by decide +kernel
theorem dX4_heldOwners_35 : decode prog_1_method_38_code 35 = .ok (.ifCond .eq 6, 3) := by decide +kernel
theorem dX4_heldOwners_38 : decode prog_1_method_38_code 38 = .ok (.iinc 1 1, 3) := by decide +kernel
theorem dX4_heldOwners_41 : decode prog_1_method_38_code 41 = .ok (.iinc 4 1, 3) := by decide +kernel
theorem dX4_heldOwners_44 : decode prog_1_method_38_code 44 = .ok (.goto (-31), 3) := by decide +kernel
theorem dX4_heldOwners_47 : decode prog_1_method_38_code 47 = .ok (.iload_n 1, 1) := by decide +kernel
theorem dX4_heldOwners_48 : decode prog_1_method_38_code 48 = .ok (.ireturn, 1) := by decide +kernel
theorem dX4_commonDivisor_0 : decode prog_1_method_39_code 0 = .ok (.lload_n 0, 1) := by decide +kernel
theorem dX4_commonDivisor_1 : decode prog_1_method_39_code 1 = .ok (.lstore 4, 2) := by decide +kernel
theorem dX4_commonDivisor_3 : decode prog_1_method_39_code 3 = .ok (.lload_n 2, 1) := by decide +kernel
theorem dX4_commonDivisor_4 : decode prog_1_method_39_code 4 = .ok (.lstore 6, 2) := by decide +kernel
theorem dX4_commonDivisor_6 : decode prog_1_method_39_code 6 = .ok (.iconst 0, 1) := by decide +kernel
theorem dX4_commonDivisor_7 : decode prog_1_method_39_code 7 = .ok (.istore 8, 2) := by decide +kernel
theorem dX4_commonDivisor_9 : decode prog_1_method_39_code 9 = .ok (.iload 8, 2) := by decide +kernel
theorem dX4_commonDivisor_11 : decode prog_1_method_39_code 11 = .ok (.bipush 21, 2) := by decide +kernel
theorem dX4_commonDivisor_13 : decode prog_1_method_39_code 13 = .ok (.if_icmp .ge 31, 3) := by decide +kernel
theorem dX4_commonDivisor_16 : decode prog_1_method_39_code 16 = .ok (.lload 6, 2) := by decide +kernel
theorem dX4_commonDivisor_18 : decode prog_1_method_39_code 18 = .ok (.lconst 0, 1) := by decide +kernel
theorem dX4_commonDivisor_19 : decode prog_1_method_39_code 19 = .ok (.lcmp, 1) := by decide +kernel
theorem dX4_commonDivisor_20 : decode prog_1_method_39_code 20 = .ok (.ifCond .eq 24, 3) := by decide +kernel
theorem dX4_commonDivisor_23 : decode prog_1_method_39_code 23 = .ok (.lload 4, 2) := by decide +kernel
theorem dX4_commonDivisor_25 : decode prog_1_method_39_code 25 = .ok (.lload 6, 2) := by decide +kernel
theorem dX4_commonDivisor_27 : decode prog_1_method_39_code 27 = .ok (.lrem, 1) := by decide +kernel
theorem dX4_commonDivisor_28 : decode prog_1_method_39_code 28 = .ok (.lstore 9, 2) := by decide +kernel
theorem dX4_commonDivisor_30 : decode prog_1_method_39_code 30 = .ok (.lload 6, 2) := by decide +kernel
theorem dX4_commonDivisor_32 : decode prog_1_method_39_code 32 = .ok (.lstore 4, 2) := by decide +kernel
theorem dX4_commonDivisor_34 : decode prog_1_method_39_code 34 = .ok (.lload 9, 2) := by decide +kernel
theorem dX4_commonDivisor_36 : decode prog_1_method_39_code 36 = .ok (.lstore 6, 2) := by decide +kernel
theorem dX4_commonDivisor_38 : decode prog_1_method_39_code 38 = .ok (.iinc 8 1, 3) := by decide +kernel
theorem dX4_commonDivisor_41 : decode prog_1_method_39_code 41 = .ok (.goto (-32), 3) := by decide +kernel
theorem dX4_commonDivisor_44 : decode prog_1_method_39_code 44 = .ok (.lload 4, 2) := by decide +kernel
theorem dX4_commonDivisor_46 : decode prog_1_method_39_code 46 = .ok (.lconst 1, 1) := by decide +kernel
theorem dX4_commonDivisor_47 : decode prog_1_method_39_code 47 = .ok (.invokestatic 270, 3) := by decide +kernel
theorem dX4_commonDivisor_50 : decode prog_1_method_39_code 50 = .ok (.lreturn, 1) := by decide +kernel
