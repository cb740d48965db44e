theorem dL_owner_0 : decode method_3_code 0 = .ok (.aload_n 1, 1) := by decide +kernel
theorem dL_owner_1 : decode method_3_code 1 = .ok (.iconst 0, 1) := by decide +kernel
theorem dL_owner_2 : decode method_3_code 2 = .ok (.aload_n 0, 1) := by decide +kernel
theorem dL_owner_3 : decode method_3_code 3 = .ok (.invokevirtual 7, 3) := by decide +kernel
theorem dL_owner_6 : decode method_3_code 6 = .ok (.i2l, 1) := by decide +kernel
theorem dL_owner_7 : decode method_3_code 7 = .ok (.lastore, 1) := by decide +kernel
theorem dL_owner_8 : decode method_3_code 8 = .ok (.goto 6, 3) := by decide +kernel
theorem dL_owner_11 : decode method_3_code 11 = .ok (.astore_n 2, 1) := by decide +kernel
theorem dL_owner_12 : decode method_3_code 12 = .ok (.iconst 1, 1) := by decide +kernel
theorem dL_owner_13 : decode method_3_code 13 = .ok (.ireturn, 1) := by decide +kernel
theorem dL_owner_14 : decode method_3_code 14 = .ok (.iconst 0, 1) := by decide +kernel
theorem dL_owner_15 : decode method_3_code 15 = .ok (.ireturn, 1) := by decide +kernel
theorem dL_account_0 : decode method_4_code 0 = .ok (.aload_n 3, 1) := by decide +kernel
theorem dL_account_1 : decode method_4_code 1 = .ok (.iconst 0, 1) := by decide +kernel
theorem dL_account_2 : decode method_4_code 2 = .ok (.aload_n 0, 1) := by decide +kernel
theorem dL_account_3 : decode method_4_code 3 = .ok (.iload_n 1, 1) := by decide +kernel
theorem dL_account_4 : decode method_4_code 4 = .ok (.iload_n 2, 1) := by decide +kernel
theorem dL_account_5 : decode method_4_code 5 = .ok (.invokevirtual 15, 3) := by decide +kernel
theorem dL_account_8 : decode method_4_code 8 = .ok (.i2l, 1) := by decide +kernel
theorem dL_account_9 : decode method_4_code 9 = .ok (.lastore, 1) := by decide +kernel
theorem dL_account_10 : decode method_4_code 10 = .ok (.goto 15, 3) := by decide +kernel
theorem dL_account_13 : decode method_4_code 13 = .ok (.astore 4, 2) := by decide +kernel
theorem dL_account_15 : decode method_4_code 15 = .ok (.iconst 1, 1) := by decide +kernel
theorem dL_account_16 : decode method_4_code 16 = .ok (.ireturn, 1) := by decide +kernel
theorem dL_account_17 : decode method_4_code 17 = .ok (.astore 4, 2) := by decide +kernel
theorem dL_account_19 : decode method_4_code 19 = .ok (.iconst 2, 1) := by decide +kernel
theorem dL_account_20 : decode method_4_code 20 = .ok (.ireturn, 1) := by decide +kernel
theorem dL_account_21 : decode method_4_code 21 = .ok (.astore 4, 2) := by decide +kernel
theorem dL_account_23 : decode method_4_code 23 = .ok (.iconst 3, 1) := by decide +kernel
theorem dL_account_24 : decode method_4_code 24 = .ok (.ireturn, 1) := by decide +kernel
theorem dL_account_25 : decode method_4_code 25 = .ok (.iconst 0, 1) := by decide +kernel
theorem dL_account_26 : decode method_4_code 26 = .ok (.ireturn, 1) := by decide +kernel
theorem dL_month_0 : decode method_5_code 0 = .ok (.aload_n 0, 1) := by decide +kernel
theorem dL_month_1 : decode method_5_code 1 = .ok (.iload_n 1, 1) := by decide +kernel
theorem dL_month_2 : decode method_5_code 2 = .ok (.invokevirtual 23, 3) := by decide +kernel
theorem dL_month_5 : decode method_5_code 5 = .ok (.goto 6, 3) := by decide +kernel
theorem dL_month_8 : decode method_5_code 8 = .ok (.astore_n 2, 1) := by decide +kernel
theorem dL_month_9 : decode method_5_code 9 = .ok (.iconst 1, 1) := by decide +kernel
theorem dL_month_10 : decode method_5_code 10 = .ok (.ireturn, 1) := by decide +kernel
theorem dL_month_11 : decode method_5_code 11 = .ok (.iconst 0, 1) := by decide +kernel
theorem dL_month_12 : decode method_5_code 12 = .ok (.ireturn, 1) := by decide +kernel
theorem dL_close_0 : decode method_6_code 0 = .ok (.aload_n 2, 1) := by decide +kernel
theorem dL_close_1 : decode method_6_code 1 = .ok (.iconst 0, 1) := by decide +kernel
theorem dL_close_2 : decode method_6_code 2 = .ok (.aload_n 0, 1) := by decide +kernel
theorem dL_close_3 : decode method_6_code 3 = .ok (.iload_n 1, 1) := by decide +kernel
theorem dL_close_4 : decode method_6_code 4 = .ok (.invokevirtual 27, 3) := by decide +kernel
theorem dL_close_7 : decode method_6_code 7 = .ok (.i2l, 1) := by decide +kernel
theorem dL_close_8 : decode method_6_code 8 = .ok (.lastore, 1) := by decide +kernel
theorem dL_close_9 : decode method_6_code 9 = .ok (.goto 9, 3) := by decide +kernel
theorem dL_close_12 : decode method_6_code 12 = .ok (.astore_n 3, 1) := by decide +kernel
theorem dL_close_13 : decode method_6_code 13 = .ok (.iconst 1, 1) := by decide +kernel
theorem dL_close_14 : decode method_6_code 14 = .ok (.ireturn, 1) := by decide +kernel
theorem dL_close_15 : decode method_6_code 15 = .ok (.astore_n 3, 1) := by decide +kernel
theorem dL_close_16 : decode method_6_code 16 = .ok (.iconst 2, 1) := by decide +kernel
theorem dL_close_17 : decode method_6_code 17 = .ok (.ireturn, 1) := by decide +kernel
theorem dL_close_18 : decode method_6_code 18 = .ok (.iconst 0, 1) := by decide +kernel
theorem dL_close_19 : decode method_6_code 19 = .ok (.ireturn, 1) := by decide +kernel
theorem dL_batch_0 : decode method_7_code 0 = .ok (.aload_n 2, 1) := by decide +kernel
theorem dL_batch_1 : decode method_7_code 1 = .ok (.iconst 0, 1) := by decide +kernel
theorem dL_batch_2 : decode method_7_code 2 = .ok (.aload_n 0, 1) := by decide +kernel
theorem dL_batch_3 : decode method_7_code 3 = .ok (.iload_n 1, 1) := by decide +kernel
theorem dL_batch_4 : decode method_7_code 4 = .ok (.invokevirtual 33, 3) := by decide +kernel
theorem dL_batch_7 : decode method_7_code 7 = .ok (.i2l, 1) := by decide +kernel
theorem dL_batch_8 : decode method_7_code 8 = .ok (.lastore, 1) := by decide +kernel
theorem dL_batch_9 : decode method_7_code 9 = .ok (.goto 12, 3) := by decide +kernel
theorem dL_batch_12 : decode method_7_code 12 = .ok (.astore_n 3, 1) := by decide +kernel
theorem dL_batch_13 : decode method_7_code 13 = .ok (.iconst 1, 1) := by decide +kernel
theorem dL_batch_14 : decode method_7_code 14 = .ok (.ireturn, 1) := by decide +kernel
theorem dL_batch_15 : decode method_7_code 15 = .ok (.astore_n 3, 1) := by decide +kernel
theorem dL_batch_16 : decode method_7_code 16 = .ok (.iconst 2, 1) := by decide +kernel
theorem dL_batch_17 : decode method_7_code 17 = .ok (.ireturn, 1) := by decide +kernel
theorem dL_batch_18 : decode method_7_code 18 = .ok (.astore_n 3, 1) := by decide +kernel
theorem dL_batch_19 : decode method_7_code 19 = .ok (.iconst 3, 1) := by decide +kernel
theorem dL_batch_20 : decode method_7_code 20 = .ok (.ireturn, 1) := by decide +kernel
theorem dL_batch_21 : decode method_7_code 21 = .ok (.iconst 0, 1) := by decide +kernel
theorem dL_batch_22 : decode method_7_code 22 = .ok (.ireturn, 1) := by decide +kernel
theorem dL_row_0 : decode method_8_code 0 = .ok (.aload 5, 2) := by decide +kernel
theorem dL_row_2 : decode method_8_code 2 = .ok (.iconst 0, 1) := by decide +kernel
theorem dL_row_3 : decode method_8_code 3 = .ok (.aload_n 0, 1) := by decide +kernel
theorem dL_row_4 : decode method_8_code 4 = .ok (.iload_n 1, 1) := by decide +kernel
theorem dL_row_5 : decode method_8_code 5 = .ok (.iload_n 2, 1) := by decide +kernel
theorem dL_row_6 : decode method_8_code 6 = .ok (.lload_n 3, 1) := by decide +kernel
theorem dL_row_7 : decode method_8_code 7 = .ok (.invokevirtual 36, 3) := by decide +kernel
theorem dL_row_10 : decode method_8_code 10 = .ok (.i2l, 1) := by decide +kernel
theorem dL_row_11 : decode method_8_code 11 = .ok (.lastore, 1) := by decide +kernel
theorem dL_row_12 : decode method_8_code 12 = .ok (.goto 19, 3) := by decide +kernel
theorem dL_row_15 : decode method_8_code 15 = .ok (.astore 6, 2) := by decide +kernel
theorem dL_row_17 : decode method_8_code 17 = .ok (.iconst 1, 1) := by decide +kernel
theorem dL_row_18 : decode method_8_code 18 = .ok (.ireturn, 1) := by decide +kernel
theorem dL_row_19 : decode method_8_code 19 = .ok (.astore 6, 2) := by decide +kernel
theorem dL_row_21 : decode method_8_code 21 = .ok (.iconst 2, 1) := by decide +kernel
theorem dL_row_22 : decode method_8_code 22 = .ok (.ireturn, 1) := by decide +kernel
theorem dL_row_23 : decode method_8_code 23 = .ok (.astore 6, 2) := by decide +kernel
theorem dL_row_25 : decode method_8_code 25 = .ok (.iconst 3, 1) := by decide +kernel
theorem dL_row_26 : decode method_8_code 26 = .ok (.ireturn, 1) := by decide +kernel
theorem dL_row_27 : decode method_8_code 27 = .ok (.astore 6, 2) := by decide +kernel
theorem dL_row_29 : decode method_8_code 29 = .ok (.iconst 4, 1) := by decide +kernel
theorem dL_row_30 : decode method_8_code 30 = .ok (.ireturn, 1) := by decide +kernel
theorem dL_row_31 : decode method_8_code 31 = .ok (.iconst 0, 1) := by decide +kernel
theorem dL_row_32 : decode method_8_code 32 = .ok (.ireturn, 1) := by decide +kernel
theorem dL_breaks_0 : decode method_9_code 0 = .ok (.aload_n 0, 1) := by decide +kernel
theorem dL_breaks_1 : decode method_9_code 1 = .ok (.iload_n 1, 1) := by decide +kernel
theorem dL_breaks_2 : decode method_9_code 2 = .ok (.iload_n 2, 1) := by decide +kernel
theorem dL_breaks_3 : decode method_9_code 3 = .ok (.iload_n 3, 1) := by decide +kernel
theorem dL_breaks_4 : decode method_9_code 4 = .ok (.invokevirtual 40, 3) := by decide +kernel
theorem dL_breaks_7 : decode method_9_code 7 = .ok (.goto 11, 3) := by decide +kernel
theorem dL_breaks_10 : decode method_9_code 10 = .ok (.astore 4, 2) := by decide +kernel
theorem dL_breaks_12 : decode method_9_code 12 = .ok (.iconst 1, 1) := by decide +kernel
theorem dL_breaks_13 : decode method_9_code 13 = .ok (.ireturn, 1) := by decide +kernel
theorem dL_breaks_14 : decode method_9_code 14 = .ok (.astore 4, 2) := by decide +kernel
theorem dL_breaks_16 : decode method_9_code 16 = .ok (.iconst 2, 1) := by decide +kernel
theorem dL_breaks_17 : decode method_9_code 17 = .ok (.ireturn, 1) := by decide +kernel
theorem dL_breaks_18 : decode method_9_code 18 = .ok (.iconst 0, 1) := by decide +kernel
theorem dL_breaks_19 : decode method_9_code 19 = .ok (.ireturn, 1) := by decide +kernel
theorem dL_post_0 : decode method_10_code 0 = .ok (.aload_n 2, 1) := by decide +kernel
theorem dL_post_1 : decode method_10_code 1 = .ok (.iconst 0, 1) := by decide +kernel
theorem dL_post_2 : decode method_10_code 2 = .ok (.aload_n 0, 1) := by decide +kernel
theorem dL_post_3 : decode method_10_code 3 = .ok (.iload_n 1, 1) := by decide +kernel
theorem dL_post_4 : decode method_10_code 4 = .ok (.invokevirtual 44, 3) := by decide +kernel
theorem dL_post_7 : decode method_10_code 7 = .ok (.i2l, 1) := by decide +kernel
theorem dL_post_8 : decode method_10_code 8 = .ok (.lastore, 1) := by decide +kernel
theorem dL_post_9 : decode method_10_code 9 = .ok (.goto 9, 3) := by decide +kernel
theorem dL_post_12 : decode method_10_code 12 = .ok (.astore_n 3, 1) := by decide +kernel
theorem dL_post_13 : decode method_10_code 13 = .ok (.iconst 1, 1) := by decide +kernel
theorem dL_post_14 : decode method_10_code 14 = .ok (.ireturn, 1) := by decide +kernel
theorem dL_post_15 : decode method_10_code 15 = .ok (.astore_n 3, 1) := by decide +kernel
theorem dL_post_16 : decode method_10_code 16 = .ok (.iconst 2, 1) := by decide +kernel
theorem dL_post_17 : decode method_10_code 17 = .ok (.ireturn, 1) := by decide +kernel
theorem dL_post_18 : decode method_10_code 18 = .ok (.iconst 0, 1) := by decide +kernel
theorem dL_post_19 : decode method_10_code 19 = .ok (.ireturn, 1) := by decide +kernel
theorem dL_reverse_0 : decode method_11_code 0 = .ok (.aload_n 2, 1) := by decide +kernel
theorem dL_reverse_1 : decode method_11_code 1 = .ok (.iconst 0, 1) := by decide +kernel
theorem dL_reverse_2 : decode method_11_code 2 = .ok (.aload_n 0, 1) := by decide +kernel
theorem dL_reverse_3 : decode method_11_code 3 = .ok (.iload_n 1, 1) := by decide +kernel
theorem dL_reverse_4 : decode method_11_code 4 = .ok (.invokevirtual 47, 3) := by decide +kernel
theorem dL_reverse_7 : decode method_11_code 7 = .ok (.i2l, 1) := by decide +kernel
theorem dL_reverse_8 : decode method_11_code 8 = .ok (.lastore, 1) := by decide +kernel
theorem dL_reverse_9 : decode method_11_code 9 = .ok (.goto 12, 3) := by decide +kernel
theorem dL_reverse_12 : decode method_11_code 12 = .ok (.astore_n 3, 1) := by decide +kernel
theorem dL_reverse_13 : decode method_11_code 13 = .ok (.iconst 1, 1) := by decide +kernel
theorem dL_reverse_14 : decode method_11_code 14 = .ok (.ireturn, 1) := by decide +kernel
theorem dL_reverse_15 : decode method_11_code 15 = .ok (.astore_n 3, 1) := by decide +kernel
theorem dL_reverse_16 : decode method_11_code 16 = .ok (.iconst 2, 1) := by decide +kernel
theorem dL_reverse_17 : decode method_11_code 17 = .ok (.ireturn, 1) := by decide +kernel
theorem dL_reverse_18 : decode method_11_code 18 = .ok (.astore_n 3, 1) := by decide +kernel
theorem dL_reverse_19 : decode method_11_code 19 = .ok (.iconst 3, 1) := by decide +kernel
theorem dL_reverse_20 : decode method_11_code 20 = .ok (.ireturn, 1) := by decide +kernel
theorem dL_reverse_21 : decode method_11_code 21 = .ok (.iconst 0, 1) := by decide +kernel
theorem dL_reverse_22 : decode method_11_code 22 = .ok (.ireturn, 1) := by decide +kernel
theorem dL_balance_0 : decode method_12_code 0 = .ok (.aload_n 3, 1) := by decide +kernel
theorem dL_balance_1 : decode method_12_code 1 = .ok (.iconst 0, 1) := by decide +kernel
theorem dL_balance_2 : decode method_12_code 2 = .ok (.aload_n 0, 1) := by decide +kernel
theorem dL_balance_3 : decode method_12_code 3 = .ok (.iload_n 1, 1) := by decide +kernel
theorem dL_balance_4 : decode method_12_code 4 = .ok (.iload_n 2, 1) := by decide +kernel
theorem dL_balance_5 : decode method_12_code 5 = .ok (.invokevirtual 50, 3) := by decide +kernel
theorem dL_balance_8 : decode method_12_code 8 = .ok (.lastore, 1) := by decide +kernel
theorem dL_balance_9 : decode method_12_code 9 = .ok (.goto 11, 3) := by decide +kernel
theorem dL_balance_12 : decode method_12_code 12 = .ok (.astore 4, 2) := by decide +kernel
theorem dL_balance_14 : decode method_12_code 14 = .ok (.iconst 1, 1) := by decide +kernel
theorem dL_balance_15 : decode method_12_code 15 = .ok (.ireturn, 1) := by decide +kernel
theorem dL_balance_16 : decode method_12_code 16 = .ok (.astore 4, 2) := by decide +kernel
theorem dL_balance_18 : decode method_12_code 18 = .ok (.iconst 2, 1) := by decide +kernel
theorem dL_balance_19 : decode method_12_code 19 = .ok (.ireturn, 1) := by decide +kernel
theorem dL_balance_20 : decode method_12_code 20 = .ok (.iconst 0, 1) := by decide +kernel
theorem dL_balance_21 : decode method_12_code 21 = .ok (.ireturn, 1) := by decide +kernel
theorem dL_all_0 : decode method_13_code 0 = .ok (.aload_n 2, 1) := by decide +kernel
theorem dL_all_1 : decode method_13_code 1 = .ok (.iconst 0, 1) := by decide +kernel
theorem dL_all_2 : decode method_13_code 2 = .ok (.aload_n 0, 1) := by decide +kernel
theorem dL_all_3 : decode method_13_code 3 = .ok (.iload_n 1, 1) := by decide +kernel
theorem dL_all_4 : decode method_13_code 4 = .ok (.invokevirtual 54, 3) := by decide +kernel
theorem dL_all_7 : decode method_13_code 7 = .ok (.lastore, 1) := by decide +kernel
theorem dL_all_8 : decode method_13_code 8 = .ok (.goto 6, 3) := by decide +kernel
theorem dL_all_11 : decode method_13_code 11 = .ok (.astore_n 3, 1) := by decide +kernel
theorem dL_all_12 : decode method_13_code 12 = .ok (.iconst 1, 1) := by decide +kernel
theorem dL_all_13 : decode method_13_code 13 = .ok (.ireturn, 1) := by decide +kernel
theorem dL_all_14 : decode method_13_code 14 = .ok (.iconst 0, 1) := by decide +kernel
theorem dL_all_15 : decode method_13_code 15 = .ok (.ireturn, 1) := by decide +kernel
theorem dL_invoice_0 : decode method_14_code 0 = .ok (.aload 5, 2) := by decide +kernel
theorem dL_invoice_2 : decode method_14_code 2 = .ok (.iconst 0, 1) := by decide +kernel
theorem dL_invoice_3 : decode method_14_code 3 = .ok (.aload_n 0, 1) := by decide +kernel
theorem dL_invoice_4 : decode method_14_code 4 = .ok (.iload_n 1, 1) := by decide +kernel
theorem dL_invoice_5 : decode method_14_code 5 = .ok (.lload_n 2, 1) := by decide +kernel
theorem dL_invoice_6 : decode method_14_code 6 = .ok (.iload 4, 2) := by decide +kernel
theorem dL_invoice_8 : decode method_14_code 8 = .ok (.invokevirtual 58, 3) := by decide +kernel
theorem dL_invoice_11 : decode method_14_code 11 = .ok (.i2l, 1) := by decide +kernel
theorem dL_invoice_12 : decode method_14_code 12 = .ok (.lastore, 1) := by decide +kernel
theorem dL_invoice_13 : decode method_14_code 13 = .ok (.goto 19, 3) := by decide +kernel
theorem dL_invoice_16 : decode method_14_code 16 = .ok (.astore 6, 2) := by decide +kernel
theorem dL_invoice_18 : decode method_14_code 18 = .ok (.iconst 1, 1) := by decide +kernel
theorem dL_invoice_19 : decode method_14_code 19 = .ok (.ireturn, 1) := by decide +kernel
theorem dL_invoice_20 : decode method_14_code 20 = .ok (.astore 6, 2) := by decide +kernel
theorem dL_invoice_22 : decode method_14_code 22 = .ok (.iconst 2, 1) := by decide +kernel
theorem dL_invoice_23 : decode method_14_code 23 = .ok (.ireturn, 1) := by decide +kernel
theorem dL_invoice_24 : decode method_14_code 24 = .ok (.astore 6, 2) := by decide +kernel
theorem dL_invoice_26 : decode method_14_code 26 = .ok (.iconst 3, 1) := by decide +kernel
theorem dL_invoice_27 : decode method_14_code 27 = .ok (.ireturn, 1) := by decide +kernel
theorem dL_invoice_28 : decode method_14_code 28 = .ok (.astore 6, 2) := by decide +kernel
theorem dL_invoice_30 : decode method_14_code 30 = .ok (.iconst 4, 1) := by decide +kernel
theorem dL_invoice_31 : decode method_14_code 31 = .ok (.ireturn, 1) := by decide +kernel
theorem dL_invoice_32 : decode method_14_code 32 = .ok (.iconst 0, 1) := by decide +kernel
theorem dL_invoice_33 : decode method_14_code 33 = .ok (.ireturn, 1) := by decide +kernel
theorem dL_pay_0 : decode method_15_code 0 = .ok (.aload 4, 2) := by decide +kernel
theorem dL_pay_2 : decode method_15_code 2 = .ok (.iconst 0, 1) := by decide +kernel
theorem dL_pay_3 : decode method_15_code 3 = .ok (.aload_n 0, 1) := by decide +kernel
theorem dL_pay_4 : decode method_15_code 4 = .ok (.iload_n 1, 1) := by decide +kernel
theorem dL_pay_5 : decode method_15_code 5 = .ok (.lload_n 2, 1) := by decide +kernel
theorem dL_pay_6 : decode method_15_code 6 = .ok (.invokevirtual 62, 3) := by decide +kernel
theorem dL_pay_9 : decode method_15_code 9 = .ok (.i2l, 1) := by decide +kernel
theorem dL_pay_10 : decode method_15_code 10 = .ok (.lastore, 1) := by decide +kernel
theorem dL_pay_11 : decode method_15_code 11 = .ok (.goto 11, 3) := by decide +kernel
theorem dL_pay_14 : decode method_15_code 14 = .ok (.astore 5, 2) := by decide +kernel
theorem dL_pay_16 : decode method_15_code 16 = .ok (.iconst 1, 1) := by decide +kernel
theorem dL_pay_17 : decode method_15_code 17 = .ok (.ireturn, 1) := by decide +kernel
theorem dL_pay_18 : decode method_15_code 18 = .ok (.astore 5, 2) := by decide +kernel
theorem dL_pay_20 : decode method_15_code 20 = .ok (.iconst 2, 1) := by decide +kernel
theorem dL_pay_21 : decode method_15_code 21 = .ok (.ireturn, 1) := by decide +kernel
theorem dL_pay_22 : decode method_15_code 22 = .ok (.iconst 0, 1) := by decide +kernel
theorem dL_pay_23 : decode method_15_code 23 = .ok (.ireturn, 1) := by decide +kernel
theorem dL_settle_0 : decode method_16_code 0 = .ok (.aload 4, 2) := by decide +kernel
theorem dL_settle_2 : decode method_16_code 2 = .ok (.iconst 0, 1) := by decide +kernel
theorem dL_settle_3 : decode method_16_code 3 = .ok (.aload_n 0, 1) := by decide +kernel
theorem dL_settle_4 : decode method_16_code 4 = .ok (.iload_n 1, 1) := by decide +kernel
theorem dL_settle_5 : decode method_16_code 5 = .ok (.lload_n 2, 1) := by decide +kernel
theorem dL_settle_6 : decode method_16_code 6 = .ok (.invokevirtual 66, 3) := by decide +kernel
theorem dL_settle_9 : decode method_16_code 9 = .ok (.lastore, 1) := by decide +kernel
theorem dL_settle_10 : decode method_16_code 10 = .ok (.goto 11, 3) := by decide +kernel
theorem dL_settle_13 : decode method_16_code 13 = .ok (.astore 5, 2) := by decide +kernel
theorem dL_settle_15 : decode method_16_code 15 = .ok (.iconst 1, 1) := by decide +kernel
theorem dL_settle_16 : decode method_16_code 16 = .ok (.ireturn, 1) := by decide +kernel
theorem dL_settle_17 : decode method_16_code 17 = .ok (.astore 5, 2) := by decide +kernel
theorem dL_settle_19 : decode method_16_code 19 = .ok (.iconst 2, 1) := by decide +kernel
theorem dL_settle_20 : decode method_16_code 20 = .ok (.ireturn, 1) := by decide +kernel
theorem dL_settle_21 : decode method_16_code 21 = .ok (.iconst 0, 1) := by decide +kernel
theorem dL_settle_22 : decode method_16_code 22 = .ok (.ireturn, 1) := by decide +kernel
theorem dL_dispute_0 : decode method_17_code 0 = .ok (.aload_n 3, 1) := by decide +kernel
theorem dL_dispute_1 : decode method_17_code 1 = .ok (.iconst 0, 1) := by decide +kernel
theorem dL_dispute_2 : decode method_17_code 2 = .ok (.aload_n 0, 1) := by decide +kernel
theorem dL_dispute_3 : decode method_17_code 3 = .ok (.iload_n 1, 1) := by decide +kernel
theorem dL_dispute_4 : decode method_17_code 4 = .ok (.iload_n 2, 1) := by decide +kernel
theorem dL_dispute_5 : decode method_17_code 5 = .ok (.invokevirtual 70, 3) := by decide +kernel
theorem dL_dispute_8 : decode method_17_code 8 = .ok (.lastore, 1) := by decide +kernel
theorem dL_dispute_9 : decode method_17_code 9 = .ok (.goto 11, 3) := by decide +kernel
theorem dL_dispute_12 : decode method_17_code 12 = .ok (.astore 4, 2) := by decide +kernel
theorem dL_dispute_14 : decode method_17_code 14 = .ok (.iconst 1, 1) := by decide +kernel
theorem dL_dispute_15 : decode method_17_code 15 = .ok (.ireturn, 1) := by decide +kernel
theorem dL_dispute_16 : decode method_17_code 16 = .ok (.astore 4, 2) := by decide +kernel
theorem dL_dispute_18 : decode method_17_code 18 = .ok (.iconst 2, 1) := by decide +kernel
theorem dL_dispute_19 : decode method_17_code 19 = .ok (.ireturn, 1) := by decide +kernel
theorem dL_dispute_20 : decode method_17_code 20 = .ok (.iconst 0, 1) := by decide +kernel
theorem dL_dispute_21 : decode method_17_code 21 = .ok (.ireturn, 1) := by decide +kernel
theorem dL_dun_0 : decode method_18_code 0 = .ok (.aload_n 2, 1) := by decide +kernel
theorem dL_dun_1 : decode method_18_code 1 = .ok (.iconst 0, 1) := by decide +kernel
theorem dL_dun_2 : decode method_18_code 2 = .ok (.aload_n 0, 1) := by decide +kernel
theorem dL_dun_3 : decode method_18_code 3 = .ok (.iload_n 1, 1) := by decide +kernel
theorem dL_dun_4 : decode method_18_code 4 = .ok (.invokevirtual 74, 3) := by decide +kernel
theorem dL_dun_7 : decode method_18_code 7 = .ok (.i2l, 1) := by decide +kernel
theorem dL_dun_8 : decode method_18_code 8 = .ok (.lastore, 1) := by decide +kernel
theorem dL_dun_9 : decode method_18_code 9 = .ok (.goto 9, 3) := by decide +kernel
theorem dL_dun_12 : decode method_18_code 12 = .ok (.astore_n 3, 1) := by decide +kernel
theorem dL_dun_13 : decode method_18_code 13 = .ok (.iconst 1, 1) := by decide +kernel
theorem dL_dun_14 : decode method_18_code 14 = .ok (.ireturn, 1) := by decide +kernel
theorem dL_dun_15 : decode method_18_code 15 = .ok (.astore_n 3, 1) := by decide +kernel
theorem dL_dun_16 : decode method_18_code 16 = .ok (.iconst 2, 1) := by decide +kernel
theorem dL_dun_17 : decode method_18_code 17 = .ok (.ireturn, 1) := by decide +kernel
theorem dL_dun_18 : decode method_18_code 18 = .ok (.iconst 0, 1) := by decide +kernel
theorem dL_dun_19 : decode method_18_code 19 = .ok (.ireturn, 1) := by decide +kernel
theorem dL_rate_0 : decode method_19_code 0 = .ok (.aload_n 0, 1) := by decide +kernel
theorem dL_rate_1 : decode method_19_code 1 = .ok (.iload_n 1, 1) := by decide +kernel
theorem dL_rate_2 : decode method_19_code 2 = .ok (.invokevirtual 77, 3) := by decide +kernel
theorem dL_rate_5 : decode method_19_code 5 = .ok (.goto 6, 3) := by decide +kernel
theorem dL_rate_8 : decode method_19_code 8 = .ok (.astore_n 2, 1) := by decide +kernel
theorem dL_rate_9 : decode method_19_code 9 = .ok (.iconst 1, 1) := by decide +kernel
theorem dL_rate_10 : decode method_19_code 10 = .ok (.ireturn, 1) := by decide +kernel
theorem dL_rate_11 : decode method_19_code 11 = .ok (.iconst 0, 1) := by decide +kernel
theorem dL_rate_12 : decode method_19_code 12 = .ok (.ireturn, 1) := by decide +kernel
theorem dL_interest_0 : decode method_20_code 0 = .ok (.aload_n 3, 1) := by decide +kernel
theorem dL_interest_1 : decode method_20_code 1 = .ok (.iconst 0, 1) := by decide +kernel
theorem dL_interest_2 : decode method_20_code 2 = .ok (.aload_n 0, 1) := by decide +kernel
theorem dL_interest_3 : decode method_20_code 3 = .ok (.iload_n 1, 1) := by decide +kernel
theorem dL_interest_4 : decode method_20_code 4 = .ok (.iload_n 2, 1) := by decide +kernel
theorem dL_interest_5 : decode method_20_code 5 = .ok (.invokevirtual 80, 3) := by decide +kernel
theorem dL_interest_8 : decode method_20_code 8 = .ok (.lastore, 1) := by decide +kernel
theorem dL_interest_9 : decode method_20_code 9 = .ok (.goto 11, 3) := by decide +kernel
theorem dL_interest_12 : decode method_20_code 12 = .ok (.astore 4, 2) := by decide +kernel
theorem dL_interest_14 : decode method_20_code 14 = .ok (.iconst 1, 1) := by decide +kernel
theorem dL_interest_15 : decode method_20_code 15 = .ok (.ireturn, 1) := by decide +kernel
theorem dL_interest_16 : decode method_20_code 16 = .ok (.astore 4, 2) := by decide +kernel
theorem dL_interest_18 : decode method_20_code 18 = .ok (.iconst 2, 1) := by decide +kernel
theorem dL_interest_19 : decode method_20_code 19 = .ok (.ireturn, 1) := by decide +kernel
theorem dL_interest_20 : decode method_20_code 20 = .ok (.iconst 0, 1) := by decide +kernel
theorem dL_interest_21 : decode method_20_code 21 = .ok (.ireturn, 1) := by decide +kernel
theorem dL_hold_0 : decode method_21_code 0 = .ok (.aload_n 3, 1) := by decide +kernel
theorem dL_hold_1 : decode method_21_code 1 = .ok (.iconst 0, 1) := by decide +kernel
theorem dL_hold_2 : decode method_21_code 2 = .ok (.aload_n 0, 1) := by decide +kernel
theorem dL_hold_3 : decode method_21_code 3 = .ok (.iload_n 1, 1) := by decide +kernel
theorem dL_hold_4 : decode method_21_code 4 = .ok (.iload_n 2, 1) := by decide +kernel
theorem dL_hold_5 : decode method_21_code 5 = .ok (.invokevirtual 83, 3) := by decide +kernel
theorem dL_hold_8 : decode method_21_code 8 = .ok (.i2l, 1) := by decide +kernel
theorem dL_hold_9 : decode method_21_code 9 = .ok (.lastore, 1) := by decide +kernel
theorem dL_hold_10 : decode method_21_code 10 = .ok (.goto 11, 3) := by decide +kernel
theorem dL_hold_13 : decode method_21_code 13 = .ok (.astore 4, 2) := by decide +kernel
theorem dL_hold_15 : decode method_21_code 15 = .ok (.iconst 1, 1) := by decide +kernel
theorem dL_hold_16 : decode method_21_code 16 = .ok (.ireturn, 1) := by decide +kernel
theorem dL_hold_17 : decode method_21_code 17 = .ok (.astore 4, 2) := by decide +kernel
theorem dL_hold_19 : decode method_21_code 19 = .ok (.iconst 2, 1) := by decide +kernel
theorem dL_hold_20 : decode method_21_code 20 = .ok (.ireturn, 1) := by decide +kernel
theorem dL_hold_21 : decode method_21_code 21 = .ok (.iconst 0, 1) := by decide +kernel
theorem dL_hold_22 : decode method_21_code 22 = .ok (.ireturn, 1) := by decide +kernel
theorem dL_told_0 : decode method_22_code 0 = .ok (.aload_n 3, 1) := by decide +kernel
theorem dL_told_1 : decode method_22_code 1 = .ok (.iconst 0, 1) := by decide +kernel
theorem dL_told_2 : decode method_22_code 2 = .ok (.aload_n 0, 1) := by decide +kernel
theorem dL_told_3 : decode method_22_code 3 = .ok (.iload_n 1, 1) := by decide +kernel
theorem dL_told_4 : decode method_22_code 4 = .ok (.iload_n 2, 1) := by decide +kernel
theorem dL_told_5 : decode method_22_code 5 = .ok (.invokevirtual 87, 3) := by decide +kernel
theorem dL_told_8 : decode method_22_code 8 = .ok (.i2l, 1) := by decide +kernel
theorem dL_told_9 : decode method_22_code 9 = .ok (.lastore, 1) := by decide +kernel
theorem dL_told_10 : decode method_22_code 10 = .ok (.goto 11, 3) := by decide +kernel
theorem dL_told_13 : decode method_22_code 13 = .ok (.astore 4, 2) := by decide +kernel
theorem dL_told_15 : decode method_22_code 15 = .ok (.iconst 1, 1) := by decide +kernel
theorem dL_told_16 : decode method_22_code 16 = .ok (.ireturn, 1) := by decide +kernel
theorem dL_told_17 : decode method_22_code 17 = .ok (.astore 4, 2) := by decide +kernel
theorem dL_told_19 : decode method_22_code 19 = .ok (.iconst 2, 1) := by decide +kernel
theorem dL_told_20 : decode method_22_code 20 = .ok (.ireturn, 1) := by decide +kernel
theorem dL_told_21 : decode method_22_code 21 = .ok (.iconst 0, 1) := by decide +kernel
theorem dL_told_22 : decode method_22_code 22 = .ok (.ireturn, 1) := by decide +kernel
theorem dL_known_0 : decode method_23_code 0 = .ok (.aload_n 3, 1) := by decide +kernel
theorem dL_known_1 : decode method_23_code 1 = .ok (.iconst 0, 1) := by decide +kernel
theorem dL_known_2 : decode method_23_code 2 = .ok (.aload_n 0, 1) := by decide +kernel
theorem dL_known_3 : decode method_23_code 3 = .ok (.iload_n 1, 1) := by decide +kernel
theorem dL_known_4 : decode method_23_code 4 = .ok (.iload_n 2, 1) := by decide +kernel
theorem dL_known_5 : decode method_23_code 5 = .ok (.invokevirtual 90, 3) := by decide +kernel
theorem dL_known_8 : decode method_23_code 8 = .ok (.lastore, 1) := by decide +kernel
theorem dL_known_9 : decode method_23_code 9 = .ok (.goto 11, 3) := by decide +kernel
theorem dL_known_12 : decode method_23_code 12 = .ok (.astore 4, 2) := by decide +kernel
theorem dL_known_14 : decode method_23_code 14 = .ok (.iconst 1, 1) := by decide +kernel
theorem dL_known_15 : decode method_23_code 15 = .ok (.ireturn, 1) := by decide +kernel
theorem dL_known_16 : decode method_23_code 16 = .ok (.astore 4, 2) := by decide +kernel
theorem dL_known_18 : decode method_23_code 18 = .ok (.iconst 2, 1) := by decide +kernel
theorem dL_known_19 : decode method_23_code 19 = .ok (.ireturn, 1) := by decide +kernel
theorem dL_known_20 : decode method_23_code 20 = .ok (.iconst 0, 1) := by decide +kernel
theorem dL_known_21 : decode method_23_code 21 = .ok (.ireturn, 1) := by decide +kernel
theorem dL_credit_0 : decode method_24_code 0 = .ok (.aload_n 2, 1) := by decide +kernel
theorem dL_credit_1 : decode method_24_code 1 = .ok (.iconst 0, 1) := by decide +kernel
theorem dL_credit_2 : decode method_24_code 2 = .ok (.aload_n 0, 1) := by decide +kernel
theorem dL_credit_3 : decode method_24_code 3 = .ok (.iload_n 1, 1) := by decide +kernel
theorem dL_credit_4 : decode method_24_code 4 = .ok (.invokevirtual 93, 3) := by decide +kernel
theorem dL_credit_7 : decode method_24_code 7 = .ok (.lastore, 1) := by decide +kernel
theorem dL_credit_8 : decode method_24_code 8 = .ok (.goto 6, 3) := by decide +kernel
theorem dL_credit_11 : decode method_24_code 11 = .ok (.astore_n 3, 1) := by decide +kernel
theorem dL_credit_12 : decode method_24_code 12 = .ok (.iconst 1, 1) := by decide +kernel
theorem dL_credit_13 : decode method_24_code 13 = .ok (.ireturn, 1) := by decide +kernel
theorem dL_credit_14 : decode method_24_code 14 = .ok (.iconst 0, 1) := by decide +kernel
theorem dL_credit_15 : decode method_24_code 15 = .ok (.ireturn, 1) := by decide +kernel
