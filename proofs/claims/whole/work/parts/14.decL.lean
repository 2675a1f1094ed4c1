/-! DECODE rows (printed by gen/parts.py). -/
theorem dd_la_register_0 : decode method_3_code 0 = .ok (.aload_n 0, 1) := by decide +kernel
theorem dd_la_register_1 : decode method_3_code 1 = .ok (.iload_n 1, 1) := by decide +kernel
theorem dd_la_register_2 : decode method_3_code 2 = .ok (.iload_n 2, 1) := by decide +kernel
theorem dd_la_register_3 : decode method_3_code 3 = .ok (.iload_n 3, 1) := by decide +kernel
theorem dd_la_register_4 : decode method_3_code 4 = .ok (.invokevirtual 7, 3) := by decide +kernel
theorem dd_la_register_7 : decode method_3_code 7 = .ok (.goto 11, 3) := by decide +kernel
theorem dd_la_register_10 : decode method_3_code 10 = .ok (.astore 4, 2) := by decide +kernel
theorem dd_la_register_12 : decode method_3_code 12 = .ok (.iconst 1, 1) := by decide +kernel
theorem dd_la_register_13 : decode method_3_code 13 = .ok (.ireturn, 1) := by decide +kernel
theorem dd_la_register_14 : decode method_3_code 14 = .ok (.astore 4, 2) := by decide +kernel
theorem dd_la_register_16 : decode method_3_code 16 = .ok (.iconst 2, 1) := by decide +kernel
theorem dd_la_register_17 : decode method_3_code 17 = .ok (.ireturn, 1) := by decide +kernel
theorem dd_la_register_18 : decode method_3_code 18 = .ok (.iconst 0, 1) := by decide +kernel
theorem dd_la_register_19 : decode method_3_code 19 = .ok (.ireturn, 1) := by decide +kernel
theorem dd_la_ask_0 : decode method_4_code 0 = .ok (.aload 4, 2) := by decide +kernel
theorem dd_la_ask_2 : decode method_4_code 2 = .ok (.iconst 0, 1) := by decide +kernel
theorem dd_la_ask_3 : decode method_4_code 3 = .ok (.aload_n 0, 1) := by decide +kernel
theorem dd_la_ask_4 : decode method_4_code 4 = .ok (.iload_n 1, 1) := by decide +kernel
theorem dd_la_ask_5 : decode method_4_code 5 = .ok (.iload_n 2, 1) := by decide +kernel
theorem dd_la_ask_6 : decode method_4_code 6 = .ok (.iload_n 3, 1) := by decide +kernel
theorem dd_la_ask_7 : decode method_4_code 7 = .ok (.invokevirtual 17, 3) := by decide +kernel
theorem dd_la_ask_10 : decode method_4_code 10 = .ok (.i2l, 1) := by decide +kernel
theorem dd_la_ask_11 : decode method_4_code 11 = .ok (.lastore, 1) := by decide +kernel
theorem dd_la_ask_12 : decode method_4_code 12 = .ok (.goto 11, 3) := by decide +kernel
theorem dd_la_ask_15 : decode method_4_code 15 = .ok (.astore 5, 2) := by decide +kernel
theorem dd_la_ask_17 : decode method_4_code 17 = .ok (.iconst 1, 1) := by decide +kernel
theorem dd_la_ask_18 : decode method_4_code 18 = .ok (.ireturn, 1) := by decide +kernel
theorem dd_la_ask_19 : decode method_4_code 19 = .ok (.astore 5, 2) := by decide +kernel
theorem dd_la_ask_21 : decode method_4_code 21 = .ok (.iconst 2, 1) := by decide +kernel
theorem dd_la_ask_22 : decode method_4_code 22 = .ok (.ireturn, 1) := by decide +kernel
theorem dd_la_ask_23 : decode method_4_code 23 = .ok (.iconst 0, 1) := by decide +kernel
theorem dd_la_ask_24 : decode method_4_code 24 = .ok (.ireturn, 1) := by decide +kernel
theorem dd_la_retry_0 : decode method_5_code 0 = .ok (.aload_n 3, 1) := by decide +kernel
theorem dd_la_retry_1 : decode method_5_code 1 = .ok (.iconst 0, 1) := by decide +kernel
theorem dd_la_retry_2 : decode method_5_code 2 = .ok (.aload_n 0, 1) := by decide +kernel
theorem dd_la_retry_3 : decode method_5_code 3 = .ok (.iload_n 1, 1) := by decide +kernel
theorem dd_la_retry_4 : decode method_5_code 4 = .ok (.iload_n 2, 1) := by decide +kernel
theorem dd_la_retry_5 : decode method_5_code 5 = .ok (.invokevirtual 21, 3) := by decide +kernel
theorem dd_la_retry_8 : decode method_5_code 8 = .ok (.i2l, 1) := by decide +kernel
theorem dd_la_retry_9 : decode method_5_code 9 = .ok (.lastore, 1) := by decide +kernel
theorem dd_la_retry_10 : decode method_5_code 10 = .ok (.goto 11, 3) := by decide +kernel
theorem dd_la_retry_13 : decode method_5_code 13 = .ok (.astore 4, 2) := by decide +kernel
theorem dd_la_retry_15 : decode method_5_code 15 = .ok (.iconst 1, 1) := by decide +kernel
theorem dd_la_retry_16 : decode method_5_code 16 = .ok (.ireturn, 1) := by decide +kernel
theorem dd_la_retry_17 : decode method_5_code 17 = .ok (.astore 4, 2) := by decide +kernel
theorem dd_la_retry_19 : decode method_5_code 19 = .ok (.iconst 2, 1) := by decide +kernel
theorem dd_la_retry_20 : decode method_5_code 20 = .ok (.ireturn, 1) := by decide +kernel
theorem dd_la_retry_21 : decode method_5_code 21 = .ok (.iconst 0, 1) := by decide +kernel
theorem dd_la_retry_22 : decode method_5_code 22 = .ok (.ireturn, 1) := by decide +kernel
theorem dd_la_deliver_0 : decode method_6_code 0 = .ok (.aload_n 2, 1) := by decide +kernel
theorem dd_la_deliver_1 : decode method_6_code 1 = .ok (.iconst 0, 1) := by decide +kernel
theorem dd_la_deliver_2 : decode method_6_code 2 = .ok (.aload_n 0, 1) := by decide +kernel
theorem dd_la_deliver_3 : decode method_6_code 3 = .ok (.iload_n 1, 1) := by decide +kernel
theorem dd_la_deliver_4 : decode method_6_code 4 = .ok (.invokevirtual 25, 3) := by decide +kernel
theorem dd_la_deliver_7 : decode method_6_code 7 = .ok (.i2l, 1) := by decide +kernel
theorem dd_la_deliver_8 : decode method_6_code 8 = .ok (.lastore, 1) := by decide +kernel
theorem dd_la_deliver_9 : decode method_6_code 9 = .ok (.goto 6, 3) := by decide +kernel
theorem dd_la_deliver_12 : decode method_6_code 12 = .ok (.astore_n 3, 1) := by decide +kernel
theorem dd_la_deliver_13 : decode method_6_code 13 = .ok (.iconst 1, 1) := by decide +kernel
theorem dd_la_deliver_14 : decode method_6_code 14 = .ok (.ireturn, 1) := by decide +kernel
theorem dd_la_deliver_15 : decode method_6_code 15 = .ok (.iconst 0, 1) := by decide +kernel
theorem dd_la_deliver_16 : decode method_6_code 16 = .ok (.ireturn, 1) := by decide +kernel
theorem dd_la_drop_0 : decode method_7_code 0 = .ok (.aload_n 2, 1) := by decide +kernel
theorem dd_la_drop_1 : decode method_7_code 1 = .ok (.iconst 0, 1) := by decide +kernel
theorem dd_la_drop_2 : decode method_7_code 2 = .ok (.aload_n 0, 1) := by decide +kernel
theorem dd_la_drop_3 : decode method_7_code 3 = .ok (.iload_n 1, 1) := by decide +kernel
theorem dd_la_drop_4 : decode method_7_code 4 = .ok (.invokevirtual 29, 3) := by decide +kernel
theorem dd_la_drop_7 : decode method_7_code 7 = .ok (.i2l, 1) := by decide +kernel
theorem dd_la_drop_8 : decode method_7_code 8 = .ok (.lastore, 1) := by decide +kernel
theorem dd_la_drop_9 : decode method_7_code 9 = .ok (.goto 6, 3) := by decide +kernel
theorem dd_la_drop_12 : decode method_7_code 12 = .ok (.astore_n 3, 1) := by decide +kernel
theorem dd_la_drop_13 : decode method_7_code 13 = .ok (.iconst 1, 1) := by decide +kernel
theorem dd_la_drop_14 : decode method_7_code 14 = .ok (.ireturn, 1) := by decide +kernel
theorem dd_la_drop_15 : decode method_7_code 15 = .ok (.iconst 0, 1) := by decide +kernel
theorem dd_la_drop_16 : decode method_7_code 16 = .ok (.ireturn, 1) := by decide +kernel
theorem dd_la_copy_0 : decode method_8_code 0 = .ok (.aload_n 2, 1) := by decide +kernel
theorem dd_la_copy_1 : decode method_8_code 1 = .ok (.iconst 0, 1) := by decide +kernel
theorem dd_la_copy_2 : decode method_8_code 2 = .ok (.aload_n 0, 1) := by decide +kernel
theorem dd_la_copy_3 : decode method_8_code 3 = .ok (.iload_n 1, 1) := by decide +kernel
theorem dd_la_copy_4 : decode method_8_code 4 = .ok (.invokevirtual 32, 3) := by decide +kernel
theorem dd_la_copy_7 : decode method_8_code 7 = .ok (.ifCond .eq 7, 3) := by decide +kernel
theorem dd_la_copy_10 : decode method_8_code 10 = .ok (.lconst 1, 1) := by decide +kernel
theorem dd_la_copy_11 : decode method_8_code 11 = .ok (.goto 4, 3) := by decide +kernel
theorem dd_la_copy_14 : decode method_8_code 14 = .ok (.lconst 0, 1) := by decide +kernel
theorem dd_la_copy_15 : decode method_8_code 15 = .ok (.lastore, 1) := by decide +kernel
theorem dd_la_copy_16 : decode method_8_code 16 = .ok (.goto 6, 3) := by decide +kernel
theorem dd_la_copy_19 : decode method_8_code 19 = .ok (.astore_n 3, 1) := by decide +kernel
theorem dd_la_copy_20 : decode method_8_code 20 = .ok (.iconst 1, 1) := by decide +kernel
theorem dd_la_copy_21 : decode method_8_code 21 = .ok (.ireturn, 1) := by decide +kernel
theorem dd_la_copy_22 : decode method_8_code 22 = .ok (.iconst 0, 1) := by decide +kernel
theorem dd_la_copy_23 : decode method_8_code 23 = .ok (.ireturn, 1) := by decide +kernel
theorem dd_la_deliverAll_0 : decode method_9_code 0 = .ok (.aload_n 2, 1) := by decide +kernel
theorem dd_la_deliverAll_1 : decode method_9_code 1 = .ok (.iconst 0, 1) := by decide +kernel
theorem dd_la_deliverAll_2 : decode method_9_code 2 = .ok (.aload_n 0, 1) := by decide +kernel
theorem dd_la_deliverAll_3 : decode method_9_code 3 = .ok (.iload_n 1, 1) := by decide +kernel
theorem dd_la_deliverAll_4 : decode method_9_code 4 = .ok (.invokevirtual 36, 3) := by decide +kernel
theorem dd_la_deliverAll_7 : decode method_9_code 7 = .ok (.i2l, 1) := by decide +kernel
theorem dd_la_deliverAll_8 : decode method_9_code 8 = .ok (.lastore, 1) := by decide +kernel
theorem dd_la_deliverAll_9 : decode method_9_code 9 = .ok (.goto 6, 3) := by decide +kernel
theorem dd_la_deliverAll_12 : decode method_9_code 12 = .ok (.astore_n 3, 1) := by decide +kernel
theorem dd_la_deliverAll_13 : decode method_9_code 13 = .ok (.iconst 1, 1) := by decide +kernel
theorem dd_la_deliverAll_14 : decode method_9_code 14 = .ok (.ireturn, 1) := by decide +kernel
theorem dd_la_deliverAll_15 : decode method_9_code 15 = .ok (.iconst 0, 1) := by decide +kernel
theorem dd_la_deliverAll_16 : decode method_9_code 16 = .ok (.ireturn, 1) := by decide +kernel
theorem dd_la_up_0 : decode method_10_code 0 = .ok (.aload_n 3, 1) := by decide +kernel
theorem dd_la_up_1 : decode method_10_code 1 = .ok (.iconst 0, 1) := by decide +kernel
theorem dd_la_up_2 : decode method_10_code 2 = .ok (.aload_n 0, 1) := by decide +kernel
theorem dd_la_up_3 : decode method_10_code 3 = .ok (.iload_n 1, 1) := by decide +kernel
theorem dd_la_up_4 : decode method_10_code 4 = .ok (.iload_n 2, 1) := by decide +kernel
theorem dd_la_up_5 : decode method_10_code 5 = .ok (.invokevirtual 39, 3) := by decide +kernel
theorem dd_la_up_8 : decode method_10_code 8 = .ok (.ifCond .eq 7, 3) := by decide +kernel
theorem dd_la_up_11 : decode method_10_code 11 = .ok (.lconst 1, 1) := by decide +kernel
theorem dd_la_up_12 : decode method_10_code 12 = .ok (.goto 4, 3) := by decide +kernel
theorem dd_la_up_15 : decode method_10_code 15 = .ok (.lconst 0, 1) := by decide +kernel
theorem dd_la_up_16 : decode method_10_code 16 = .ok (.lastore, 1) := by decide +kernel
theorem dd_la_up_17 : decode method_10_code 17 = .ok (.goto 7, 3) := by decide +kernel
theorem dd_la_up_20 : decode method_10_code 20 = .ok (.astore 4, 2) := by decide +kernel
theorem dd_la_up_22 : decode method_10_code 22 = .ok (.iconst 1, 1) := by decide +kernel
theorem dd_la_up_23 : decode method_10_code 23 = .ok (.ireturn, 1) := by decide +kernel
theorem dd_la_up_24 : decode method_10_code 24 = .ok (.iconst 0, 1) := by decide +kernel
theorem dd_la_up_25 : decode method_10_code 25 = .ok (.ireturn, 1) := by decide +kernel
theorem dd_la_teach_0 : decode method_11_code 0 = .ok (.aload 4, 2) := by decide +kernel
theorem dd_la_teach_2 : decode method_11_code 2 = .ok (.iconst 0, 1) := by decide +kernel
theorem dd_la_teach_3 : decode method_11_code 3 = .ok (.aload_n 0, 1) := by decide +kernel
theorem dd_la_teach_4 : decode method_11_code 4 = .ok (.iload_n 1, 1) := by decide +kernel
theorem dd_la_teach_5 : decode method_11_code 5 = .ok (.iload_n 2, 1) := by decide +kernel
theorem dd_la_teach_6 : decode method_11_code 6 = .ok (.iload_n 3, 1) := by decide +kernel
theorem dd_la_teach_7 : decode method_11_code 7 = .ok (.invokevirtual 43, 3) := by decide +kernel
theorem dd_la_teach_10 : decode method_11_code 10 = .ok (.ifCond .eq 7, 3) := by decide +kernel
theorem dd_la_teach_13 : decode method_11_code 13 = .ok (.lconst 1, 1) := by decide +kernel
theorem dd_la_teach_14 : decode method_11_code 14 = .ok (.goto 4, 3) := by decide +kernel
theorem dd_la_teach_17 : decode method_11_code 17 = .ok (.lconst 0, 1) := by decide +kernel
theorem dd_la_teach_18 : decode method_11_code 18 = .ok (.lastore, 1) := by decide +kernel
theorem dd_la_teach_19 : decode method_11_code 19 = .ok (.goto 11, 3) := by decide +kernel
theorem dd_la_teach_22 : decode method_11_code 22 = .ok (.astore 5, 2) := by decide +kernel
theorem dd_la_teach_24 : decode method_11_code 24 = .ok (.iconst 1, 1) := by decide +kernel
theorem dd_la_teach_25 : decode method_11_code 25 = .ok (.ireturn, 1) := by decide +kernel
theorem dd_la_teach_26 : decode method_11_code 26 = .ok (.astore 5, 2) := by decide +kernel
theorem dd_la_teach_28 : decode method_11_code 28 = .ok (.iconst 2, 1) := by decide +kernel
theorem dd_la_teach_29 : decode method_11_code 29 = .ok (.ireturn, 1) := by decide +kernel
theorem dd_la_teach_30 : decode method_11_code 30 = .ok (.iconst 0, 1) := by decide +kernel
theorem dd_la_teach_31 : decode method_11_code 31 = .ok (.ireturn, 1) := by decide +kernel
theorem dd_la_letter_0 : decode method_12_code 0 = .ok (.aload_n 3, 1) := by decide +kernel
theorem dd_la_letter_1 : decode method_12_code 1 = .ok (.iconst 0, 1) := by decide +kernel
theorem dd_la_letter_2 : decode method_12_code 2 = .ok (.aload_n 0, 1) := by decide +kernel
theorem dd_la_letter_3 : decode method_12_code 3 = .ok (.iload_n 1, 1) := by decide +kernel
theorem dd_la_letter_4 : decode method_12_code 4 = .ok (.iload_n 2, 1) := by decide +kernel
theorem dd_la_letter_5 : decode method_12_code 5 = .ok (.invokevirtual 47, 3) := by decide +kernel
theorem dd_la_letter_8 : decode method_12_code 8 = .ok (.i2l, 1) := by decide +kernel
theorem dd_la_letter_9 : decode method_12_code 9 = .ok (.lastore, 1) := by decide +kernel
theorem dd_la_letter_10 : decode method_12_code 10 = .ok (.goto 7, 3) := by decide +kernel
theorem dd_la_letter_13 : decode method_12_code 13 = .ok (.astore 4, 2) := by decide +kernel
theorem dd_la_letter_15 : decode method_12_code 15 = .ok (.iconst 1, 1) := by decide +kernel
theorem dd_la_letter_16 : decode method_12_code 16 = .ok (.ireturn, 1) := by decide +kernel
theorem dd_la_letter_17 : decode method_12_code 17 = .ok (.iconst 0, 1) := by decide +kernel
theorem dd_la_letter_18 : decode method_12_code 18 = .ok (.ireturn, 1) := by decide +kernel
theorem dd_la_state_0 : decode method_13_code 0 = .ok (.aload_n 3, 1) := by decide +kernel
theorem dd_la_state_1 : decode method_13_code 1 = .ok (.iconst 0, 1) := by decide +kernel
theorem dd_la_state_2 : decode method_13_code 2 = .ok (.aload_n 0, 1) := by decide +kernel
theorem dd_la_state_3 : decode method_13_code 3 = .ok (.iload_n 1, 1) := by decide +kernel
theorem dd_la_state_4 : decode method_13_code 4 = .ok (.iload_n 2, 1) := by decide +kernel
theorem dd_la_state_5 : decode method_13_code 5 = .ok (.invokevirtual 50, 3) := by decide +kernel
theorem dd_la_state_8 : decode method_13_code 8 = .ok (.i2l, 1) := by decide +kernel
theorem dd_la_state_9 : decode method_13_code 9 = .ok (.lastore, 1) := by decide +kernel
theorem dd_la_state_10 : decode method_13_code 10 = .ok (.goto 7, 3) := by decide +kernel
theorem dd_la_state_13 : decode method_13_code 13 = .ok (.astore 4, 2) := by decide +kernel
theorem dd_la_state_15 : decode method_13_code 15 = .ok (.iconst 1, 1) := by decide +kernel
theorem dd_la_state_16 : decode method_13_code 16 = .ok (.ireturn, 1) := by decide +kernel
theorem dd_la_state_17 : decode method_13_code 17 = .ok (.iconst 0, 1) := by decide +kernel
theorem dd_la_state_18 : decode method_13_code 18 = .ok (.ireturn, 1) := by decide +kernel
theorem dd_la_granted_0 : decode method_14_code 0 = .ok (.aload 5, 2) := by decide +kernel
theorem dd_la_granted_2 : decode method_14_code 2 = .ok (.iconst 0, 1) := by decide +kernel
theorem dd_la_granted_3 : decode method_14_code 3 = .ok (.aload_n 0, 1) := by decide +kernel
theorem dd_la_granted_4 : decode method_14_code 4 = .ok (.iload_n 1, 1) := by decide +kernel
theorem dd_la_granted_5 : decode method_14_code 5 = .ok (.iload_n 2, 1) := by decide +kernel
theorem dd_la_granted_6 : decode method_14_code 6 = .ok (.iload_n 3, 1) := by decide +kernel
theorem dd_la_granted_7 : decode method_14_code 7 = .ok (.iload 4, 2) := by decide +kernel
theorem dd_la_granted_9 : decode method_14_code 9 = .ok (.invokevirtual 53, 3) := by decide +kernel
theorem dd_la_granted_12 : decode method_14_code 12 = .ok (.i2l, 1) := by decide +kernel
theorem dd_la_granted_13 : decode method_14_code 13 = .ok (.lastore, 1) := by decide +kernel
theorem dd_la_granted_14 : decode method_14_code 14 = .ok (.goto 7, 3) := by decide +kernel
theorem dd_la_granted_17 : decode method_14_code 17 = .ok (.astore 6, 2) := by decide +kernel
theorem dd_la_granted_19 : decode method_14_code 19 = .ok (.iconst 1, 1) := by decide +kernel
theorem dd_la_granted_20 : decode method_14_code 20 = .ok (.ireturn, 1) := by decide +kernel
theorem dd_la_granted_21 : decode method_14_code 21 = .ok (.iconst 0, 1) := by decide +kernel
theorem dd_la_granted_22 : decode method_14_code 22 = .ok (.ireturn, 1) := by decide +kernel
theorem dd_la_kept_0 : decode method_15_code 0 = .ok (.aload 4, 2) := by decide +kernel
theorem dd_la_kept_2 : decode method_15_code 2 = .ok (.iconst 0, 1) := by decide +kernel
theorem dd_la_kept_3 : decode method_15_code 3 = .ok (.aload_n 0, 1) := by decide +kernel
theorem dd_la_kept_4 : decode method_15_code 4 = .ok (.iload_n 1, 1) := by decide +kernel
theorem dd_la_kept_5 : decode method_15_code 5 = .ok (.iload_n 2, 1) := by decide +kernel
theorem dd_la_kept_6 : decode method_15_code 6 = .ok (.iload_n 3, 1) := by decide +kernel
theorem dd_la_kept_7 : decode method_15_code 7 = .ok (.invokevirtual 57, 3) := by decide +kernel
theorem dd_la_kept_10 : decode method_15_code 10 = .ok (.i2l, 1) := by decide +kernel
theorem dd_la_kept_11 : decode method_15_code 11 = .ok (.lastore, 1) := by decide +kernel
theorem dd_la_kept_12 : decode method_15_code 12 = .ok (.goto 7, 3) := by decide +kernel
theorem dd_la_kept_15 : decode method_15_code 15 = .ok (.astore 5, 2) := by decide +kernel
theorem dd_la_kept_17 : decode method_15_code 17 = .ok (.iconst 1, 1) := by decide +kernel
theorem dd_la_kept_18 : decode method_15_code 18 = .ok (.ireturn, 1) := by decide +kernel
theorem dd_la_kept_19 : decode method_15_code 19 = .ok (.iconst 0, 1) := by decide +kernel
theorem dd_la_kept_20 : decode method_15_code 20 = .ok (.ireturn, 1) := by decide +kernel
theorem dd_la_total_0 : decode method_16_code 0 = .ok (.aload_n 2, 1) := by decide +kernel
theorem dd_la_total_1 : decode method_16_code 1 = .ok (.iconst 0, 1) := by decide +kernel
theorem dd_la_total_2 : decode method_16_code 2 = .ok (.aload_n 0, 1) := by decide +kernel
theorem dd_la_total_3 : decode method_16_code 3 = .ok (.iload_n 1, 1) := by decide +kernel
theorem dd_la_total_4 : decode method_16_code 4 = .ok (.invokevirtual 60, 3) := by decide +kernel
theorem dd_la_total_7 : decode method_16_code 7 = .ok (.i2l, 1) := by decide +kernel
theorem dd_la_total_8 : decode method_16_code 8 = .ok (.lastore, 1) := by decide +kernel
theorem dd_la_total_9 : decode method_16_code 9 = .ok (.goto 6, 3) := by decide +kernel
theorem dd_la_total_12 : decode method_16_code 12 = .ok (.astore_n 3, 1) := by decide +kernel
theorem dd_la_total_13 : decode method_16_code 13 = .ok (.iconst 1, 1) := by decide +kernel
theorem dd_la_total_14 : decode method_16_code 14 = .ok (.ireturn, 1) := by decide +kernel
theorem dd_la_total_15 : decode method_16_code 15 = .ok (.iconst 0, 1) := by decide +kernel
theorem dd_la_total_16 : decode method_16_code 16 = .ok (.ireturn, 1) := by decide +kernel
theorem dd_la_law_0 : decode code 0 = .ok (.new 8, 3) := by decide +kernel
theorem dd_la_law_3 : decode code 3 = .ok (.dup, 1) := by decide +kernel
theorem dd_la_law_4 : decode code 4 = .ok (.invokespecial 63, 3) := by decide +kernel
theorem dd_la_law_7 : decode code 7 = .ok (.astore_n 1, 1) := by decide +kernel
theorem dd_la_law_8 : decode code 8 = .ok (.new 64, 3) := by decide +kernel
theorem dd_la_law_11 : decode code 11 = .ok (.dup, 1) := by decide +kernel
theorem dd_la_law_12 : decode code 12 = .ok (.invokespecial 66, 3) := by decide +kernel
theorem dd_la_law_15 : decode code 15 = .ok (.astore_n 2, 1) := by decide +kernel
theorem dd_la_law_16 : decode code 16 = .ok (.iconst 1, 1) := by decide +kernel
theorem dd_la_law_17 : decode code 17 = .ok (.newarray .long, 2) := by decide +kernel
theorem dd_la_law_19 : decode code 19 = .ok (.astore_n 3, 1) := by decide +kernel
theorem dd_la_law_20 : decode code 20 = .ok (.iconst 0, 1) := by decide +kernel
theorem dd_la_law_21 : decode code 21 = .ok (.istore 4, 2) := by decide +kernel
theorem dd_la_law_23 : decode code 23 = .ok (.iload 4, 2) := by decide +kernel
theorem dd_la_law_25 : decode code 25 = .ok (.aload_n 0, 1) := by decide +kernel
theorem dd_la_law_26 : decode code 26 = .ok (.arraylength, 1) := by decide +kernel
theorem dd_la_law_27 : decode code 27 = .ok (.iconst 5, 1) := by decide +kernel
theorem dd_la_law_28 : decode code 28 = .ok (.isub, 1) := by decide +kernel
theorem dd_la_law_29 : decode code 29 = .ok (.if_icmp .gt 1116, 3) := by decide +kernel
theorem dd_la_law_32 : decode code 32 = .ok (.aload_n 0, 1) := by decide +kernel
theorem dd_la_law_33 : decode code 33 = .ok (.iload 4, 2) := by decide +kernel
theorem dd_la_law_35 : decode code 35 = .ok (.iaload, 1) := by decide +kernel
theorem dd_la_law_36 : decode code 36 = .ok (.bipush 15, 2) := by decide +kernel
theorem dd_la_law_38 : decode code 38 = .ok (.iand, 1) := by decide +kernel
theorem dd_la_law_39 : decode code 39 = .ok (.tableswitch 1100 0 15 #[77, 137, 217, 285, 341, 397, 460, 516, 607, 694, 707, 775, 843, 951, 1031, 1044], 77) := by decide +kernel
theorem dd_la_law_116 : decode code 116 = .ok (.aload_n 1, 1) := by decide +kernel
theorem dd_la_law_117 : decode code 117 = .ok (.aload_n 0, 1) := by decide +kernel
theorem dd_la_law_118 : decode code 118 = .ok (.iload 4, 2) := by decide +kernel
theorem dd_la_law_120 : decode code 120 = .ok (.iconst 1, 1) := by decide +kernel
theorem dd_la_law_121 : decode code 121 = .ok (.iadd, 1) := by decide +kernel
theorem dd_la_law_122 : decode code 122 = .ok (.iaload, 1) := by decide +kernel
theorem dd_la_law_123 : decode code 123 = .ok (.aload_n 0, 1) := by decide +kernel
theorem dd_la_law_124 : decode code 124 = .ok (.iload 4, 2) := by decide +kernel
theorem dd_la_law_126 : decode code 126 = .ok (.iconst 2, 1) := by decide +kernel
theorem dd_la_law_127 : decode code 127 = .ok (.iadd, 1) := by decide +kernel
theorem dd_la_law_128 : decode code 128 = .ok (.iaload, 1) := by decide +kernel
theorem dd_la_law_129 : decode code 129 = .ok (.aload_n 0, 1) := by decide +kernel
theorem dd_la_law_130 : decode code 130 = .ok (.iload 4, 2) := by decide +kernel
theorem dd_la_law_132 : decode code 132 = .ok (.iconst 3, 1) := by decide +kernel
theorem dd_la_law_133 : decode code 133 = .ok (.iadd, 1) := by decide +kernel
theorem dd_la_law_134 : decode code 134 = .ok (.iaload, 1) := by decide +kernel
theorem dd_la_law_135 : decode code 135 = .ok (.invokestatic 67, 3) := by decide +kernel
theorem dd_la_law_138 : decode code 138 = .ok (.istore 5, 2) := by decide +kernel
theorem dd_la_law_140 : decode code 140 = .ok (.aload_n 2, 1) := by decide +kernel
theorem dd_la_law_141 : decode code 141 = .ok (.aload_n 0, 1) := by decide +kernel
theorem dd_la_law_142 : decode code 142 = .ok (.iload 4, 2) := by decide +kernel
theorem dd_la_law_144 : decode code 144 = .ok (.iconst 1, 1) := by decide +kernel
theorem dd_la_law_145 : decode code 145 = .ok (.iadd, 1) := by decide +kernel
theorem dd_la_law_146 : decode code 146 = .ok (.iaload, 1) := by decide +kernel
theorem dd_la_law_147 : decode code 147 = .ok (.aload_n 0, 1) := by decide +kernel
theorem dd_la_law_148 : decode code 148 = .ok (.iload 4, 2) := by decide +kernel
theorem dd_la_law_150 : decode code 150 = .ok (.iconst 2, 1) := by decide +kernel
theorem dd_la_law_151 : decode code 151 = .ok (.iadd, 1) := by decide +kernel
theorem dd_la_law_152 : decode code 152 = .ok (.iaload, 1) := by decide +kernel
theorem dd_la_law_153 : decode code 153 = .ok (.aload_n 0, 1) := by decide +kernel
theorem dd_la_law_154 : decode code 154 = .ok (.iload 4, 2) := by decide +kernel
theorem dd_la_law_156 : decode code 156 = .ok (.iconst 3, 1) := by decide +kernel
theorem dd_la_law_157 : decode code 157 = .ok (.iadd, 1) := by decide +kernel
theorem dd_la_law_158 : decode code 158 = .ok (.iaload, 1) := by decide +kernel
theorem dd_la_law_159 : decode code 159 = .ok (.invokevirtual 72, 3) := by decide +kernel
theorem dd_la_law_162 : decode code 162 = .ok (.aload_n 2, 1) := by decide +kernel
theorem dd_la_law_163 : decode code 163 = .ok (.invokevirtual 73, 3) := by decide +kernel
theorem dd_la_law_166 : decode code 166 = .ok (.iload 5, 2) := by decide +kernel
theorem dd_la_law_168 : decode code 168 = .ok (.if_icmp .eq 5, 3) := by decide +kernel
theorem dd_la_law_171 : decode code 171 = .ok (.iconst 0, 1) := by decide +kernel
theorem dd_la_law_172 : decode code 172 = .ok (.ireturn, 1) := by decide +kernel
theorem dd_la_law_173 : decode code 173 = .ok (.goto 966, 3) := by decide +kernel
theorem dd_la_law_176 : decode code 176 = .ok (.aload_n 1, 1) := by decide +kernel
theorem dd_la_law_177 : decode code 177 = .ok (.aload_n 0, 1) := by decide +kernel
theorem dd_la_law_178 : decode code 178 = .ok (.iload 4, 2) := by decide +kernel
theorem dd_la_law_180 : decode code 180 = .ok (.iconst 1, 1) := by decide +kernel
theorem dd_la_law_181 : decode code 181 = .ok (.iadd, 1) := by decide +kernel
theorem dd_la_law_182 : decode code 182 = .ok (.iaload, 1) := by decide +kernel
theorem dd_la_law_183 : decode code 183 = .ok (.aload_n 0, 1) := by decide +kernel
theorem dd_la_law_184 : decode code 184 = .ok (.iload 4, 2) := by decide +kernel
theorem dd_la_law_186 : decode code 186 = .ok (.iconst 2, 1) := by decide +kernel
theorem dd_la_law_187 : decode code 187 = .ok (.iadd, 1) := by decide +kernel
theorem dd_la_law_188 : decode code 188 = .ok (.iaload, 1) := by decide +kernel
theorem dd_la_law_189 : decode code 189 = .ok (.aload_n 0, 1) := by decide +kernel
theorem dd_la_law_190 : decode code 190 = .ok (.iload 4, 2) := by decide +kernel
theorem dd_la_law_192 : decode code 192 = .ok (.iconst 3, 1) := by decide +kernel
theorem dd_la_law_193 : decode code 193 = .ok (.iadd, 1) := by decide +kernel
theorem dd_la_law_194 : decode code 194 = .ok (.iaload, 1) := by decide +kernel
theorem dd_la_law_195 : decode code 195 = .ok (.aload_n 3, 1) := by decide +kernel
theorem dd_la_law_196 : decode code 196 = .ok (.invokestatic 77, 3) := by decide +kernel
theorem dd_la_law_199 : decode code 199 = .ok (.istore 5, 2) := by decide +kernel
theorem dd_la_law_201 : decode code 201 = .ok (.aload_n 2, 1) := by decide +kernel
theorem dd_la_law_202 : decode code 202 = .ok (.aload_n 0, 1) := by decide +kernel
theorem dd_la_law_203 : decode code 203 = .ok (.iload 4, 2) := by decide +kernel
theorem dd_la_law_205 : decode code 205 = .ok (.iconst 1, 1) := by decide +kernel
theorem dd_la_law_206 : decode code 206 = .ok (.iadd, 1) := by decide +kernel
theorem dd_la_law_207 : decode code 207 = .ok (.iaload, 1) := by decide +kernel
theorem dd_la_law_208 : decode code 208 = .ok (.aload_n 0, 1) := by decide +kernel
theorem dd_la_law_209 : decode code 209 = .ok (.iload 4, 2) := by decide +kernel
theorem dd_la_law_211 : decode code 211 = .ok (.iconst 2, 1) := by decide +kernel
theorem dd_la_law_212 : decode code 212 = .ok (.iadd, 1) := by decide +kernel
theorem dd_la_law_213 : decode code 213 = .ok (.iaload, 1) := by decide +kernel
theorem dd_la_law_214 : decode code 214 = .ok (.aload_n 0, 1) := by decide +kernel
theorem dd_la_law_215 : decode code 215 = .ok (.iload 4, 2) := by decide +kernel
theorem dd_la_law_217 : decode code 217 = .ok (.iconst 3, 1) := by decide +kernel
theorem dd_la_law_218 : decode code 218 = .ok (.iadd, 1) := by decide +kernel
theorem dd_la_law_219 : decode code 219 = .ok (.iaload, 1) := by decide +kernel
theorem dd_la_law_220 : decode code 220 = .ok (.invokevirtual 80, 3) := by decide +kernel
theorem dd_la_law_223 : decode code 223 = .ok (.istore 6, 2) := by decide +kernel
theorem dd_la_law_225 : decode code 225 = .ok (.aload_n 2, 1) := by decide +kernel
theorem dd_la_law_226 : decode code 226 = .ok (.invokevirtual 73, 3) := by decide +kernel
theorem dd_la_law_229 : decode code 229 = .ok (.iload 5, 2) := by decide +kernel
theorem dd_la_law_231 : decode code 231 = .ok (.if_icmp .eq 5, 3) := by decide +kernel
theorem dd_la_law_234 : decode code 234 = .ok (.iconst 0, 1) := by decide +kernel
theorem dd_la_law_235 : decode code 235 = .ok (.ireturn, 1) := by decide +kernel
theorem dd_la_law_236 : decode code 236 = .ok (.iload 5, 2) := by decide +kernel
theorem dd_la_law_238 : decode code 238 = .ok (.ifCond .ne 15, 3) := by decide +kernel
theorem dd_la_law_241 : decode code 241 = .ok (.aload_n 3, 1) := by decide +kernel
theorem dd_la_law_242 : decode code 242 = .ok (.iconst 0, 1) := by decide +kernel
theorem dd_la_law_243 : decode code 243 = .ok (.laload, 1) := by decide +kernel
theorem dd_la_law_244 : decode code 244 = .ok (.iload 6, 2) := by decide +kernel
theorem dd_la_law_246 : decode code 246 = .ok (.i2l, 1) := by decide +kernel
theorem dd_la_law_247 : decode code 247 = .ok (.lcmp, 1) := by decide +kernel
theorem dd_la_law_248 : decode code 248 = .ok (.ifCond .eq 5, 3) := by decide +kernel
theorem dd_la_law_251 : decode code 251 = .ok (.iconst 0, 1) := by decide +kernel
theorem dd_la_law_252 : decode code 252 = .ok (.ireturn, 1) := by decide +kernel
theorem dd_la_law_253 : decode code 253 = .ok (.goto 886, 3) := by decide +kernel
theorem dd_la_law_256 : decode code 256 = .ok (.aload_n 1, 1) := by decide +kernel
theorem dd_la_law_257 : decode code 257 = .ok (.aload_n 0, 1) := by decide +kernel
theorem dd_la_law_258 : decode code 258 = .ok (.iload 4, 2) := by decide +kernel
theorem dd_la_law_260 : decode code 260 = .ok (.iconst 1, 1) := by decide +kernel
theorem dd_la_law_261 : decode code 261 = .ok (.iadd, 1) := by decide +kernel
theorem dd_la_law_262 : decode code 262 = .ok (.iaload, 1) := by decide +kernel
theorem dd_la_law_263 : decode code 263 = .ok (.aload_n 0, 1) := by decide +kernel
theorem dd_la_law_264 : decode code 264 = .ok (.iload 4, 2) := by decide +kernel
theorem dd_la_law_266 : decode code 266 = .ok (.iconst 2, 1) := by decide +kernel
theorem dd_la_law_267 : decode code 267 = .ok (.iadd, 1) := by decide +kernel
theorem dd_la_law_268 : decode code 268 = .ok (.iaload, 1) := by decide +kernel
theorem dd_la_law_269 : decode code 269 = .ok (.aload_n 3, 1) := by decide +kernel
theorem dd_la_law_270 : decode code 270 = .ok (.invokestatic 81, 3) := by decide +kernel
theorem dd_la_law_273 : decode code 273 = .ok (.istore 5, 2) := by decide +kernel
theorem dd_la_law_275 : decode code 275 = .ok (.aload_n 2, 1) := by decide +kernel
theorem dd_la_law_276 : decode code 276 = .ok (.aload_n 0, 1) := by decide +kernel
theorem dd_la_law_277 : decode code 277 = .ok (.iload 4, 2) := by decide +kernel
theorem dd_la_law_279 : decode code 279 = .ok (.iconst 1, 1) := by decide +kernel
theorem dd_la_law_280 : decode code 280 = .ok (.iadd, 1) := by decide +kernel
theorem dd_la_law_281 : decode code 281 = .ok (.iaload, 1) := by decide +kernel
theorem dd_la_law_282 : decode code 282 = .ok (.aload_n 0, 1) := by decide +kernel
theorem dd_la_law_283 : decode code 283 = .ok (.iload 4, 2) := by decide +kernel
theorem dd_la_law_285 : decode code 285 = .ok (.iconst 2, 1) := by decide +kernel
theorem dd_la_law_286 : decode code 286 = .ok (.iadd, 1) := by decide +kernel
theorem dd_la_law_287 : decode code 287 = .ok (.iaload, 1) := by decide +kernel
theorem dd_la_law_288 : decode code 288 = .ok (.invokevirtual 84, 3) := by decide +kernel
theorem dd_la_law_291 : decode code 291 = .ok (.istore 6, 2) := by decide +kernel
theorem dd_la_law_293 : decode code 293 = .ok (.aload_n 2, 1) := by decide +kernel
theorem dd_la_law_294 : decode code 294 = .ok (.invokevirtual 73, 3) := by decide +kernel
theorem dd_la_law_297 : decode code 297 = .ok (.iload 5, 2) := by decide +kernel
theorem dd_la_law_299 : decode code 299 = .ok (.if_icmp .eq 5, 3) := by decide +kernel
theorem dd_la_law_302 : decode code 302 = .ok (.iconst 0, 1) := by decide +kernel
theorem dd_la_law_303 : decode code 303 = .ok (.ireturn, 1) := by decide +kernel
theorem dd_la_law_304 : decode code 304 = .ok (.iload 5, 2) := by decide +kernel
theorem dd_la_law_306 : decode code 306 = .ok (.ifCond .ne 15, 3) := by decide +kernel
theorem dd_la_law_309 : decode code 309 = .ok (.aload_n 3, 1) := by decide +kernel
theorem dd_la_law_310 : decode code 310 = .ok (.iconst 0, 1) := by decide +kernel
theorem dd_la_law_311 : decode code 311 = .ok (.laload, 1) := by decide +kernel
theorem dd_la_law_312 : decode code 312 = .ok (.iload 6, 2) := by decide +kernel
theorem dd_la_law_314 : decode code 314 = .ok (.i2l, 1) := by decide +kernel
theorem dd_la_law_315 : decode code 315 = .ok (.lcmp, 1) := by decide +kernel
theorem dd_la_law_316 : decode code 316 = .ok (.ifCond .eq 5, 3) := by decide +kernel
theorem dd_la_law_319 : decode code 319 = .ok (.iconst 0, 1) := by decide +kernel
theorem dd_la_law_320 : decode code 320 = .ok (.ireturn, 1) := by decide +kernel
theorem dd_la_law_321 : decode code 321 = .ok (.goto 818, 3) := by decide +kernel
theorem dd_la_law_324 : decode code 324 = .ok (.aload_n 1, 1) := by decide +kernel
theorem dd_la_law_325 : decode code 325 = .ok (.aload_n 0, 1) := by decide +kernel
theorem dd_la_law_326 : decode code 326 = .ok (.iload 4, 2) := by decide +kernel
theorem dd_la_law_328 : decode code 328 = .ok (.iconst 1, 1) := by decide +kernel
theorem dd_la_law_329 : decode code 329 = .ok (.iadd, 1) := by decide +kernel
theorem dd_la_law_330 : decode code 330 = .ok (.iaload, 1) := by decide +kernel
theorem dd_la_law_331 : decode code 331 = .ok (.aload_n 3, 1) := by decide +kernel
theorem dd_la_law_332 : decode code 332 = .ok (.invokestatic 85, 3) := by decide +kernel
theorem dd_la_law_335 : decode code 335 = .ok (.istore 5, 2) := by decide +kernel
theorem dd_la_law_337 : decode code 337 = .ok (.aload_n 2, 1) := by decide +kernel
theorem dd_la_law_338 : decode code 338 = .ok (.aload_n 0, 1) := by decide +kernel
theorem dd_la_law_339 : decode code 339 = .ok (.iload 4, 2) := by decide +kernel
theorem dd_la_law_341 : decode code 341 = .ok (.iconst 1, 1) := by decide +kernel
theorem dd_la_law_342 : decode code 342 = .ok (.iadd, 1) := by decide +kernel
theorem dd_la_law_343 : decode code 343 = .ok (.iaload, 1) := by decide +kernel
theorem dd_la_law_344 : decode code 344 = .ok (.invokevirtual 88, 3) := by decide +kernel
theorem dd_la_law_347 : decode code 347 = .ok (.istore 6, 2) := by decide +kernel
theorem dd_la_law_349 : decode code 349 = .ok (.aload_n 2, 1) := by decide +kernel
theorem dd_la_law_350 : decode code 350 = .ok (.invokevirtual 73, 3) := by decide +kernel
theorem dd_la_law_353 : decode code 353 = .ok (.iload 5, 2) := by decide +kernel
theorem dd_la_law_355 : decode code 355 = .ok (.if_icmp .eq 5, 3) := by decide +kernel
theorem dd_la_law_358 : decode code 358 = .ok (.iconst 0, 1) := by decide +kernel
theorem dd_la_law_359 : decode code 359 = .ok (.ireturn, 1) := by decide +kernel
theorem dd_la_law_360 : decode code 360 = .ok (.iload 5, 2) := by decide +kernel
theorem dd_la_law_362 : decode code 362 = .ok (.ifCond .ne 15, 3) := by decide +kernel
theorem dd_la_law_365 : decode code 365 = .ok (.aload_n 3, 1) := by decide +kernel
theorem dd_la_law_366 : decode code 366 = .ok (.iconst 0, 1) := by decide +kernel
theorem dd_la_law_367 : decode code 367 = .ok (.laload, 1) := by decide +kernel
theorem dd_la_law_368 : decode code 368 = .ok (.iload 6, 2) := by decide +kernel
theorem dd_la_law_370 : decode code 370 = .ok (.i2l, 1) := by decide +kernel
theorem dd_la_law_371 : decode code 371 = .ok (.lcmp, 1) := by decide +kernel
theorem dd_la_law_372 : decode code 372 = .ok (.ifCond .eq 5, 3) := by decide +kernel
theorem dd_la_law_375 : decode code 375 = .ok (.iconst 0, 1) := by decide +kernel
theorem dd_la_law_376 : decode code 376 = .ok (.ireturn, 1) := by decide +kernel
theorem dd_la_law_377 : decode code 377 = .ok (.goto 762, 3) := by decide +kernel
theorem dd_la_law_380 : decode code 380 = .ok (.aload_n 1, 1) := by decide +kernel
theorem dd_la_law_381 : decode code 381 = .ok (.aload_n 0, 1) := by decide +kernel
theorem dd_la_law_382 : decode code 382 = .ok (.iload 4, 2) := by decide +kernel
theorem dd_la_law_384 : decode code 384 = .ok (.iconst 1, 1) := by decide +kernel
theorem dd_la_law_385 : decode code 385 = .ok (.iadd, 1) := by decide +kernel
theorem dd_la_law_386 : decode code 386 = .ok (.iaload, 1) := by decide +kernel
theorem dd_la_law_387 : decode code 387 = .ok (.aload_n 3, 1) := by decide +kernel
theorem dd_la_law_388 : decode code 388 = .ok (.invokestatic 89, 3) := by decide +kernel
theorem dd_la_law_391 : decode code 391 = .ok (.istore 5, 2) := by decide +kernel
theorem dd_la_law_393 : decode code 393 = .ok (.aload_n 2, 1) := by decide +kernel
theorem dd_la_law_394 : decode code 394 = .ok (.aload_n 0, 1) := by decide +kernel
theorem dd_la_law_395 : decode code 395 = .ok (.iload 4, 2) := by decide +kernel
theorem dd_la_law_397 : decode code 397 = .ok (.iconst 1, 1) := by decide +kernel
theorem dd_la_law_398 : decode code 398 = .ok (.iadd, 1) := by decide +kernel
theorem dd_la_law_399 : decode code 399 = .ok (.iaload, 1) := by decide +kernel
theorem dd_la_law_400 : decode code 400 = .ok (.invokevirtual 91, 3) := by decide +kernel
theorem dd_la_law_403 : decode code 403 = .ok (.istore 6, 2) := by decide +kernel
theorem dd_la_law_405 : decode code 405 = .ok (.aload_n 2, 1) := by decide +kernel
theorem dd_la_law_406 : decode code 406 = .ok (.invokevirtual 73, 3) := by decide +kernel
theorem dd_la_law_409 : decode code 409 = .ok (.iload 5, 2) := by decide +kernel
theorem dd_la_law_411 : decode code 411 = .ok (.if_icmp .eq 5, 3) := by decide +kernel
theorem dd_la_law_414 : decode code 414 = .ok (.iconst 0, 1) := by decide +kernel
theorem dd_la_law_415 : decode code 415 = .ok (.ireturn, 1) := by decide +kernel
theorem dd_la_law_416 : decode code 416 = .ok (.iload 5, 2) := by decide +kernel
theorem dd_la_law_418 : decode code 418 = .ok (.ifCond .ne 15, 3) := by decide +kernel
theorem dd_la_law_421 : decode code 421 = .ok (.aload_n 3, 1) := by decide +kernel
theorem dd_la_law_422 : decode code 422 = .ok (.iconst 0, 1) := by decide +kernel
theorem dd_la_law_423 : decode code 423 = .ok (.laload, 1) := by decide +kernel
theorem dd_la_law_424 : decode code 424 = .ok (.iload 6, 2) := by decide +kernel
theorem dd_la_law_426 : decode code 426 = .ok (.i2l, 1) := by decide +kernel
theorem dd_la_law_427 : decode code 427 = .ok (.lcmp, 1) := by decide +kernel
theorem dd_la_law_428 : decode code 428 = .ok (.ifCond .eq 5, 3) := by decide +kernel
theorem dd_la_law_431 : decode code 431 = .ok (.iconst 0, 1) := by decide +kernel
theorem dd_la_law_432 : decode code 432 = .ok (.ireturn, 1) := by decide +kernel
theorem dd_la_law_433 : decode code 433 = .ok (.goto 706, 3) := by decide +kernel
theorem dd_la_law_436 : decode code 436 = .ok (.aload_n 1, 1) := by decide +kernel
theorem dd_la_law_437 : decode code 437 = .ok (.aload_n 0, 1) := by decide +kernel
theorem dd_la_law_438 : decode code 438 = .ok (.iload 4, 2) := by decide +kernel
theorem dd_la_law_440 : decode code 440 = .ok (.iconst 1, 1) := by decide +kernel
theorem dd_la_law_441 : decode code 441 = .ok (.iadd, 1) := by decide +kernel
theorem dd_la_law_442 : decode code 442 = .ok (.iaload, 1) := by decide +kernel
theorem dd_la_law_443 : decode code 443 = .ok (.aload_n 3, 1) := by decide +kernel
theorem dd_la_law_444 : decode code 444 = .ok (.invokestatic 92, 3) := by decide +kernel
theorem dd_la_law_447 : decode code 447 = .ok (.istore 5, 2) := by decide +kernel
theorem dd_la_law_449 : decode code 449 = .ok (.aload_n 2, 1) := by decide +kernel
theorem dd_la_law_450 : decode code 450 = .ok (.aload_n 0, 1) := by decide +kernel
theorem dd_la_law_451 : decode code 451 = .ok (.iload 4, 2) := by decide +kernel
theorem dd_la_law_453 : decode code 453 = .ok (.iconst 1, 1) := by decide +kernel
theorem dd_la_law_454 : decode code 454 = .ok (.iadd, 1) := by decide +kernel
theorem dd_la_law_455 : decode code 455 = .ok (.iaload, 1) := by decide +kernel
theorem dd_la_law_456 : decode code 456 = .ok (.invokevirtual 94, 3) := by decide +kernel
theorem dd_la_law_459 : decode code 459 = .ok (.istore 6, 2) := by decide +kernel
theorem dd_la_law_461 : decode code 461 = .ok (.aload_n 2, 1) := by decide +kernel
theorem dd_la_law_462 : decode code 462 = .ok (.invokevirtual 73, 3) := by decide +kernel
theorem dd_la_law_465 : decode code 465 = .ok (.iload 5, 2) := by decide +kernel
theorem dd_la_law_467 : decode code 467 = .ok (.if_icmp .eq 5, 3) := by decide +kernel
theorem dd_la_law_470 : decode code 470 = .ok (.iconst 0, 1) := by decide +kernel
theorem dd_la_law_471 : decode code 471 = .ok (.ireturn, 1) := by decide +kernel
theorem dd_la_law_472 : decode code 472 = .ok (.iload 5, 2) := by decide +kernel
theorem dd_la_law_474 : decode code 474 = .ok (.ifCond .ne 22, 3) := by decide +kernel
theorem dd_la_law_477 : decode code 477 = .ok (.aload_n 3, 1) := by decide +kernel
theorem dd_la_law_478 : decode code 478 = .ok (.iconst 0, 1) := by decide +kernel
theorem dd_la_law_479 : decode code 479 = .ok (.laload, 1) := by decide +kernel
theorem dd_la_law_480 : decode code 480 = .ok (.iload 6, 2) := by decide +kernel
theorem dd_la_law_482 : decode code 482 = .ok (.ifCond .eq 7, 3) := by decide +kernel
theorem dd_la_law_485 : decode code 485 = .ok (.lconst 1, 1) := by decide +kernel
theorem dd_la_law_486 : decode code 486 = .ok (.goto 4, 3) := by decide +kernel
theorem dd_la_law_489 : decode code 489 = .ok (.lconst 0, 1) := by decide +kernel
theorem dd_la_law_490 : decode code 490 = .ok (.lcmp, 1) := by decide +kernel
theorem dd_la_law_491 : decode code 491 = .ok (.ifCond .eq 5, 3) := by decide +kernel
theorem dd_la_law_494 : decode code 494 = .ok (.iconst 0, 1) := by decide +kernel
theorem dd_la_law_495 : decode code 495 = .ok (.ireturn, 1) := by decide +kernel
theorem dd_la_law_496 : decode code 496 = .ok (.goto 643, 3) := by decide +kernel
theorem dd_la_law_499 : decode code 499 = .ok (.aload_n 1, 1) := by decide +kernel
theorem dd_la_law_500 : decode code 500 = .ok (.aload_n 0, 1) := by decide +kernel
theorem dd_la_law_501 : decode code 501 = .ok (.iload 4, 2) := by decide +kernel
theorem dd_la_law_503 : decode code 503 = .ok (.iconst 1, 1) := by decide +kernel
theorem dd_la_law_504 : decode code 504 = .ok (.iadd, 1) := by decide +kernel
theorem dd_la_law_505 : decode code 505 = .ok (.iaload, 1) := by decide +kernel
theorem dd_la_law_506 : decode code 506 = .ok (.aload_n 3, 1) := by decide +kernel
theorem dd_la_law_507 : decode code 507 = .ok (.invokestatic 95, 3) := by decide +kernel
theorem dd_la_law_510 : decode code 510 = .ok (.istore 5, 2) := by decide +kernel
theorem dd_la_law_512 : decode code 512 = .ok (.aload_n 2, 1) := by decide +kernel
theorem dd_la_law_513 : decode code 513 = .ok (.aload_n 0, 1) := by decide +kernel
theorem dd_la_law_514 : decode code 514 = .ok (.iload 4, 2) := by decide +kernel
theorem dd_la_law_516 : decode code 516 = .ok (.iconst 1, 1) := by decide +kernel
theorem dd_la_law_517 : decode code 517 = .ok (.iadd, 1) := by decide +kernel
theorem dd_la_law_518 : decode code 518 = .ok (.iaload, 1) := by decide +kernel
theorem dd_la_law_519 : decode code 519 = .ok (.invokevirtual 97, 3) := by decide +kernel
theorem dd_la_law_522 : decode code 522 = .ok (.istore 6, 2) := by decide +kernel
theorem dd_la_law_524 : decode code 524 = .ok (.aload_n 2, 1) := by decide +kernel
theorem dd_la_law_525 : decode code 525 = .ok (.invokevirtual 73, 3) := by decide +kernel
theorem dd_la_law_528 : decode code 528 = .ok (.iload 5, 2) := by decide +kernel
theorem dd_la_law_530 : decode code 530 = .ok (.if_icmp .eq 5, 3) := by decide +kernel
theorem dd_la_law_533 : decode code 533 = .ok (.iconst 0, 1) := by decide +kernel
theorem dd_la_law_534 : decode code 534 = .ok (.ireturn, 1) := by decide +kernel
theorem dd_la_law_535 : decode code 535 = .ok (.iload 5, 2) := by decide +kernel
theorem dd_la_law_537 : decode code 537 = .ok (.ifCond .ne 15, 3) := by decide +kernel
theorem dd_la_law_540 : decode code 540 = .ok (.aload_n 3, 1) := by decide +kernel
theorem dd_la_law_541 : decode code 541 = .ok (.iconst 0, 1) := by decide +kernel
theorem dd_la_law_542 : decode code 542 = .ok (.laload, 1) := by decide +kernel
theorem dd_la_law_543 : decode code 543 = .ok (.iload 6, 2) := by decide +kernel
theorem dd_la_law_545 : decode code 545 = .ok (.i2l, 1) := by decide +kernel
theorem dd_la_law_546 : decode code 546 = .ok (.lcmp, 1) := by decide +kernel
theorem dd_la_law_547 : decode code 547 = .ok (.ifCond .eq 5, 3) := by decide +kernel
theorem dd_la_law_550 : decode code 550 = .ok (.iconst 0, 1) := by decide +kernel
theorem dd_la_law_551 : decode code 551 = .ok (.ireturn, 1) := by decide +kernel
theorem dd_la_law_552 : decode code 552 = .ok (.goto 587, 3) := by decide +kernel
theorem dd_la_law_555 : decode code 555 = .ok (.aload_n 1, 1) := by decide +kernel
theorem dd_la_law_556 : decode code 556 = .ok (.aload_n 0, 1) := by decide +kernel
theorem dd_la_law_557 : decode code 557 = .ok (.iload 4, 2) := by decide +kernel
theorem dd_la_law_559 : decode code 559 = .ok (.iconst 1, 1) := by decide +kernel
theorem dd_la_law_560 : decode code 560 = .ok (.iadd, 1) := by decide +kernel
theorem dd_la_law_561 : decode code 561 = .ok (.iaload, 1) := by decide +kernel
theorem dd_la_law_562 : decode code 562 = .ok (.aload_n 0, 1) := by decide +kernel
theorem dd_la_law_563 : decode code 563 = .ok (.iload 4, 2) := by decide +kernel
theorem dd_la_law_565 : decode code 565 = .ok (.iconst 2, 1) := by decide +kernel
theorem dd_la_law_566 : decode code 566 = .ok (.iadd, 1) := by decide +kernel
theorem dd_la_law_567 : decode code 567 = .ok (.iaload, 1) := by decide +kernel
theorem dd_la_law_568 : decode code 568 = .ok (.ifCond .eq 7, 3) := by decide +kernel
theorem dd_la_law_571 : decode code 571 = .ok (.iconst 1, 1) := by decide +kernel
theorem dd_la_law_572 : decode code 572 = .ok (.goto 4, 3) := by decide +kernel
theorem dd_la_law_575 : decode code 575 = .ok (.iconst 0, 1) := by decide +kernel
theorem dd_la_law_576 : decode code 576 = .ok (.aload_n 3, 1) := by decide +kernel
theorem dd_la_law_577 : decode code 577 = .ok (.invokestatic 98, 3) := by decide +kernel
theorem dd_la_law_580 : decode code 580 = .ok (.istore 5, 2) := by decide +kernel
theorem dd_la_law_582 : decode code 582 = .ok (.aload_n 2, 1) := by decide +kernel
theorem dd_la_law_583 : decode code 583 = .ok (.aload_n 0, 1) := by decide +kernel
theorem dd_la_law_584 : decode code 584 = .ok (.iload 4, 2) := by decide +kernel
theorem dd_la_law_586 : decode code 586 = .ok (.iconst 1, 1) := by decide +kernel
theorem dd_la_law_587 : decode code 587 = .ok (.iadd, 1) := by decide +kernel
theorem dd_la_law_588 : decode code 588 = .ok (.iaload, 1) := by decide +kernel
theorem dd_la_law_589 : decode code 589 = .ok (.aload_n 0, 1) := by decide +kernel
theorem dd_la_law_590 : decode code 590 = .ok (.iload 4, 2) := by decide +kernel
theorem dd_la_law_592 : decode code 592 = .ok (.iconst 2, 1) := by decide +kernel
theorem dd_la_law_593 : decode code 593 = .ok (.iadd, 1) := by decide +kernel
theorem dd_la_law_594 : decode code 594 = .ok (.iaload, 1) := by decide +kernel
theorem dd_la_law_595 : decode code 595 = .ok (.ifCond .eq 7, 3) := by decide +kernel
theorem dd_la_law_598 : decode code 598 = .ok (.iconst 1, 1) := by decide +kernel
theorem dd_la_law_599 : decode code 599 = .ok (.goto 4, 3) := by decide +kernel
theorem dd_la_law_602 : decode code 602 = .ok (.iconst 0, 1) := by decide +kernel
theorem dd_la_law_603 : decode code 603 = .ok (.invokevirtual 101, 3) := by decide +kernel
theorem dd_la_law_606 : decode code 606 = .ok (.istore 6, 2) := by decide +kernel
theorem dd_la_law_608 : decode code 608 = .ok (.aload_n 2, 1) := by decide +kernel
theorem dd_la_law_609 : decode code 609 = .ok (.invokevirtual 73, 3) := by decide +kernel
theorem dd_la_law_612 : decode code 612 = .ok (.iload 5, 2) := by decide +kernel
theorem dd_la_law_614 : decode code 614 = .ok (.if_icmp .eq 5, 3) := by decide +kernel
theorem dd_la_law_617 : decode code 617 = .ok (.iconst 0, 1) := by decide +kernel
theorem dd_la_law_618 : decode code 618 = .ok (.ireturn, 1) := by decide +kernel
theorem dd_la_law_619 : decode code 619 = .ok (.iload 5, 2) := by decide +kernel
theorem dd_la_law_621 : decode code 621 = .ok (.ifCond .ne 22, 3) := by decide +kernel
theorem dd_la_law_624 : decode code 624 = .ok (.aload_n 3, 1) := by decide +kernel
theorem dd_la_law_625 : decode code 625 = .ok (.iconst 0, 1) := by decide +kernel
theorem dd_la_law_626 : decode code 626 = .ok (.laload, 1) := by decide +kernel
theorem dd_la_law_627 : decode code 627 = .ok (.iload 6, 2) := by decide +kernel
theorem dd_la_law_629 : decode code 629 = .ok (.ifCond .eq 7, 3) := by decide +kernel
theorem dd_la_law_632 : decode code 632 = .ok (.lconst 1, 1) := by decide +kernel
theorem dd_la_law_633 : decode code 633 = .ok (.goto 4, 3) := by decide +kernel
theorem dd_la_law_636 : decode code 636 = .ok (.lconst 0, 1) := by decide +kernel
theorem dd_la_law_637 : decode code 637 = .ok (.lcmp, 1) := by decide +kernel
theorem dd_la_law_638 : decode code 638 = .ok (.ifCond .eq 5, 3) := by decide +kernel
theorem dd_la_law_641 : decode code 641 = .ok (.iconst 0, 1) := by decide +kernel
theorem dd_la_law_642 : decode code 642 = .ok (.ireturn, 1) := by decide +kernel
theorem dd_la_law_643 : decode code 643 = .ok (.goto 496, 3) := by decide +kernel
theorem dd_la_law_646 : decode code 646 = .ok (.aload_n 1, 1) := by decide +kernel
theorem dd_la_law_647 : decode code 647 = .ok (.aload_n 0, 1) := by decide +kernel
theorem dd_la_law_648 : decode code 648 = .ok (.iload 4, 2) := by decide +kernel
theorem dd_la_law_650 : decode code 650 = .ok (.iconst 1, 1) := by decide +kernel
theorem dd_la_law_651 : decode code 651 = .ok (.iadd, 1) := by decide +kernel
theorem dd_la_law_652 : decode code 652 = .ok (.iaload, 1) := by decide +kernel
theorem dd_la_law_653 : decode code 653 = .ok (.aload_n 0, 1) := by decide +kernel
theorem dd_la_law_654 : decode code 654 = .ok (.iload 4, 2) := by decide +kernel
theorem dd_la_law_656 : decode code 656 = .ok (.iconst 2, 1) := by decide +kernel
theorem dd_la_law_657 : decode code 657 = .ok (.iadd, 1) := by decide +kernel
theorem dd_la_law_658 : decode code 658 = .ok (.iaload, 1) := by decide +kernel
theorem dd_la_law_659 : decode code 659 = .ok (.aload_n 0, 1) := by decide +kernel
theorem dd_la_law_660 : decode code 660 = .ok (.iload 4, 2) := by decide +kernel
theorem dd_la_law_662 : decode code 662 = .ok (.iconst 3, 1) := by decide +kernel
theorem dd_la_law_663 : decode code 663 = .ok (.iadd, 1) := by decide +kernel
theorem dd_la_law_664 : decode code 664 = .ok (.iaload, 1) := by decide +kernel
theorem dd_la_law_665 : decode code 665 = .ok (.aload_n 3, 1) := by decide +kernel
theorem dd_la_law_666 : decode code 666 = .ok (.invokestatic 102, 3) := by decide +kernel
theorem dd_la_law_669 : decode code 669 = .ok (.istore 5, 2) := by decide +kernel
theorem dd_la_law_671 : decode code 671 = .ok (.aload_n 2, 1) := by decide +kernel
theorem dd_la_law_672 : decode code 672 = .ok (.aload_n 0, 1) := by decide +kernel
theorem dd_la_law_673 : decode code 673 = .ok (.iload 4, 2) := by decide +kernel
theorem dd_la_law_675 : decode code 675 = .ok (.iconst 1, 1) := by decide +kernel
theorem dd_la_law_676 : decode code 676 = .ok (.iadd, 1) := by decide +kernel
theorem dd_la_law_677 : decode code 677 = .ok (.iaload, 1) := by decide +kernel
theorem dd_la_law_678 : decode code 678 = .ok (.aload_n 0, 1) := by decide +kernel
theorem dd_la_law_679 : decode code 679 = .ok (.iload 4, 2) := by decide +kernel
theorem dd_la_law_681 : decode code 681 = .ok (.iconst 2, 1) := by decide +kernel
theorem dd_la_law_682 : decode code 682 = .ok (.iadd, 1) := by decide +kernel
theorem dd_la_law_683 : decode code 683 = .ok (.iaload, 1) := by decide +kernel
theorem dd_la_law_684 : decode code 684 = .ok (.aload_n 0, 1) := by decide +kernel
theorem dd_la_law_685 : decode code 685 = .ok (.iload 4, 2) := by decide +kernel
theorem dd_la_law_687 : decode code 687 = .ok (.iconst 3, 1) := by decide +kernel
theorem dd_la_law_688 : decode code 688 = .ok (.iadd, 1) := by decide +kernel
theorem dd_la_law_689 : decode code 689 = .ok (.iaload, 1) := by decide +kernel
theorem dd_la_law_690 : decode code 690 = .ok (.invokevirtual 104, 3) := by decide +kernel
theorem dd_la_law_693 : decode code 693 = .ok (.istore 6, 2) := by decide +kernel
theorem dd_la_law_695 : decode code 695 = .ok (.aload_n 2, 1) := by decide +kernel
theorem dd_la_law_696 : decode code 696 = .ok (.invokevirtual 73, 3) := by decide +kernel
theorem dd_la_law_699 : decode code 699 = .ok (.iload 5, 2) := by decide +kernel
theorem dd_la_law_701 : decode code 701 = .ok (.if_icmp .eq 5, 3) := by decide +kernel
theorem dd_la_law_704 : decode code 704 = .ok (.iconst 0, 1) := by decide +kernel
theorem dd_la_law_705 : decode code 705 = .ok (.ireturn, 1) := by decide +kernel
theorem dd_la_law_706 : decode code 706 = .ok (.iload 5, 2) := by decide +kernel
theorem dd_la_law_708 : decode code 708 = .ok (.ifCond .ne 22, 3) := by decide +kernel
theorem dd_la_law_711 : decode code 711 = .ok (.aload_n 3, 1) := by decide +kernel
theorem dd_la_law_712 : decode code 712 = .ok (.iconst 0, 1) := by decide +kernel
theorem dd_la_law_713 : decode code 713 = .ok (.laload, 1) := by decide +kernel
theorem dd_la_law_714 : decode code 714 = .ok (.iload 6, 2) := by decide +kernel
theorem dd_la_law_716 : decode code 716 = .ok (.ifCond .eq 7, 3) := by decide +kernel
theorem dd_la_law_719 : decode code 719 = .ok (.lconst 1, 1) := by decide +kernel
theorem dd_la_law_720 : decode code 720 = .ok (.goto 4, 3) := by decide +kernel
theorem dd_la_law_723 : decode code 723 = .ok (.lconst 0, 1) := by decide +kernel
theorem dd_la_law_724 : decode code 724 = .ok (.lcmp, 1) := by decide +kernel
theorem dd_la_law_725 : decode code 725 = .ok (.ifCond .eq 5, 3) := by decide +kernel
theorem dd_la_law_728 : decode code 728 = .ok (.iconst 0, 1) := by decide +kernel
theorem dd_la_law_729 : decode code 729 = .ok (.ireturn, 1) := by decide +kernel
theorem dd_la_law_730 : decode code 730 = .ok (.goto 409, 3) := by decide +kernel
theorem dd_la_law_733 : decode code 733 = .ok (.aload_n 1, 1) := by decide +kernel
theorem dd_la_law_734 : decode code 734 = .ok (.invokevirtual 105, 3) := by decide +kernel
theorem dd_la_law_737 : decode code 737 = .ok (.aload_n 2, 1) := by decide +kernel
theorem dd_la_law_738 : decode code 738 = .ok (.invokevirtual 108, 3) := by decide +kernel
theorem dd_la_law_741 : decode code 741 = .ok (.if_icmp .eq 398, 3) := by decide +kernel
theorem dd_la_law_744 : decode code 744 = .ok (.iconst 0, 1) := by decide +kernel
theorem dd_la_law_745 : decode code 745 = .ok (.ireturn, 1) := by decide +kernel
theorem dd_la_law_746 : decode code 746 = .ok (.aload_n 1, 1) := by decide +kernel
theorem dd_la_law_747 : decode code 747 = .ok (.aload_n 0, 1) := by decide +kernel
theorem dd_la_law_748 : decode code 748 = .ok (.iload 4, 2) := by decide +kernel
theorem dd_la_law_750 : decode code 750 = .ok (.iconst 1, 1) := by decide +kernel
theorem dd_la_law_751 : decode code 751 = .ok (.iadd, 1) := by decide +kernel
theorem dd_la_law_752 : decode code 752 = .ok (.iaload, 1) := by decide +kernel
theorem dd_la_law_753 : decode code 753 = .ok (.aload_n 0, 1) := by decide +kernel
theorem dd_la_law_754 : decode code 754 = .ok (.iload 4, 2) := by decide +kernel
theorem dd_la_law_756 : decode code 756 = .ok (.iconst 2, 1) := by decide +kernel
theorem dd_la_law_757 : decode code 757 = .ok (.iadd, 1) := by decide +kernel
theorem dd_la_law_758 : decode code 758 = .ok (.iaload, 1) := by decide +kernel
theorem dd_la_law_759 : decode code 759 = .ok (.aload_n 3, 1) := by decide +kernel
theorem dd_la_law_760 : decode code 760 = .ok (.invokestatic 109, 3) := by decide +kernel
theorem dd_la_law_763 : decode code 763 = .ok (.istore 5, 2) := by decide +kernel
theorem dd_la_law_765 : decode code 765 = .ok (.aload_n 2, 1) := by decide +kernel
theorem dd_la_law_766 : decode code 766 = .ok (.aload_n 0, 1) := by decide +kernel
theorem dd_la_law_767 : decode code 767 = .ok (.iload 4, 2) := by decide +kernel
theorem dd_la_law_769 : decode code 769 = .ok (.iconst 1, 1) := by decide +kernel
theorem dd_la_law_770 : decode code 770 = .ok (.iadd, 1) := by decide +kernel
theorem dd_la_law_771 : decode code 771 = .ok (.iaload, 1) := by decide +kernel
theorem dd_la_law_772 : decode code 772 = .ok (.aload_n 0, 1) := by decide +kernel
theorem dd_la_law_773 : decode code 773 = .ok (.iload 4, 2) := by decide +kernel
theorem dd_la_law_775 : decode code 775 = .ok (.iconst 2, 1) := by decide +kernel
theorem dd_la_law_776 : decode code 776 = .ok (.iadd, 1) := by decide +kernel
theorem dd_la_law_777 : decode code 777 = .ok (.iaload, 1) := by decide +kernel
theorem dd_la_law_778 : decode code 778 = .ok (.invokevirtual 111, 3) := by decide +kernel
theorem dd_la_law_781 : decode code 781 = .ok (.istore 6, 2) := by decide +kernel
theorem dd_la_law_783 : decode code 783 = .ok (.aload_n 2, 1) := by decide +kernel
theorem dd_la_law_784 : decode code 784 = .ok (.invokevirtual 73, 3) := by decide +kernel
theorem dd_la_law_787 : decode code 787 = .ok (.iload 5, 2) := by decide +kernel
theorem dd_la_law_789 : decode code 789 = .ok (.if_icmp .eq 5, 3) := by decide +kernel
theorem dd_la_law_792 : decode code 792 = .ok (.iconst 0, 1) := by decide +kernel
theorem dd_la_law_793 : decode code 793 = .ok (.ireturn, 1) := by decide +kernel
theorem dd_la_law_794 : decode code 794 = .ok (.iload 5, 2) := by decide +kernel
theorem dd_la_law_796 : decode code 796 = .ok (.ifCond .ne 15, 3) := by decide +kernel
theorem dd_la_law_799 : decode code 799 = .ok (.aload_n 3, 1) := by decide +kernel
theorem dd_la_law_800 : decode code 800 = .ok (.iconst 0, 1) := by decide +kernel
theorem dd_la_law_801 : decode code 801 = .ok (.laload, 1) := by decide +kernel
theorem dd_la_law_802 : decode code 802 = .ok (.iload 6, 2) := by decide +kernel
theorem dd_la_law_804 : decode code 804 = .ok (.i2l, 1) := by decide +kernel
theorem dd_la_law_805 : decode code 805 = .ok (.lcmp, 1) := by decide +kernel
theorem dd_la_law_806 : decode code 806 = .ok (.ifCond .eq 5, 3) := by decide +kernel
theorem dd_la_law_809 : decode code 809 = .ok (.iconst 0, 1) := by decide +kernel
theorem dd_la_law_810 : decode code 810 = .ok (.ireturn, 1) := by decide +kernel
theorem dd_la_law_811 : decode code 811 = .ok (.goto 328, 3) := by decide +kernel
theorem dd_la_law_814 : decode code 814 = .ok (.aload_n 1, 1) := by decide +kernel
theorem dd_la_law_815 : decode code 815 = .ok (.aload_n 0, 1) := by decide +kernel
theorem dd_la_law_816 : decode code 816 = .ok (.iload 4, 2) := by decide +kernel
theorem dd_la_law_818 : decode code 818 = .ok (.iconst 1, 1) := by decide +kernel
theorem dd_la_law_819 : decode code 819 = .ok (.iadd, 1) := by decide +kernel
theorem dd_la_law_820 : decode code 820 = .ok (.iaload, 1) := by decide +kernel
theorem dd_la_law_821 : decode code 821 = .ok (.aload_n 0, 1) := by decide +kernel
theorem dd_la_law_822 : decode code 822 = .ok (.iload 4, 2) := by decide +kernel
theorem dd_la_law_824 : decode code 824 = .ok (.iconst 2, 1) := by decide +kernel
theorem dd_la_law_825 : decode code 825 = .ok (.iadd, 1) := by decide +kernel
theorem dd_la_law_826 : decode code 826 = .ok (.iaload, 1) := by decide +kernel
theorem dd_la_law_827 : decode code 827 = .ok (.aload_n 3, 1) := by decide +kernel
theorem dd_la_law_828 : decode code 828 = .ok (.invokestatic 112, 3) := by decide +kernel
theorem dd_la_law_831 : decode code 831 = .ok (.istore 5, 2) := by decide +kernel
theorem dd_la_law_833 : decode code 833 = .ok (.aload_n 2, 1) := by decide +kernel
theorem dd_la_law_834 : decode code 834 = .ok (.aload_n 0, 1) := by decide +kernel
theorem dd_la_law_835 : decode code 835 = .ok (.iload 4, 2) := by decide +kernel
theorem dd_la_law_837 : decode code 837 = .ok (.iconst 1, 1) := by decide +kernel
theorem dd_la_law_838 : decode code 838 = .ok (.iadd, 1) := by decide +kernel
theorem dd_la_law_839 : decode code 839 = .ok (.iaload, 1) := by decide +kernel
theorem dd_la_law_840 : decode code 840 = .ok (.aload_n 0, 1) := by decide +kernel
theorem dd_la_law_841 : decode code 841 = .ok (.iload 4, 2) := by decide +kernel
theorem dd_la_law_843 : decode code 843 = .ok (.iconst 2, 1) := by decide +kernel
theorem dd_la_law_844 : decode code 844 = .ok (.iadd, 1) := by decide +kernel
theorem dd_la_law_845 : decode code 845 = .ok (.iaload, 1) := by decide +kernel
theorem dd_la_law_846 : decode code 846 = .ok (.invokevirtual 114, 3) := by decide +kernel
theorem dd_la_law_849 : decode code 849 = .ok (.istore 6, 2) := by decide +kernel
theorem dd_la_law_851 : decode code 851 = .ok (.aload_n 2, 1) := by decide +kernel
theorem dd_la_law_852 : decode code 852 = .ok (.invokevirtual 73, 3) := by decide +kernel
theorem dd_la_law_855 : decode code 855 = .ok (.iload 5, 2) := by decide +kernel
theorem dd_la_law_857 : decode code 857 = .ok (.if_icmp .eq 5, 3) := by decide +kernel
theorem dd_la_law_860 : decode code 860 = .ok (.iconst 0, 1) := by decide +kernel
theorem dd_la_law_861 : decode code 861 = .ok (.ireturn, 1) := by decide +kernel
theorem dd_la_law_862 : decode code 862 = .ok (.iload 5, 2) := by decide +kernel
theorem dd_la_law_864 : decode code 864 = .ok (.ifCond .ne 15, 3) := by decide +kernel
theorem dd_la_law_867 : decode code 867 = .ok (.aload_n 3, 1) := by decide +kernel
theorem dd_la_law_868 : decode code 868 = .ok (.iconst 0, 1) := by decide +kernel
theorem dd_la_law_869 : decode code 869 = .ok (.laload, 1) := by decide +kernel
theorem dd_la_law_870 : decode code 870 = .ok (.iload 6, 2) := by decide +kernel
theorem dd_la_law_872 : decode code 872 = .ok (.i2l, 1) := by decide +kernel
theorem dd_la_law_873 : decode code 873 = .ok (.lcmp, 1) := by decide +kernel
theorem dd_la_law_874 : decode code 874 = .ok (.ifCond .eq 5, 3) := by decide +kernel
theorem dd_la_law_877 : decode code 877 = .ok (.iconst 0, 1) := by decide +kernel
theorem dd_la_law_878 : decode code 878 = .ok (.ireturn, 1) := by decide +kernel
theorem dd_la_law_879 : decode code 879 = .ok (.goto 260, 3) := by decide +kernel
theorem dd_la_law_882 : decode code 882 = .ok (.aload_n 1, 1) := by decide +kernel
theorem dd_la_law_883 : decode code 883 = .ok (.aload_n 0, 1) := by decide +kernel
theorem dd_la_law_884 : decode code 884 = .ok (.iload 4, 2) := by decide +kernel
theorem dd_la_law_886 : decode code 886 = .ok (.iconst 1, 1) := by decide +kernel
theorem dd_la_law_887 : decode code 887 = .ok (.iadd, 1) := by decide +kernel
theorem dd_la_law_888 : decode code 888 = .ok (.iaload, 1) := by decide +kernel
theorem dd_la_law_889 : decode code 889 = .ok (.aload_n 0, 1) := by decide +kernel
theorem dd_la_law_890 : decode code 890 = .ok (.iload 4, 2) := by decide +kernel
theorem dd_la_law_892 : decode code 892 = .ok (.iconst 2, 1) := by decide +kernel
theorem dd_la_law_893 : decode code 893 = .ok (.iadd, 1) := by decide +kernel
theorem dd_la_law_894 : decode code 894 = .ok (.iaload, 1) := by decide +kernel
theorem dd_la_law_895 : decode code 895 = .ok (.aload_n 0, 1) := by decide +kernel
theorem dd_la_law_896 : decode code 896 = .ok (.iload 4, 2) := by decide +kernel
theorem dd_la_law_898 : decode code 898 = .ok (.iconst 3, 1) := by decide +kernel
theorem dd_la_law_899 : decode code 899 = .ok (.iadd, 1) := by decide +kernel
theorem dd_la_law_900 : decode code 900 = .ok (.iaload, 1) := by decide +kernel
theorem dd_la_law_901 : decode code 901 = .ok (.aload_n 0, 1) := by decide +kernel
theorem dd_la_law_902 : decode code 902 = .ok (.iload 4, 2) := by decide +kernel
theorem dd_la_law_904 : decode code 904 = .ok (.iconst 4, 1) := by decide +kernel
theorem dd_la_law_905 : decode code 905 = .ok (.iadd, 1) := by decide +kernel
theorem dd_la_law_906 : decode code 906 = .ok (.iaload, 1) := by decide +kernel
theorem dd_la_law_907 : decode code 907 = .ok (.ifCond .eq 7, 3) := by decide +kernel
theorem dd_la_law_910 : decode code 910 = .ok (.iconst 1, 1) := by decide +kernel
theorem dd_la_law_911 : decode code 911 = .ok (.goto 4, 3) := by decide +kernel
theorem dd_la_law_914 : decode code 914 = .ok (.iconst 0, 1) := by decide +kernel
theorem dd_la_law_915 : decode code 915 = .ok (.aload_n 3, 1) := by decide +kernel
theorem dd_la_law_916 : decode code 916 = .ok (.invokestatic 115, 3) := by decide +kernel
theorem dd_la_law_919 : decode code 919 = .ok (.istore 5, 2) := by decide +kernel
theorem dd_la_law_921 : decode code 921 = .ok (.aload_n 2, 1) := by decide +kernel
theorem dd_la_law_922 : decode code 922 = .ok (.aload_n 0, 1) := by decide +kernel
theorem dd_la_law_923 : decode code 923 = .ok (.iload 4, 2) := by decide +kernel
theorem dd_la_law_925 : decode code 925 = .ok (.iconst 1, 1) := by decide +kernel
theorem dd_la_law_926 : decode code 926 = .ok (.iadd, 1) := by decide +kernel
theorem dd_la_law_927 : decode code 927 = .ok (.iaload, 1) := by decide +kernel
theorem dd_la_law_928 : decode code 928 = .ok (.aload_n 0, 1) := by decide +kernel
theorem dd_la_law_929 : decode code 929 = .ok (.iload 4, 2) := by decide +kernel
theorem dd_la_law_931 : decode code 931 = .ok (.iconst 2, 1) := by decide +kernel
theorem dd_la_law_932 : decode code 932 = .ok (.iadd, 1) := by decide +kernel
theorem dd_la_law_933 : decode code 933 = .ok (.iaload, 1) := by decide +kernel
theorem dd_la_law_934 : decode code 934 = .ok (.aload_n 0, 1) := by decide +kernel
theorem dd_la_law_935 : decode code 935 = .ok (.iload 4, 2) := by decide +kernel
theorem dd_la_law_937 : decode code 937 = .ok (.iconst 3, 1) := by decide +kernel
theorem dd_la_law_938 : decode code 938 = .ok (.iadd, 1) := by decide +kernel
theorem dd_la_law_939 : decode code 939 = .ok (.iaload, 1) := by decide +kernel
theorem dd_la_law_940 : decode code 940 = .ok (.aload_n 0, 1) := by decide +kernel
theorem dd_la_law_941 : decode code 941 = .ok (.iload 4, 2) := by decide +kernel
theorem dd_la_law_943 : decode code 943 = .ok (.iconst 4, 1) := by decide +kernel
theorem dd_la_law_944 : decode code 944 = .ok (.iadd, 1) := by decide +kernel
theorem dd_la_law_945 : decode code 945 = .ok (.iaload, 1) := by decide +kernel
theorem dd_la_law_946 : decode code 946 = .ok (.ifCond .eq 7, 3) := by decide +kernel
theorem dd_la_law_949 : decode code 949 = .ok (.iconst 1, 1) := by decide +kernel
theorem dd_la_law_950 : decode code 950 = .ok (.goto 4, 3) := by decide +kernel
theorem dd_la_law_953 : decode code 953 = .ok (.iconst 0, 1) := by decide +kernel
theorem dd_la_law_954 : decode code 954 = .ok (.invokevirtual 118, 3) := by decide +kernel
theorem dd_la_law_957 : decode code 957 = .ok (.istore 6, 2) := by decide +kernel
theorem dd_la_law_959 : decode code 959 = .ok (.aload_n 2, 1) := by decide +kernel
theorem dd_la_law_960 : decode code 960 = .ok (.invokevirtual 73, 3) := by decide +kernel
theorem dd_la_law_963 : decode code 963 = .ok (.iload 5, 2) := by decide +kernel
theorem dd_la_law_965 : decode code 965 = .ok (.if_icmp .eq 5, 3) := by decide +kernel
theorem dd_la_law_968 : decode code 968 = .ok (.iconst 0, 1) := by decide +kernel
theorem dd_la_law_969 : decode code 969 = .ok (.ireturn, 1) := by decide +kernel
theorem dd_la_law_970 : decode code 970 = .ok (.iload 5, 2) := by decide +kernel
theorem dd_la_law_972 : decode code 972 = .ok (.ifCond .ne 15, 3) := by decide +kernel
theorem dd_la_law_975 : decode code 975 = .ok (.aload_n 3, 1) := by decide +kernel
theorem dd_la_law_976 : decode code 976 = .ok (.iconst 0, 1) := by decide +kernel
theorem dd_la_law_977 : decode code 977 = .ok (.laload, 1) := by decide +kernel
theorem dd_la_law_978 : decode code 978 = .ok (.iload 6, 2) := by decide +kernel
theorem dd_la_law_980 : decode code 980 = .ok (.i2l, 1) := by decide +kernel
theorem dd_la_law_981 : decode code 981 = .ok (.lcmp, 1) := by decide +kernel
theorem dd_la_law_982 : decode code 982 = .ok (.ifCond .eq 5, 3) := by decide +kernel
theorem dd_la_law_985 : decode code 985 = .ok (.iconst 0, 1) := by decide +kernel
theorem dd_la_law_986 : decode code 986 = .ok (.ireturn, 1) := by decide +kernel
theorem dd_la_law_987 : decode code 987 = .ok (.goto 152, 3) := by decide +kernel
theorem dd_la_law_990 : decode code 990 = .ok (.aload_n 1, 1) := by decide +kernel
theorem dd_la_law_991 : decode code 991 = .ok (.aload_n 0, 1) := by decide +kernel
theorem dd_la_law_992 : decode code 992 = .ok (.iload 4, 2) := by decide +kernel
theorem dd_la_law_994 : decode code 994 = .ok (.iconst 1, 1) := by decide +kernel
theorem dd_la_law_995 : decode code 995 = .ok (.iadd, 1) := by decide +kernel
theorem dd_la_law_996 : decode code 996 = .ok (.iaload, 1) := by decide +kernel
theorem dd_la_law_997 : decode code 997 = .ok (.aload_n 0, 1) := by decide +kernel
theorem dd_la_law_998 : decode code 998 = .ok (.iload 4, 2) := by decide +kernel
theorem dd_la_law_1000 : decode code 1000 = .ok (.iconst 2, 1) := by decide +kernel
theorem dd_la_law_1001 : decode code 1001 = .ok (.iadd, 1) := by decide +kernel
theorem dd_la_law_1002 : decode code 1002 = .ok (.iaload, 1) := by decide +kernel
theorem dd_la_law_1003 : decode code 1003 = .ok (.aload_n 0, 1) := by decide +kernel
theorem dd_la_law_1004 : decode code 1004 = .ok (.iload 4, 2) := by decide +kernel
theorem dd_la_law_1006 : decode code 1006 = .ok (.iconst 3, 1) := by decide +kernel
theorem dd_la_law_1007 : decode code 1007 = .ok (.iadd, 1) := by decide +kernel
theorem dd_la_law_1008 : decode code 1008 = .ok (.iaload, 1) := by decide +kernel
theorem dd_la_law_1009 : decode code 1009 = .ok (.aload_n 3, 1) := by decide +kernel
theorem dd_la_law_1010 : decode code 1010 = .ok (.invokestatic 119, 3) := by decide +kernel
theorem dd_la_law_1013 : decode code 1013 = .ok (.istore 5, 2) := by decide +kernel
theorem dd_la_law_1015 : decode code 1015 = .ok (.aload_n 2, 1) := by decide +kernel
theorem dd_la_law_1016 : decode code 1016 = .ok (.aload_n 0, 1) := by decide +kernel
theorem dd_la_law_1017 : decode code 1017 = .ok (.iload 4, 2) := by decide +kernel
theorem dd_la_law_1019 : decode code 1019 = .ok (.iconst 1, 1) := by decide +kernel
theorem dd_la_law_1020 : decode code 1020 = .ok (.iadd, 1) := by decide +kernel
theorem dd_la_law_1021 : decode code 1021 = .ok (.iaload, 1) := by decide +kernel
theorem dd_la_law_1022 : decode code 1022 = .ok (.aload_n 0, 1) := by decide +kernel
theorem dd_la_law_1023 : decode code 1023 = .ok (.iload 4, 2) := by decide +kernel
theorem dd_la_law_1025 : decode code 1025 = .ok (.iconst 2, 1) := by decide +kernel
theorem dd_la_law_1026 : decode code 1026 = .ok (.iadd, 1) := by decide +kernel
theorem dd_la_law_1027 : decode code 1027 = .ok (.iaload, 1) := by decide +kernel
theorem dd_la_law_1028 : decode code 1028 = .ok (.aload_n 0, 1) := by decide +kernel
theorem dd_la_law_1029 : decode code 1029 = .ok (.iload 4, 2) := by decide +kernel
theorem dd_la_law_1031 : decode code 1031 = .ok (.iconst 3, 1) := by decide +kernel
theorem dd_la_law_1032 : decode code 1032 = .ok (.iadd, 1) := by decide +kernel
theorem dd_la_law_1033 : decode code 1033 = .ok (.iaload, 1) := by decide +kernel
theorem dd_la_law_1034 : decode code 1034 = .ok (.invokevirtual 121, 3) := by decide +kernel
theorem dd_la_law_1037 : decode code 1037 = .ok (.istore 6, 2) := by decide +kernel
theorem dd_la_law_1039 : decode code 1039 = .ok (.aload_n 2, 1) := by decide +kernel
theorem dd_la_law_1040 : decode code 1040 = .ok (.invokevirtual 73, 3) := by decide +kernel
theorem dd_la_law_1043 : decode code 1043 = .ok (.iload 5, 2) := by decide +kernel
theorem dd_la_law_1045 : decode code 1045 = .ok (.if_icmp .eq 5, 3) := by decide +kernel
theorem dd_la_law_1048 : decode code 1048 = .ok (.iconst 0, 1) := by decide +kernel
theorem dd_la_law_1049 : decode code 1049 = .ok (.ireturn, 1) := by decide +kernel
theorem dd_la_law_1050 : decode code 1050 = .ok (.iload 5, 2) := by decide +kernel
theorem dd_la_law_1052 : decode code 1052 = .ok (.ifCond .ne 15, 3) := by decide +kernel
theorem dd_la_law_1055 : decode code 1055 = .ok (.aload_n 3, 1) := by decide +kernel
theorem dd_la_law_1056 : decode code 1056 = .ok (.iconst 0, 1) := by decide +kernel
theorem dd_la_law_1057 : decode code 1057 = .ok (.laload, 1) := by decide +kernel
theorem dd_la_law_1058 : decode code 1058 = .ok (.iload 6, 2) := by decide +kernel
theorem dd_la_law_1060 : decode code 1060 = .ok (.i2l, 1) := by decide +kernel
theorem dd_la_law_1061 : decode code 1061 = .ok (.lcmp, 1) := by decide +kernel
theorem dd_la_law_1062 : decode code 1062 = .ok (.ifCond .eq 5, 3) := by decide +kernel
theorem dd_la_law_1065 : decode code 1065 = .ok (.iconst 0, 1) := by decide +kernel
theorem dd_la_law_1066 : decode code 1066 = .ok (.ireturn, 1) := by decide +kernel
theorem dd_la_law_1067 : decode code 1067 = .ok (.goto 72, 3) := by decide +kernel
theorem dd_la_law_1070 : decode code 1070 = .ok (.aload_n 1, 1) := by decide +kernel
theorem dd_la_law_1071 : decode code 1071 = .ok (.invokevirtual 122, 3) := by decide +kernel
theorem dd_la_law_1074 : decode code 1074 = .ok (.aload_n 2, 1) := by decide +kernel
theorem dd_la_law_1075 : decode code 1075 = .ok (.invokevirtual 125, 3) := by decide +kernel
theorem dd_la_law_1078 : decode code 1078 = .ok (.if_icmp .eq 61, 3) := by decide +kernel
theorem dd_la_law_1081 : decode code 1081 = .ok (.iconst 0, 1) := by decide +kernel
theorem dd_la_law_1082 : decode code 1082 = .ok (.ireturn, 1) := by decide +kernel
theorem dd_la_law_1083 : decode code 1083 = .ok (.aload_n 1, 1) := by decide +kernel
theorem dd_la_law_1084 : decode code 1084 = .ok (.aload_n 0, 1) := by decide +kernel
theorem dd_la_law_1085 : decode code 1085 = .ok (.iload 4, 2) := by decide +kernel
theorem dd_la_law_1087 : decode code 1087 = .ok (.iconst 1, 1) := by decide +kernel
theorem dd_la_law_1088 : decode code 1088 = .ok (.iadd, 1) := by decide +kernel
theorem dd_la_law_1089 : decode code 1089 = .ok (.iaload, 1) := by decide +kernel
theorem dd_la_law_1090 : decode code 1090 = .ok (.aload_n 3, 1) := by decide +kernel
theorem dd_la_law_1091 : decode code 1091 = .ok (.invokestatic 126, 3) := by decide +kernel
theorem dd_la_law_1094 : decode code 1094 = .ok (.istore 5, 2) := by decide +kernel
theorem dd_la_law_1096 : decode code 1096 = .ok (.aload_n 2, 1) := by decide +kernel
theorem dd_la_law_1097 : decode code 1097 = .ok (.aload_n 0, 1) := by decide +kernel
theorem dd_la_law_1098 : decode code 1098 = .ok (.iload 4, 2) := by decide +kernel
theorem dd_la_law_1100 : decode code 1100 = .ok (.iconst 1, 1) := by decide +kernel
theorem dd_la_law_1101 : decode code 1101 = .ok (.iadd, 1) := by decide +kernel
theorem dd_la_law_1102 : decode code 1102 = .ok (.iaload, 1) := by decide +kernel
theorem dd_la_law_1103 : decode code 1103 = .ok (.invokevirtual 128, 3) := by decide +kernel
theorem dd_la_law_1106 : decode code 1106 = .ok (.istore 6, 2) := by decide +kernel
theorem dd_la_law_1108 : decode code 1108 = .ok (.aload_n 2, 1) := by decide +kernel
theorem dd_la_law_1109 : decode code 1109 = .ok (.invokevirtual 73, 3) := by decide +kernel
theorem dd_la_law_1112 : decode code 1112 = .ok (.iload 5, 2) := by decide +kernel
theorem dd_la_law_1114 : decode code 1114 = .ok (.if_icmp .eq 5, 3) := by decide +kernel
theorem dd_la_law_1117 : decode code 1117 = .ok (.iconst 0, 1) := by decide +kernel
theorem dd_la_law_1118 : decode code 1118 = .ok (.ireturn, 1) := by decide +kernel
theorem dd_la_law_1119 : decode code 1119 = .ok (.iload 5, 2) := by decide +kernel
theorem dd_la_law_1121 : decode code 1121 = .ok (.ifCond .ne 15, 3) := by decide +kernel
theorem dd_la_law_1124 : decode code 1124 = .ok (.aload_n 3, 1) := by decide +kernel
theorem dd_la_law_1125 : decode code 1125 = .ok (.iconst 0, 1) := by decide +kernel
theorem dd_la_law_1126 : decode code 1126 = .ok (.laload, 1) := by decide +kernel
theorem dd_la_law_1127 : decode code 1127 = .ok (.iload 6, 2) := by decide +kernel
theorem dd_la_law_1129 : decode code 1129 = .ok (.i2l, 1) := by decide +kernel
theorem dd_la_law_1130 : decode code 1130 = .ok (.lcmp, 1) := by decide +kernel
theorem dd_la_law_1131 : decode code 1131 = .ok (.ifCond .eq 5, 3) := by decide +kernel
theorem dd_la_law_1134 : decode code 1134 = .ok (.iconst 0, 1) := by decide +kernel
theorem dd_la_law_1135 : decode code 1135 = .ok (.ireturn, 1) := by decide +kernel
theorem dd_la_law_1136 : decode code 1136 = .ok (.goto 3, 3) := by decide +kernel
theorem dd_la_law_1139 : decode code 1139 = .ok (.iinc 4 5, 3) := by decide +kernel
theorem dd_la_law_1142 : decode code 1142 = .ok (.goto (-1119), 3) := by decide +kernel
theorem dd_la_law_1145 : decode code 1145 = .ok (.iconst 1, 1) := by decide +kernel
theorem dd_la_law_1146 : decode code 1146 = .ok (.ireturn, 1) := by decide +kernel
