/-! DECODE rows (printed by gen/parts.py). -/
theorem dd_dk_init_0 : decode prog_3_method_1_code 0 = .ok (.aload_n 0, 1) := by decide +kernel
theorem dd_dk_init_1 : decode prog_3_method_1_code 1 = .ok (.invokespecial 3, 3) := by decide +kernel
theorem dd_dk_init_4 : decode prog_3_method_1_code 4 = .ok (.aload_n 0, 1) := by decide +kernel
theorem dd_dk_init_5 : decode prog_3_method_1_code 5 = .ok (.iload_n 1, 1) := by decide +kernel
theorem dd_dk_init_6 : decode prog_3_method_1_code 6 = .ok (.putfield 9, 3) := by decide +kernel
theorem dd_dk_init_9 : decode prog_3_method_1_code 9 = .ok (.aload_n 0, 1) := by decide +kernel
theorem dd_dk_init_10 : decode prog_3_method_1_code 10 = .ok (.iload_n 2, 1) := by decide +kernel
theorem dd_dk_init_11 : decode prog_3_method_1_code 11 = .ok (.putfield 15, 3) := by decide +kernel
theorem dd_dk_init_14 : decode prog_3_method_1_code 14 = .ok (.aload_n 0, 1) := by decide +kernel
theorem dd_dk_init_15 : decode prog_3_method_1_code 15 = .ok (.new 18, 3) := by decide +kernel
theorem dd_dk_init_18 : decode prog_3_method_1_code 18 = .ok (.dup, 1) := by decide +kernel
theorem dd_dk_init_19 : decode prog_3_method_1_code 19 = .ok (.invokespecial 20, 3) := by decide +kernel
theorem dd_dk_init_22 : decode prog_3_method_1_code 22 = .ok (.putfield 21, 3) := by decide +kernel
theorem dd_dk_init_25 : decode prog_3_method_1_code 25 = .ok (.aload_n 0, 1) := by decide +kernel
theorem dd_dk_init_26 : decode prog_3_method_1_code 26 = .ok (.new 25, 3) := by decide +kernel
theorem dd_dk_init_29 : decode prog_3_method_1_code 29 = .ok (.dup, 1) := by decide +kernel
theorem dd_dk_init_30 : decode prog_3_method_1_code 30 = .ok (.invokespecial 27, 3) := by decide +kernel
theorem dd_dk_init_33 : decode prog_3_method_1_code 33 = .ok (.putfield 28, 3) := by decide +kernel
theorem dd_dk_init_36 : decode prog_3_method_1_code 36 = .ok (.aload_n 0, 1) := by decide +kernel
theorem dd_dk_init_37 : decode prog_3_method_1_code 37 = .ok (.iconst 0, 1) := by decide +kernel
theorem dd_dk_init_38 : decode prog_3_method_1_code 38 = .ok (.putfield 32, 3) := by decide +kernel
theorem dd_dk_init_41 : decode prog_3_method_1_code 41 = .ok (.aload_n 0, 1) := by decide +kernel
theorem dd_dk_init_42 : decode prog_3_method_1_code 42 = .ok (.iconst 0, 1) := by decide +kernel
theorem dd_dk_init_43 : decode prog_3_method_1_code 43 = .ok (.putfield 35, 3) := by decide +kernel
theorem dd_dk_init_46 : decode prog_3_method_1_code 46 = .ok (.aload_n 0, 1) := by decide +kernel
theorem dd_dk_init_47 : decode prog_3_method_1_code 47 = .ok (.iconst (-1), 1) := by decide +kernel
theorem dd_dk_init_48 : decode prog_3_method_1_code 48 = .ok (.putfield 38, 3) := by decide +kernel
theorem dd_dk_init_51 : decode prog_3_method_1_code 51 = .ok (.aload_n 0, 1) := by decide +kernel
theorem dd_dk_init_52 : decode prog_3_method_1_code 52 = .ok (.iconst 0, 1) := by decide +kernel
theorem dd_dk_init_53 : decode prog_3_method_1_code 53 = .ok (.putfield 41, 3) := by decide +kernel
theorem dd_dk_init_56 : decode prog_3_method_1_code 56 = .ok (.return_, 1) := by decide +kernel
theorem dd_pr_init_0 : decode prog_6_method_1_code 0 = .ok (.aload_n 0, 1) := by decide +kernel
theorem dd_pr_init_1 : decode prog_6_method_1_code 1 = .ok (.invokespecial 3, 3) := by decide +kernel
theorem dd_pr_init_4 : decode prog_6_method_1_code 4 = .ok (.aload_n 0, 1) := by decide +kernel
theorem dd_pr_init_5 : decode prog_6_method_1_code 5 = .ok (.bipush 12, 2) := by decide +kernel
theorem dd_pr_init_7 : decode prog_6_method_1_code 7 = .ok (.newarray .int, 2) := by decide +kernel
theorem dd_pr_init_9 : decode prog_6_method_1_code 9 = .ok (.putfield 9, 3) := by decide +kernel
theorem dd_pr_init_12 : decode prog_6_method_1_code 12 = .ok (.aload_n 0, 1) := by decide +kernel
theorem dd_pr_init_13 : decode prog_6_method_1_code 13 = .ok (.iconst 0, 1) := by decide +kernel
theorem dd_pr_init_14 : decode prog_6_method_1_code 14 = .ok (.putfield 15, 3) := by decide +kernel
theorem dd_pr_init_17 : decode prog_6_method_1_code 17 = .ok (.return_, 1) := by decide +kernel
theorem dd_ak_init_0 : decode prog_2_method_1_code 0 = .ok (.aload_n 0, 1) := by decide +kernel
theorem dd_ak_init_1 : decode prog_2_method_1_code 1 = .ok (.invokespecial 3, 3) := by decide +kernel
theorem dd_ak_init_4 : decode prog_2_method_1_code 4 = .ok (.aload_n 0, 1) := by decide +kernel
theorem dd_ak_init_5 : decode prog_2_method_1_code 5 = .ok (.invokevirtual 9, 3) := by decide +kernel
theorem dd_ak_init_8 : decode prog_2_method_1_code 8 = .ok (.return_, 1) := by decide +kernel
theorem dd_ak_end_0 : decode prog_2_method_3_code 0 = .ok (.aload_n 0, 1) := by decide +kernel
theorem dd_ak_end_1 : decode prog_2_method_3_code 1 = .ok (.iconst 0, 1) := by decide +kernel
theorem dd_ak_end_2 : decode prog_2_method_3_code 2 = .ok (.putfield 18, 3) := by decide +kernel
theorem dd_ak_end_5 : decode prog_2_method_3_code 5 = .ok (.aload_n 0, 1) := by decide +kernel
theorem dd_ak_end_6 : decode prog_2_method_3_code 6 = .ok (.iconst (-1), 1) := by decide +kernel
theorem dd_ak_end_7 : decode prog_2_method_3_code 7 = .ok (.putfield 21, 3) := by decide +kernel
theorem dd_ak_end_10 : decode prog_2_method_3_code 10 = .ok (.aload_n 0, 1) := by decide +kernel
theorem dd_ak_end_11 : decode prog_2_method_3_code 11 = .ok (.iconst 0, 1) := by decide +kernel
theorem dd_ak_end_12 : decode prog_2_method_3_code 12 = .ok (.putfield 24, 3) := by decide +kernel
theorem dd_ak_end_15 : decode prog_2_method_3_code 15 = .ok (.aload_n 0, 1) := by decide +kernel
theorem dd_ak_end_16 : decode prog_2_method_3_code 16 = .ok (.iconst 0, 1) := by decide +kernel
theorem dd_ak_end_17 : decode prog_2_method_3_code 17 = .ok (.putfield 14, 3) := by decide +kernel
theorem dd_ak_end_20 : decode prog_2_method_3_code 20 = .ok (.aload_n 0, 1) := by decide +kernel
theorem dd_ak_end_21 : decode prog_2_method_3_code 21 = .ok (.iconst 0, 1) := by decide +kernel
theorem dd_ak_end_22 : decode prog_2_method_3_code 22 = .ok (.putfield 27, 3) := by decide +kernel
theorem dd_ak_end_25 : decode prog_2_method_3_code 25 = .ok (.aload_n 0, 1) := by decide +kernel
theorem dd_ak_end_26 : decode prog_2_method_3_code 26 = .ok (.invokevirtual 30, 3) := by decide +kernel
theorem dd_ak_end_29 : decode prog_2_method_3_code 29 = .ok (.return_, 1) := by decide +kernel
theorem dd_ak_forgetAnswers_0 : decode prog_2_method_7_code 0 = .ok (.aload_n 0, 1) := by decide +kernel
theorem dd_ak_forgetAnswers_1 : decode prog_2_method_7_code 1 = .ok (.iconst 0, 1) := by decide +kernel
theorem dd_ak_forgetAnswers_2 : decode prog_2_method_7_code 2 = .ok (.putfield 39, 3) := by decide +kernel
theorem dd_ak_forgetAnswers_5 : decode prog_2_method_7_code 5 = .ok (.aload_n 0, 1) := by decide +kernel
theorem dd_ak_forgetAnswers_6 : decode prog_2_method_7_code 6 = .ok (.iconst 0, 1) := by decide +kernel
theorem dd_ak_forgetAnswers_7 : decode prog_2_method_7_code 7 = .ok (.putfield 33, 3) := by decide +kernel
theorem dd_ak_forgetAnswers_10 : decode prog_2_method_7_code 10 = .ok (.aload_n 0, 1) := by decide +kernel
theorem dd_ak_forgetAnswers_11 : decode prog_2_method_7_code 11 = .ok (.iconst (-1), 1) := by decide +kernel
theorem dd_ak_forgetAnswers_12 : decode prog_2_method_7_code 12 = .ok (.putfield 36, 3) := by decide +kernel
theorem dd_ak_forgetAnswers_15 : decode prog_2_method_7_code 15 = .ok (.return_, 1) := by decide +kernel
theorem dd_lr_init_0 : decode prog_5_method_1_code 0 = .ok (.aload_n 0, 1) := by decide +kernel
theorem dd_lr_init_1 : decode prog_5_method_1_code 1 = .ok (.invokespecial 3, 3) := by decide +kernel
theorem dd_lr_init_4 : decode prog_5_method_1_code 4 = .ok (.aload_n 0, 1) := by decide +kernel
theorem dd_lr_init_5 : decode prog_5_method_1_code 5 = .ok (.bipush 100, 2) := by decide +kernel
theorem dd_lr_init_7 : decode prog_5_method_1_code 7 = .ok (.anewarray 9, 3) := by decide +kernel
theorem dd_lr_init_10 : decode prog_5_method_1_code 10 = .ok (.putfield 11, 3) := by decide +kernel
theorem dd_lr_init_13 : decode prog_5_method_1_code 13 = .ok (.iconst 0, 1) := by decide +kernel
theorem dd_lr_init_14 : decode prog_5_method_1_code 14 = .ok (.istore_n 1, 1) := by decide +kernel
theorem dd_lr_init_15 : decode prog_5_method_1_code 15 = .ok (.iload_n 1, 1) := by decide +kernel
theorem dd_lr_init_16 : decode prog_5_method_1_code 16 = .ok (.bipush 100, 2) := by decide +kernel
theorem dd_lr_init_18 : decode prog_5_method_1_code 18 = .ok (.if_icmp .ge 22, 3) := by decide +kernel
theorem dd_lr_init_21 : decode prog_5_method_1_code 21 = .ok (.aload_n 0, 1) := by decide +kernel
theorem dd_lr_init_22 : decode prog_5_method_1_code 22 = .ok (.getfield 11, 3) := by decide +kernel
theorem dd_lr_init_25 : decode prog_5_method_1_code 25 = .ok (.iload_n 1, 1) := by decide +kernel
theorem dd_lr_init_26 : decode prog_5_method_1_code 26 = .ok (.new 9, 3) := by decide +kernel
theorem dd_lr_init_29 : decode prog_5_method_1_code 29 = .ok (.dup, 1) := by decide +kernel
theorem dd_lr_init_30 : decode prog_5_method_1_code 30 = .ok (.invokespecial 17, 3) := by decide +kernel
theorem dd_lr_init_33 : decode prog_5_method_1_code 33 = .ok (.aastore, 1) := by decide +kernel
theorem dd_lr_init_34 : decode prog_5_method_1_code 34 = .ok (.iinc 1 1, 3) := by decide +kernel
theorem dd_lr_init_37 : decode prog_5_method_1_code 37 = .ok (.goto (-22), 3) := by decide +kernel
theorem dd_lr_init_40 : decode prog_5_method_1_code 40 = .ok (.aload_n 0, 1) := by decide +kernel
theorem dd_lr_init_41 : decode prog_5_method_1_code 41 = .ok (.new 9, 3) := by decide +kernel
theorem dd_lr_init_44 : decode prog_5_method_1_code 44 = .ok (.dup, 1) := by decide +kernel
theorem dd_lr_init_45 : decode prog_5_method_1_code 45 = .ok (.invokespecial 17, 3) := by decide +kernel
theorem dd_lr_init_48 : decode prog_5_method_1_code 48 = .ok (.putfield 18, 3) := by decide +kernel
theorem dd_lr_init_51 : decode prog_5_method_1_code 51 = .ok (.aload_n 0, 1) := by decide +kernel
theorem dd_lr_init_52 : decode prog_5_method_1_code 52 = .ok (.new 9, 3) := by decide +kernel
theorem dd_lr_init_55 : decode prog_5_method_1_code 55 = .ok (.dup, 1) := by decide +kernel
theorem dd_lr_init_56 : decode prog_5_method_1_code 56 = .ok (.invokespecial 17, 3) := by decide +kernel
theorem dd_lr_init_59 : decode prog_5_method_1_code 59 = .ok (.putfield 22, 3) := by decide +kernel
theorem dd_lr_init_62 : decode prog_5_method_1_code 62 = .ok (.return_, 1) := by decide +kernel
theorem dd_lt_init_0 : decode prog_4_method_1_code 0 = .ok (.aload_n 0, 1) := by decide +kernel
theorem dd_lt_init_1 : decode prog_4_method_1_code 1 = .ok (.invokespecial 3, 3) := by decide +kernel
theorem dd_lt_init_4 : decode prog_4_method_1_code 4 = .ok (.aload_n 0, 1) := by decide +kernel
theorem dd_lt_init_5 : decode prog_4_method_1_code 5 = .ok (.new 9, 3) := by decide +kernel
theorem dd_lt_init_8 : decode prog_4_method_1_code 8 = .ok (.dup, 1) := by decide +kernel
theorem dd_lt_init_9 : decode prog_4_method_1_code 9 = .ok (.invokespecial 11, 3) := by decide +kernel
theorem dd_lt_init_12 : decode prog_4_method_1_code 12 = .ok (.putfield 12, 3) := by decide +kernel
theorem dd_lt_init_15 : decode prog_4_method_1_code 15 = .ok (.aload_n 0, 1) := by decide +kernel
theorem dd_lt_init_16 : decode prog_4_method_1_code 16 = .ok (.iconst (-1), 1) := by decide +kernel
theorem dd_lt_init_17 : decode prog_4_method_1_code 17 = .ok (.putfield 18, 3) := by decide +kernel
theorem dd_lt_init_20 : decode prog_4_method_1_code 20 = .ok (.return_, 1) := by decide +kernel
theorem dd_ps_init_0 : decode prog_7_method_1_code 0 = .ok (.aload_n 0, 1) := by decide +kernel
theorem dd_ps_init_1 : decode prog_7_method_1_code 1 = .ok (.invokespecial 3, 3) := by decide +kernel
theorem dd_ps_init_4 : decode prog_7_method_1_code 4 = .ok (.aload_n 0, 1) := by decide +kernel
theorem dd_ps_init_5 : decode prog_7_method_1_code 5 = .ok (.iload_n 2, 1) := by decide +kernel
theorem dd_ps_init_6 : decode prog_7_method_1_code 6 = .ok (.putfield 9, 3) := by decide +kernel
theorem dd_ps_init_9 : decode prog_7_method_1_code 9 = .ok (.aload_n 0, 1) := by decide +kernel
theorem dd_ps_init_10 : decode prog_7_method_1_code 10 = .ok (.iload_n 3, 1) := by decide +kernel
theorem dd_ps_init_11 : decode prog_7_method_1_code 11 = .ok (.putfield 15, 3) := by decide +kernel
theorem dd_ps_init_14 : decode prog_7_method_1_code 14 = .ok (.aload_n 0, 1) := by decide +kernel
theorem dd_ps_init_15 : decode prog_7_method_1_code 15 = .ok (.bipush 25, 2) := by decide +kernel
theorem dd_ps_init_17 : decode prog_7_method_1_code 17 = .ok (.anewarray 18, 3) := by decide +kernel
theorem dd_ps_init_20 : decode prog_7_method_1_code 20 = .ok (.putfield 20, 3) := by decide +kernel
theorem dd_ps_init_23 : decode prog_7_method_1_code 23 = .ok (.iconst 0, 1) := by decide +kernel
theorem dd_ps_init_24 : decode prog_7_method_1_code 24 = .ok (.istore 4, 2) := by decide +kernel
theorem dd_ps_init_26 : decode prog_7_method_1_code 26 = .ok (.iload 4, 2) := by decide +kernel
theorem dd_ps_init_28 : decode prog_7_method_1_code 28 = .ok (.bipush 25, 2) := by decide +kernel
theorem dd_ps_init_30 : decode prog_7_method_1_code 30 = .ok (.if_icmp .ge 26, 3) := by decide +kernel
theorem dd_ps_init_33 : decode prog_7_method_1_code 33 = .ok (.aload_n 0, 1) := by decide +kernel
theorem dd_ps_init_34 : decode prog_7_method_1_code 34 = .ok (.getfield 20, 3) := by decide +kernel
theorem dd_ps_init_37 : decode prog_7_method_1_code 37 = .ok (.iload 4, 2) := by decide +kernel
theorem dd_ps_init_39 : decode prog_7_method_1_code 39 = .ok (.new 18, 3) := by decide +kernel
theorem dd_ps_init_42 : decode prog_7_method_1_code 42 = .ok (.dup, 1) := by decide +kernel
theorem dd_ps_init_43 : decode prog_7_method_1_code 43 = .ok (.iload 4, 2) := by decide +kernel
theorem dd_ps_init_45 : decode prog_7_method_1_code 45 = .ok (.iload_n 1, 1) := by decide +kernel
theorem dd_ps_init_46 : decode prog_7_method_1_code 46 = .ok (.invokespecial 24, 3) := by decide +kernel
theorem dd_ps_init_49 : decode prog_7_method_1_code 49 = .ok (.aastore, 1) := by decide +kernel
theorem dd_ps_init_50 : decode prog_7_method_1_code 50 = .ok (.iinc 4 1, 3) := by decide +kernel
theorem dd_ps_init_53 : decode prog_7_method_1_code 53 = .ok (.goto (-27), 3) := by decide +kernel
theorem dd_ps_init_56 : decode prog_7_method_1_code 56 = .ok (.return_, 1) := by decide +kernel
theorem dd_ps_letsAsk_0 : decode prog_7_method_2_code 0 = .ok (.aload_n 1, 1) := by decide +kernel
theorem dd_ps_letsAsk_1 : decode prog_7_method_2_code 1 = .ok (.getfield 27, 3) := by decide +kernel
theorem dd_ps_letsAsk_4 : decode prog_7_method_2_code 4 = .ok (.astore_n 3, 1) := by decide +kernel
theorem dd_ps_letsAsk_5 : decode prog_7_method_2_code 5 = .ok (.aload_n 3, 1) := by decide +kernel
theorem dd_ps_letsAsk_6 : decode prog_7_method_2_code 6 = .ok (.getfield 31, 3) := by decide +kernel
theorem dd_ps_letsAsk_9 : decode prog_7_method_2_code 9 = .ok (.aload_n 0, 1) := by decide +kernel
theorem dd_ps_letsAsk_10 : decode prog_7_method_2_code 10 = .ok (.getfield 9, 3) := by decide +kernel
theorem dd_ps_letsAsk_13 : decode prog_7_method_2_code 13 = .ok (.if_icmp .lt 5, 3) := by decide +kernel
theorem dd_ps_letsAsk_16 : decode prog_7_method_2_code 16 = .ok (.iconst 0, 1) := by decide +kernel
theorem dd_ps_letsAsk_17 : decode prog_7_method_2_code 17 = .ok (.ireturn, 1) := by decide +kernel
theorem dd_ps_letsAsk_18 : decode prog_7_method_2_code 18 = .ok (.aload_n 3, 1) := by decide +kernel
theorem dd_ps_letsAsk_19 : decode prog_7_method_2_code 19 = .ok (.getfield 31, 3) := by decide +kernel
theorem dd_ps_letsAsk_22 : decode prog_7_method_2_code 22 = .ok (.ifCond .eq 19, 3) := by decide +kernel
theorem dd_ps_letsAsk_25 : decode prog_7_method_2_code 25 = .ok (.iload_n 2, 1) := by decide +kernel
theorem dd_ps_letsAsk_26 : decode prog_7_method_2_code 26 = .ok (.aload_n 3, 1) := by decide +kernel
theorem dd_ps_letsAsk_27 : decode prog_7_method_2_code 27 = .ok (.invokevirtual 36, 3) := by decide +kernel
theorem dd_ps_letsAsk_30 : decode prog_7_method_2_code 30 = .ok (.invokestatic 40, 3) := by decide +kernel
theorem dd_ps_letsAsk_33 : decode prog_7_method_2_code 33 = .ok (.isub, 1) := by decide +kernel
theorem dd_ps_letsAsk_34 : decode prog_7_method_2_code 34 = .ok (.aload_n 0, 1) := by decide +kernel
theorem dd_ps_letsAsk_35 : decode prog_7_method_2_code 35 = .ok (.getfield 15, 3) := by decide +kernel
theorem dd_ps_letsAsk_38 : decode prog_7_method_2_code 38 = .ok (.if_icmp .lt 7, 3) := by decide +kernel
theorem dd_ps_letsAsk_41 : decode prog_7_method_2_code 41 = .ok (.iconst 1, 1) := by decide +kernel
theorem dd_ps_letsAsk_42 : decode prog_7_method_2_code 42 = .ok (.goto 4, 3) := by decide +kernel
theorem dd_ps_letsAsk_45 : decode prog_7_method_2_code 45 = .ok (.iconst 0, 1) := by decide +kernel
theorem dd_ps_letsAsk_46 : decode prog_7_method_2_code 46 = .ok (.ireturn, 1) := by decide +kernel
theorem dd_pr_last_0 : decode prog_6_method_3_code 0 = .ok (.aload_n 0, 1) := by decide +kernel
theorem dd_pr_last_1 : decode prog_6_method_3_code 1 = .ok (.aload_n 0, 1) := by decide +kernel
theorem dd_pr_last_2 : decode prog_6_method_3_code 2 = .ok (.getfield 15, 3) := by decide +kernel
theorem dd_pr_last_5 : decode prog_6_method_3_code 5 = .ok (.invokevirtual 19, 3) := by decide +kernel
theorem dd_pr_last_8 : decode prog_6_method_3_code 8 = .ok (.ireturn, 1) := by decide +kernel
theorem dd_pr_of_0 : decode prog_6_method_2_code 0 = .ok (.iload_n 1, 1) := by decide +kernel
theorem dd_pr_of_1 : decode prog_6_method_2_code 1 = .ok (.iconst 1, 1) := by decide +kernel
theorem dd_pr_of_2 : decode prog_6_method_2_code 2 = .ok (.if_icmp .lt 11, 3) := by decide +kernel
theorem dd_pr_of_5 : decode prog_6_method_2_code 5 = .ok (.iload_n 1, 1) := by decide +kernel
theorem dd_pr_of_6 : decode prog_6_method_2_code 6 = .ok (.aload_n 0, 1) := by decide +kernel
theorem dd_pr_of_7 : decode prog_6_method_2_code 7 = .ok (.getfield 15, 3) := by decide +kernel
theorem dd_pr_of_10 : decode prog_6_method_2_code 10 = .ok (.if_icmp .le 7, 3) := by decide +kernel
theorem dd_pr_of_13 : decode prog_6_method_2_code 13 = .ok (.iconst (-1), 1) := by decide +kernel
theorem dd_pr_of_14 : decode prog_6_method_2_code 14 = .ok (.goto 11, 3) := by decide +kernel
theorem dd_pr_of_17 : decode prog_6_method_2_code 17 = .ok (.aload_n 0, 1) := by decide +kernel
theorem dd_pr_of_18 : decode prog_6_method_2_code 18 = .ok (.getfield 9, 3) := by decide +kernel
theorem dd_pr_of_21 : decode prog_6_method_2_code 21 = .ok (.iload_n 1, 1) := by decide +kernel
theorem dd_pr_of_22 : decode prog_6_method_2_code 22 = .ok (.iconst 1, 1) := by decide +kernel
theorem dd_pr_of_23 : decode prog_6_method_2_code 23 = .ok (.isub, 1) := by decide +kernel
theorem dd_pr_of_24 : decode prog_6_method_2_code 24 = .ok (.iaload, 1) := by decide +kernel
theorem dd_pr_of_25 : decode prog_6_method_2_code 25 = .ok (.ireturn, 1) := by decide +kernel
theorem dd_dk_openSupply_0 : decode prog_3_method_2_code 0 = .ok (.aload_n 0, 1) := by decide +kernel
theorem dd_dk_openSupply_1 : decode prog_3_method_2_code 1 = .ok (.getfield 21, 3) := by decide +kernel
theorem dd_dk_openSupply_4 : decode prog_3_method_2_code 4 = .ok (.getfield 44, 3) := by decide +kernel
theorem dd_dk_openSupply_7 : decode prog_3_method_2_code 7 = .ok (.iconst 1, 1) := by decide +kernel
theorem dd_dk_openSupply_8 : decode prog_3_method_2_code 8 = .ok (.iadd, 1) := by decide +kernel
theorem dd_dk_openSupply_9 : decode prog_3_method_2_code 9 = .ok (.ireturn, 1) := by decide +kernel
theorem dd_ak_begin_0 : decode prog_2_method_4_code 0 = .ok (.aload_n 0, 1) := by decide +kernel
theorem dd_ak_begin_1 : decode prog_2_method_4_code 1 = .ok (.invokevirtual 9, 3) := by decide +kernel
theorem dd_ak_begin_4 : decode prog_2_method_4_code 4 = .ok (.aload_n 0, 1) := by decide +kernel
theorem dd_ak_begin_5 : decode prog_2_method_4_code 5 = .ok (.iload_n 1, 1) := by decide +kernel
theorem dd_ak_begin_6 : decode prog_2_method_4_code 6 = .ok (.putfield 18, 3) := by decide +kernel
theorem dd_ak_begin_9 : decode prog_2_method_4_code 9 = .ok (.aload_n 0, 1) := by decide +kernel
theorem dd_ak_begin_10 : decode prog_2_method_4_code 10 = .ok (.iload_n 2, 1) := by decide +kernel
theorem dd_ak_begin_11 : decode prog_2_method_4_code 11 = .ok (.putfield 21, 3) := by decide +kernel
theorem dd_ak_begin_14 : decode prog_2_method_4_code 14 = .ok (.return_, 1) := by decide +kernel
theorem dd_dk_nextNumber_0 : decode prog_3_method_6_code 0 = .ok (.aload_n 0, 1) := by decide +kernel
theorem dd_dk_nextNumber_1 : decode prog_3_method_6_code 1 = .ok (.getfield 41, 3) := by decide +kernel
theorem dd_dk_nextNumber_4 : decode prog_3_method_6_code 4 = .ok (.aload_n 0, 1) := by decide +kernel
theorem dd_dk_nextNumber_5 : decode prog_3_method_6_code 5 = .ok (.getfield 32, 3) := by decide +kernel
theorem dd_dk_nextNumber_8 : decode prog_3_method_6_code 8 = .ok (.aload_n 0, 1) := by decide +kernel
theorem dd_dk_nextNumber_9 : decode prog_3_method_6_code 9 = .ok (.getfield 28, 3) := by decide +kernel
theorem dd_dk_nextNumber_12 : decode prog_3_method_6_code 12 = .ok (.getfield 61, 3) := by decide +kernel
theorem dd_dk_nextNumber_15 : decode prog_3_method_6_code 15 = .ok (.invokestatic 64, 3) := by decide +kernel
theorem dd_dk_nextNumber_18 : decode prog_3_method_6_code 18 = .ok (.invokestatic 64, 3) := by decide +kernel
theorem dd_dk_nextNumber_21 : decode prog_3_method_6_code 21 = .ok (.istore_n 1, 1) := by decide +kernel
theorem dd_dk_nextNumber_22 : decode prog_3_method_6_code 22 = .ok (.iconst 1, 1) := by decide +kernel
theorem dd_dk_nextNumber_23 : decode prog_3_method_6_code 23 = .ok (.iload_n 1, 1) := by decide +kernel
theorem dd_dk_nextNumber_24 : decode prog_3_method_6_code 24 = .ok (.aload_n 0, 1) := by decide +kernel
theorem dd_dk_nextNumber_25 : decode prog_3_method_6_code 25 = .ok (.getfield 9, 3) := by decide +kernel
theorem dd_dk_nextNumber_28 : decode prog_3_method_6_code 28 = .ok (.isub, 1) := by decide +kernel
theorem dd_dk_nextNumber_29 : decode prog_3_method_6_code 29 = .ok (.bipush 25, 2) := by decide +kernel
theorem dd_dk_nextNumber_31 : decode prog_3_method_6_code 31 = .ok (.invokestatic 70, 3) := by decide +kernel
theorem dd_dk_nextNumber_34 : decode prog_3_method_6_code 34 = .ok (.iconst 1, 1) := by decide +kernel
theorem dd_dk_nextNumber_35 : decode prog_3_method_6_code 35 = .ok (.iadd, 1) := by decide +kernel
theorem dd_dk_nextNumber_36 : decode prog_3_method_6_code 36 = .ok (.invokestatic 64, 3) := by decide +kernel
theorem dd_dk_nextNumber_39 : decode prog_3_method_6_code 39 = .ok (.istore_n 2, 1) := by decide +kernel
theorem dd_dk_nextNumber_40 : decode prog_3_method_6_code 40 = .ok (.iload_n 2, 1) := by decide +kernel
theorem dd_dk_nextNumber_41 : decode prog_3_method_6_code 41 = .ok (.sipush 1000, 3) := by decide +kernel
theorem dd_dk_nextNumber_44 : decode prog_3_method_6_code 44 = .ok (.if_icmp .le 7, 3) := by decide +kernel
theorem dd_dk_nextNumber_47 : decode prog_3_method_6_code 47 = .ok (.iconst 0, 1) := by decide +kernel
theorem dd_dk_nextNumber_48 : decode prog_3_method_6_code 48 = .ok (.goto 12, 3) := by decide +kernel
theorem dd_dk_nextNumber_51 : decode prog_3_method_6_code 51 = .ok (.iload_n 2, 1) := by decide +kernel
theorem dd_dk_nextNumber_52 : decode prog_3_method_6_code 52 = .ok (.bipush 25, 2) := by decide +kernel
theorem dd_dk_nextNumber_54 : decode prog_3_method_6_code 54 = .ok (.imul, 1) := by decide +kernel
theorem dd_dk_nextNumber_55 : decode prog_3_method_6_code 55 = .ok (.aload_n 0, 1) := by decide +kernel
theorem dd_dk_nextNumber_56 : decode prog_3_method_6_code 56 = .ok (.getfield 9, 3) := by decide +kernel
theorem dd_dk_nextNumber_59 : decode prog_3_method_6_code 59 = .ok (.iadd, 1) := by decide +kernel
theorem dd_dk_nextNumber_60 : decode prog_3_method_6_code 60 = .ok (.ireturn, 1) := by decide +kernel
theorem dd_jm_max_0 : decode prog_14_method_65_code 0 = .ok (.iload_n 0, 1) := by decide +kernel
theorem dd_jm_max_1 : decode prog_14_method_65_code 1 = .ok (.iload_n 1, 1) := by decide +kernel
theorem dd_jm_max_2 : decode prog_14_method_65_code 2 = .ok (.if_icmp .lt 7, 3) := by decide +kernel
theorem dd_jm_max_5 : decode prog_14_method_65_code 5 = .ok (.iload_n 0, 1) := by decide +kernel
theorem dd_jm_max_6 : decode prog_14_method_65_code 6 = .ok (.goto 4, 3) := by decide +kernel
theorem dd_jm_max_9 : decode prog_14_method_65_code 9 = .ok (.iload_n 1, 1) := by decide +kernel
theorem dd_jm_max_10 : decode prog_14_method_65_code 10 = .ok (.ireturn, 1) := by decide +kernel
theorem dd_jm_floorDiv_0 : decode prog_14_method_47_code 0 = .ok (.iload_n 0, 1) := by decide +kernel
theorem dd_jm_floorDiv_1 : decode prog_14_method_47_code 1 = .ok (.iload_n 1, 1) := by decide +kernel
theorem dd_jm_floorDiv_2 : decode prog_14_method_47_code 2 = .ok (.idiv, 1) := by decide +kernel
theorem dd_jm_floorDiv_3 : decode prog_14_method_47_code 3 = .ok (.istore_n 2, 1) := by decide +kernel
theorem dd_jm_floorDiv_4 : decode prog_14_method_47_code 4 = .ok (.iload_n 0, 1) := by decide +kernel
theorem dd_jm_floorDiv_5 : decode prog_14_method_47_code 5 = .ok (.iload_n 1, 1) := by decide +kernel
theorem dd_jm_floorDiv_6 : decode prog_14_method_47_code 6 = .ok (.ixor, 1) := by decide +kernel
theorem dd_jm_floorDiv_7 : decode prog_14_method_47_code 7 = .ok (.ifCond .ge 14, 3) := by decide +kernel
theorem dd_jm_floorDiv_10 : decode prog_14_method_47_code 10 = .ok (.iload_n 2, 1) := by decide +kernel
theorem dd_jm_floorDiv_11 : decode prog_14_method_47_code 11 = .ok (.iload_n 1, 1) := by decide +kernel
theorem dd_jm_floorDiv_12 : decode prog_14_method_47_code 12 = .ok (.imul, 1) := by decide +kernel
theorem dd_jm_floorDiv_13 : decode prog_14_method_47_code 13 = .ok (.iload_n 0, 1) := by decide +kernel
theorem dd_jm_floorDiv_14 : decode prog_14_method_47_code 14 = .ok (.if_icmp .eq 7, 3) := by decide +kernel
theorem dd_jm_floorDiv_17 : decode prog_14_method_47_code 17 = .ok (.iload_n 2, 1) := by decide +kernel
theorem dd_jm_floorDiv_18 : decode prog_14_method_47_code 18 = .ok (.iconst 1, 1) := by decide +kernel
theorem dd_jm_floorDiv_19 : decode prog_14_method_47_code 19 = .ok (.isub, 1) := by decide +kernel
theorem dd_jm_floorDiv_20 : decode prog_14_method_47_code 20 = .ok (.ireturn, 1) := by decide +kernel
theorem dd_jm_floorDiv_21 : decode prog_14_method_47_code 21 = .ok (.iload_n 2, 1) := by decide +kernel
theorem dd_jm_floorDiv_22 : decode prog_14_method_47_code 22 = .ok (.ireturn, 1) := by decide +kernel
theorem dd_ak_beginRound_0 : decode prog_2_method_5_code 0 = .ok (.aload_n 0, 1) := by decide +kernel
theorem dd_ak_beginRound_1 : decode prog_2_method_5_code 1 = .ok (.iload_n 1, 1) := by decide +kernel
theorem dd_ak_beginRound_2 : decode prog_2_method_5_code 2 = .ok (.putfield 24, 3) := by decide +kernel
theorem dd_ak_beginRound_5 : decode prog_2_method_5_code 5 = .ok (.aload_n 0, 1) := by decide +kernel
theorem dd_ak_beginRound_6 : decode prog_2_method_5_code 6 = .ok (.iconst 1, 1) := by decide +kernel
theorem dd_ak_beginRound_7 : decode prog_2_method_5_code 7 = .ok (.putfield 14, 3) := by decide +kernel
theorem dd_ak_beginRound_10 : decode prog_2_method_5_code 10 = .ok (.aload_n 0, 1) := by decide +kernel
theorem dd_ak_beginRound_11 : decode prog_2_method_5_code 11 = .ok (.invokevirtual 30, 3) := by decide +kernel
theorem dd_ak_beginRound_14 : decode prog_2_method_5_code 14 = .ok (.return_, 1) := by decide +kernel
theorem dd_lt_write_0 : decode prog_4_method_2_code 0 = .ok (.aload_n 0, 1) := by decide +kernel
theorem dd_lt_write_1 : decode prog_4_method_2_code 1 = .ok (.iload_n 1, 1) := by decide +kernel
theorem dd_lt_write_2 : decode prog_4_method_2_code 2 = .ok (.putfield 22, 3) := by decide +kernel
theorem dd_lt_write_5 : decode prog_4_method_2_code 5 = .ok (.aload_n 0, 1) := by decide +kernel
theorem dd_lt_write_6 : decode prog_4_method_2_code 6 = .ok (.iload_n 2, 1) := by decide +kernel
theorem dd_lt_write_7 : decode prog_4_method_2_code 7 = .ok (.putfield 25, 3) := by decide +kernel
theorem dd_lt_write_10 : decode prog_4_method_2_code 10 = .ok (.aload_n 0, 1) := by decide +kernel
theorem dd_lt_write_11 : decode prog_4_method_2_code 11 = .ok (.iload_n 3, 1) := by decide +kernel
theorem dd_lt_write_12 : decode prog_4_method_2_code 12 = .ok (.putfield 28, 3) := by decide +kernel
theorem dd_lt_write_15 : decode prog_4_method_2_code 15 = .ok (.aload_n 0, 1) := by decide +kernel
theorem dd_lt_write_16 : decode prog_4_method_2_code 16 = .ok (.iload 4, 2) := by decide +kernel
theorem dd_lt_write_18 : decode prog_4_method_2_code 18 = .ok (.putfield 31, 3) := by decide +kernel
theorem dd_lt_write_21 : decode prog_4_method_2_code 21 = .ok (.aload_n 0, 1) := by decide +kernel
theorem dd_lt_write_22 : decode prog_4_method_2_code 22 = .ok (.iload 5, 2) := by decide +kernel
theorem dd_lt_write_24 : decode prog_4_method_2_code 24 = .ok (.putfield 34, 3) := by decide +kernel
theorem dd_lt_write_27 : decode prog_4_method_2_code 27 = .ok (.aload_n 0, 1) := by decide +kernel
theorem dd_lt_write_28 : decode prog_4_method_2_code 28 = .ok (.iconst 0, 1) := by decide +kernel
theorem dd_lt_write_29 : decode prog_4_method_2_code 29 = .ok (.putfield 37, 3) := by decide +kernel
theorem dd_lt_write_32 : decode prog_4_method_2_code 32 = .ok (.aload_n 0, 1) := by decide +kernel
theorem dd_lt_write_33 : decode prog_4_method_2_code 33 = .ok (.iconst (-1), 1) := by decide +kernel
theorem dd_lt_write_34 : decode prog_4_method_2_code 34 = .ok (.putfield 18, 3) := by decide +kernel
theorem dd_lt_write_37 : decode prog_4_method_2_code 37 = .ok (.aload_n 0, 1) := by decide +kernel
theorem dd_lt_write_38 : decode prog_4_method_2_code 38 = .ok (.getfield 12, 3) := by decide +kernel
theorem dd_lt_write_41 : decode prog_4_method_2_code 41 = .ok (.aload 6, 2) := by decide +kernel
theorem dd_lt_write_43 : decode prog_4_method_2_code 43 = .ok (.invokevirtual 40, 3) := by decide +kernel
theorem dd_lt_write_46 : decode prog_4_method_2_code 46 = .ok (.return_, 1) := by decide +kernel
theorem dd_pr_become_0 : decode prog_6_method_6_code 0 = .ok (.aload_n 0, 1) := by decide +kernel
theorem dd_pr_become_1 : decode prog_6_method_6_code 1 = .ok (.aload_n 1, 1) := by decide +kernel
theorem dd_pr_become_2 : decode prog_6_method_6_code 2 = .ok (.getfield 15, 3) := by decide +kernel
theorem dd_pr_become_5 : decode prog_6_method_6_code 5 = .ok (.putfield 15, 3) := by decide +kernel
theorem dd_pr_become_8 : decode prog_6_method_6_code 8 = .ok (.iconst 0, 1) := by decide +kernel
theorem dd_pr_become_9 : decode prog_6_method_6_code 9 = .ok (.istore_n 2, 1) := by decide +kernel
theorem dd_pr_become_10 : decode prog_6_method_6_code 10 = .ok (.iload_n 2, 1) := by decide +kernel
theorem dd_pr_become_11 : decode prog_6_method_6_code 11 = .ok (.aload_n 0, 1) := by decide +kernel
theorem dd_pr_become_12 : decode prog_6_method_6_code 12 = .ok (.getfield 15, 3) := by decide +kernel
theorem dd_pr_become_15 : decode prog_6_method_6_code 15 = .ok (.if_icmp .ge 27, 3) := by decide +kernel
theorem dd_pr_become_18 : decode prog_6_method_6_code 18 = .ok (.iload_n 2, 1) := by decide +kernel
theorem dd_pr_become_19 : decode prog_6_method_6_code 19 = .ok (.bipush 12, 2) := by decide +kernel
theorem dd_pr_become_21 : decode prog_6_method_6_code 21 = .ok (.if_icmp .ge 21, 3) := by decide +kernel
theorem dd_pr_become_24 : decode prog_6_method_6_code 24 = .ok (.aload_n 0, 1) := by decide +kernel
theorem dd_pr_become_25 : decode prog_6_method_6_code 25 = .ok (.getfield 9, 3) := by decide +kernel
theorem dd_pr_become_28 : decode prog_6_method_6_code 28 = .ok (.iload_n 2, 1) := by decide +kernel
theorem dd_pr_become_29 : decode prog_6_method_6_code 29 = .ok (.aload_n 1, 1) := by decide +kernel
theorem dd_pr_become_30 : decode prog_6_method_6_code 30 = .ok (.getfield 9, 3) := by decide +kernel
theorem dd_pr_become_33 : decode prog_6_method_6_code 33 = .ok (.iload_n 2, 1) := by decide +kernel
theorem dd_pr_become_34 : decode prog_6_method_6_code 34 = .ok (.iaload, 1) := by decide +kernel
theorem dd_pr_become_35 : decode prog_6_method_6_code 35 = .ok (.iastore, 1) := by decide +kernel
theorem dd_pr_become_36 : decode prog_6_method_6_code 36 = .ok (.iinc 2 1, 3) := by decide +kernel
theorem dd_pr_become_39 : decode prog_6_method_6_code 39 = .ok (.goto (-29), 3) := by decide +kernel
theorem dd_pr_become_42 : decode prog_6_method_6_code 42 = .ok (.return_, 1) := by decide +kernel
theorem dd_lr_send_0 : decode prog_5_method_6_code 0 = .ok (.aload_n 0, 1) := by decide +kernel
theorem dd_lr_send_1 : decode prog_5_method_6_code 1 = .ok (.dup, 1) := by decide +kernel
theorem dd_lr_send_2 : decode prog_5_method_6_code 2 = .ok (.getfield 44, 3) := by decide +kernel
theorem dd_lr_send_5 : decode prog_5_method_6_code 5 = .ok (.iconst 1, 1) := by decide +kernel
theorem dd_lr_send_6 : decode prog_5_method_6_code 6 = .ok (.iadd, 1) := by decide +kernel
theorem dd_lr_send_7 : decode prog_5_method_6_code 7 = .ok (.putfield 44, 3) := by decide +kernel
theorem dd_lr_send_10 : decode prog_5_method_6_code 10 = .ok (.aload_n 0, 1) := by decide +kernel
theorem dd_lr_send_11 : decode prog_5_method_6_code 11 = .ok (.getfield 37, 3) := by decide +kernel
theorem dd_lr_send_14 : decode prog_5_method_6_code 14 = .ok (.bipush 100, 2) := by decide +kernel
theorem dd_lr_send_16 : decode prog_5_method_6_code 16 = .ok (.if_icmp .lt 15, 3) := by decide +kernel
theorem dd_lr_send_19 : decode prog_5_method_6_code 19 = .ok (.aload_n 0, 1) := by decide +kernel
theorem dd_lr_send_20 : decode prog_5_method_6_code 20 = .ok (.dup, 1) := by decide +kernel
theorem dd_lr_send_21 : decode prog_5_method_6_code 21 = .ok (.getfield 47, 3) := by decide +kernel
theorem dd_lr_send_24 : decode prog_5_method_6_code 24 = .ok (.iconst 1, 1) := by decide +kernel
theorem dd_lr_send_25 : decode prog_5_method_6_code 25 = .ok (.iadd, 1) := by decide +kernel
theorem dd_lr_send_26 : decode prog_5_method_6_code 26 = .ok (.putfield 47, 3) := by decide +kernel
theorem dd_lr_send_29 : decode prog_5_method_6_code 29 = .ok (.iconst 0, 1) := by decide +kernel
theorem dd_lr_send_30 : decode prog_5_method_6_code 30 = .ok (.ireturn, 1) := by decide +kernel
theorem dd_lr_send_31 : decode prog_5_method_6_code 31 = .ok (.aload_n 0, 1) := by decide +kernel
theorem dd_lr_send_32 : decode prog_5_method_6_code 32 = .ok (.getfield 18, 3) := by decide +kernel
theorem dd_lr_send_35 : decode prog_5_method_6_code 35 = .ok (.iload_n 1, 1) := by decide +kernel
theorem dd_lr_send_36 : decode prog_5_method_6_code 36 = .ok (.putfield 50, 3) := by decide +kernel
theorem dd_lr_send_39 : decode prog_5_method_6_code 39 = .ok (.aload_n 0, 1) := by decide +kernel
theorem dd_lr_send_40 : decode prog_5_method_6_code 40 = .ok (.getfield 11, 3) := by decide +kernel
theorem dd_lr_send_43 : decode prog_5_method_6_code 43 = .ok (.aload_n 0, 1) := by decide +kernel
theorem dd_lr_send_44 : decode prog_5_method_6_code 44 = .ok (.aload_n 0, 1) := by decide +kernel
theorem dd_lr_send_45 : decode prog_5_method_6_code 45 = .ok (.getfield 37, 3) := by decide +kernel
theorem dd_lr_send_48 : decode prog_5_method_6_code 48 = .ok (.invokevirtual 29, 3) := by decide +kernel
theorem dd_lr_send_51 : decode prog_5_method_6_code 51 = .ok (.aaload, 1) := by decide +kernel
theorem dd_lr_send_52 : decode prog_5_method_6_code 52 = .ok (.aload_n 0, 1) := by decide +kernel
theorem dd_lr_send_53 : decode prog_5_method_6_code 53 = .ok (.getfield 18, 3) := by decide +kernel
theorem dd_lr_send_56 : decode prog_5_method_6_code 56 = .ok (.invokevirtual 40, 3) := by decide +kernel
theorem dd_lr_send_59 : decode prog_5_method_6_code 59 = .ok (.aload_n 0, 1) := by decide +kernel
theorem dd_lr_send_60 : decode prog_5_method_6_code 60 = .ok (.dup, 1) := by decide +kernel
theorem dd_lr_send_61 : decode prog_5_method_6_code 61 = .ok (.getfield 37, 3) := by decide +kernel
theorem dd_lr_send_64 : decode prog_5_method_6_code 64 = .ok (.iconst 1, 1) := by decide +kernel
theorem dd_lr_send_65 : decode prog_5_method_6_code 65 = .ok (.iadd, 1) := by decide +kernel
theorem dd_lr_send_66 : decode prog_5_method_6_code 66 = .ok (.putfield 37, 3) := by decide +kernel
theorem dd_lr_send_69 : decode prog_5_method_6_code 69 = .ok (.iconst 1, 1) := by decide +kernel
theorem dd_lr_send_70 : decode prog_5_method_6_code 70 = .ok (.ireturn, 1) := by decide +kernel
theorem dd_lr_place_0 : decode prog_5_method_2_code 0 = .ok (.aload_n 0, 1) := by decide +kernel
theorem dd_lr_place_1 : decode prog_5_method_2_code 1 = .ok (.getfield 25, 3) := by decide +kernel
theorem dd_lr_place_4 : decode prog_5_method_2_code 4 = .ok (.iload_n 1, 1) := by decide +kernel
theorem dd_lr_place_5 : decode prog_5_method_2_code 5 = .ok (.iadd, 1) := by decide +kernel
theorem dd_lr_place_6 : decode prog_5_method_2_code 6 = .ok (.bipush 100, 2) := by decide +kernel
theorem dd_lr_place_8 : decode prog_5_method_2_code 8 = .ok (.irem, 1) := by decide +kernel
theorem dd_lr_place_9 : decode prog_5_method_2_code 9 = .ok (.ireturn, 1) := by decide +kernel
theorem dd_lt_become_0 : decode prog_4_method_3_code 0 = .ok (.aload_n 0, 1) := by decide +kernel
theorem dd_lt_become_1 : decode prog_4_method_3_code 1 = .ok (.aload_n 1, 1) := by decide +kernel
theorem dd_lt_become_2 : decode prog_4_method_3_code 2 = .ok (.getfield 22, 3) := by decide +kernel
theorem dd_lt_become_5 : decode prog_4_method_3_code 5 = .ok (.putfield 22, 3) := by decide +kernel
theorem dd_lt_become_8 : decode prog_4_method_3_code 8 = .ok (.aload_n 0, 1) := by decide +kernel
theorem dd_lt_become_9 : decode prog_4_method_3_code 9 = .ok (.aload_n 1, 1) := by decide +kernel
theorem dd_lt_become_10 : decode prog_4_method_3_code 10 = .ok (.getfield 25, 3) := by decide +kernel
theorem dd_lt_become_13 : decode prog_4_method_3_code 13 = .ok (.putfield 25, 3) := by decide +kernel
theorem dd_lt_become_16 : decode prog_4_method_3_code 16 = .ok (.aload_n 0, 1) := by decide +kernel
theorem dd_lt_become_17 : decode prog_4_method_3_code 17 = .ok (.aload_n 1, 1) := by decide +kernel
theorem dd_lt_become_18 : decode prog_4_method_3_code 18 = .ok (.getfield 44, 3) := by decide +kernel
theorem dd_lt_become_21 : decode prog_4_method_3_code 21 = .ok (.putfield 44, 3) := by decide +kernel
theorem dd_lt_become_24 : decode prog_4_method_3_code 24 = .ok (.aload_n 0, 1) := by decide +kernel
theorem dd_lt_become_25 : decode prog_4_method_3_code 25 = .ok (.aload_n 1, 1) := by decide +kernel
theorem dd_lt_become_26 : decode prog_4_method_3_code 26 = .ok (.getfield 28, 3) := by decide +kernel
theorem dd_lt_become_29 : decode prog_4_method_3_code 29 = .ok (.putfield 28, 3) := by decide +kernel
theorem dd_lt_become_32 : decode prog_4_method_3_code 32 = .ok (.aload_n 0, 1) := by decide +kernel
theorem dd_lt_become_33 : decode prog_4_method_3_code 33 = .ok (.aload_n 1, 1) := by decide +kernel
theorem dd_lt_become_34 : decode prog_4_method_3_code 34 = .ok (.getfield 31, 3) := by decide +kernel
theorem dd_lt_become_37 : decode prog_4_method_3_code 37 = .ok (.putfield 31, 3) := by decide +kernel
theorem dd_lt_become_40 : decode prog_4_method_3_code 40 = .ok (.aload_n 0, 1) := by decide +kernel
theorem dd_lt_become_41 : decode prog_4_method_3_code 41 = .ok (.aload_n 1, 1) := by decide +kernel
theorem dd_lt_become_42 : decode prog_4_method_3_code 42 = .ok (.getfield 34, 3) := by decide +kernel
theorem dd_lt_become_45 : decode prog_4_method_3_code 45 = .ok (.putfield 34, 3) := by decide +kernel
theorem dd_lt_become_48 : decode prog_4_method_3_code 48 = .ok (.aload_n 0, 1) := by decide +kernel
theorem dd_lt_become_49 : decode prog_4_method_3_code 49 = .ok (.aload_n 1, 1) := by decide +kernel
theorem dd_lt_become_50 : decode prog_4_method_3_code 50 = .ok (.getfield 37, 3) := by decide +kernel
theorem dd_lt_become_53 : decode prog_4_method_3_code 53 = .ok (.putfield 37, 3) := by decide +kernel
theorem dd_lt_become_56 : decode prog_4_method_3_code 56 = .ok (.aload_n 0, 1) := by decide +kernel
theorem dd_lt_become_57 : decode prog_4_method_3_code 57 = .ok (.aload_n 1, 1) := by decide +kernel
theorem dd_lt_become_58 : decode prog_4_method_3_code 58 = .ok (.getfield 18, 3) := by decide +kernel
theorem dd_lt_become_61 : decode prog_4_method_3_code 61 = .ok (.putfield 18, 3) := by decide +kernel
theorem dd_lt_become_64 : decode prog_4_method_3_code 64 = .ok (.aload_n 0, 1) := by decide +kernel
theorem dd_lt_become_65 : decode prog_4_method_3_code 65 = .ok (.getfield 12, 3) := by decide +kernel
theorem dd_lt_become_68 : decode prog_4_method_3_code 68 = .ok (.aload_n 1, 1) := by decide +kernel
theorem dd_lt_become_69 : decode prog_4_method_3_code 69 = .ok (.getfield 12, 3) := by decide +kernel
theorem dd_lt_become_72 : decode prog_4_method_3_code 72 = .ok (.invokevirtual 40, 3) := by decide +kernel
theorem dd_lt_become_75 : decode prog_4_method_3_code 75 = .ok (.return_, 1) := by decide +kernel
theorem dd_ak_runs_0 : decode prog_2_method_2_code 0 = .ok (.aload_n 0, 1) := by decide +kernel
theorem dd_ak_runs_1 : decode prog_2_method_2_code 1 = .ok (.getfield 14, 3) := by decide +kernel
theorem dd_ak_runs_4 : decode prog_2_method_2_code 4 = .ok (.ifCond .eq 7, 3) := by decide +kernel
theorem dd_ak_runs_7 : decode prog_2_method_2_code 7 = .ok (.iconst 1, 1) := by decide +kernel
theorem dd_ak_runs_8 : decode prog_2_method_2_code 8 = .ok (.goto 4, 3) := by decide +kernel
theorem dd_ak_runs_11 : decode prog_2_method_2_code 11 = .ok (.iconst 0, 1) := by decide +kernel
theorem dd_ak_runs_12 : decode prog_2_method_2_code 12 = .ok (.ireturn, 1) := by decide +kernel
theorem dd_lr_take_0 : decode prog_5_method_4_code 0 = .ok (.aload_n 0, 1) := by decide +kernel
theorem dd_lr_take_1 : decode prog_5_method_4_code 1 = .ok (.iload_n 1, 1) := by decide +kernel
theorem dd_lr_take_2 : decode prog_5_method_4_code 2 = .ok (.invokevirtual 33, 3) := by decide +kernel
theorem dd_lr_take_5 : decode prog_5_method_4_code 5 = .ok (.astore_n 2, 1) := by decide +kernel
theorem dd_lr_take_6 : decode prog_5_method_4_code 6 = .ok (.iload_n 1, 1) := by decide +kernel
theorem dd_lr_take_7 : decode prog_5_method_4_code 7 = .ok (.istore_n 3, 1) := by decide +kernel
theorem dd_lr_take_8 : decode prog_5_method_4_code 8 = .ok (.iload_n 3, 1) := by decide +kernel
theorem dd_lr_take_9 : decode prog_5_method_4_code 9 = .ok (.ifCond .le 31, 3) := by decide +kernel
theorem dd_lr_take_12 : decode prog_5_method_4_code 12 = .ok (.aload_n 0, 1) := by decide +kernel
theorem dd_lr_take_13 : decode prog_5_method_4_code 13 = .ok (.getfield 11, 3) := by decide +kernel
theorem dd_lr_take_16 : decode prog_5_method_4_code 16 = .ok (.aload_n 0, 1) := by decide +kernel
theorem dd_lr_take_17 : decode prog_5_method_4_code 17 = .ok (.iload_n 3, 1) := by decide +kernel
theorem dd_lr_take_18 : decode prog_5_method_4_code 18 = .ok (.invokevirtual 29, 3) := by decide +kernel
theorem dd_lr_take_21 : decode prog_5_method_4_code 21 = .ok (.aload_n 0, 1) := by decide +kernel
theorem dd_lr_take_22 : decode prog_5_method_4_code 22 = .ok (.getfield 11, 3) := by decide +kernel
theorem dd_lr_take_25 : decode prog_5_method_4_code 25 = .ok (.aload_n 0, 1) := by decide +kernel
theorem dd_lr_take_26 : decode prog_5_method_4_code 26 = .ok (.iload_n 3, 1) := by decide +kernel
theorem dd_lr_take_27 : decode prog_5_method_4_code 27 = .ok (.iconst 1, 1) := by decide +kernel
theorem dd_lr_take_28 : decode prog_5_method_4_code 28 = .ok (.isub, 1) := by decide +kernel
theorem dd_lr_take_29 : decode prog_5_method_4_code 29 = .ok (.invokevirtual 29, 3) := by decide +kernel
theorem dd_lr_take_32 : decode prog_5_method_4_code 32 = .ok (.aaload, 1) := by decide +kernel
theorem dd_lr_take_33 : decode prog_5_method_4_code 33 = .ok (.aastore, 1) := by decide +kernel
theorem dd_lr_take_34 : decode prog_5_method_4_code 34 = .ok (.iinc 3 (-1), 3) := by decide +kernel
theorem dd_lr_take_37 : decode prog_5_method_4_code 37 = .ok (.goto (-29), 3) := by decide +kernel
theorem dd_lr_take_40 : decode prog_5_method_4_code 40 = .ok (.aload_n 0, 1) := by decide +kernel
theorem dd_lr_take_41 : decode prog_5_method_4_code 41 = .ok (.getfield 11, 3) := by decide +kernel
theorem dd_lr_take_44 : decode prog_5_method_4_code 44 = .ok (.aload_n 0, 1) := by decide +kernel
theorem dd_lr_take_45 : decode prog_5_method_4_code 45 = .ok (.getfield 25, 3) := by decide +kernel
theorem dd_lr_take_48 : decode prog_5_method_4_code 48 = .ok (.aload_n 0, 1) := by decide +kernel
theorem dd_lr_take_49 : decode prog_5_method_4_code 49 = .ok (.getfield 22, 3) := by decide +kernel
theorem dd_lr_take_52 : decode prog_5_method_4_code 52 = .ok (.aastore, 1) := by decide +kernel
theorem dd_lr_take_53 : decode prog_5_method_4_code 53 = .ok (.aload_n 0, 1) := by decide +kernel
theorem dd_lr_take_54 : decode prog_5_method_4_code 54 = .ok (.aload_n 2, 1) := by decide +kernel
theorem dd_lr_take_55 : decode prog_5_method_4_code 55 = .ok (.putfield 22, 3) := by decide +kernel
theorem dd_lr_take_58 : decode prog_5_method_4_code 58 = .ok (.aload_n 0, 1) := by decide +kernel
theorem dd_lr_take_59 : decode prog_5_method_4_code 59 = .ok (.aload_n 0, 1) := by decide +kernel
theorem dd_lr_take_60 : decode prog_5_method_4_code 60 = .ok (.iconst 1, 1) := by decide +kernel
theorem dd_lr_take_61 : decode prog_5_method_4_code 61 = .ok (.invokevirtual 29, 3) := by decide +kernel
theorem dd_lr_take_64 : decode prog_5_method_4_code 64 = .ok (.putfield 25, 3) := by decide +kernel
theorem dd_lr_take_67 : decode prog_5_method_4_code 67 = .ok (.aload_n 0, 1) := by decide +kernel
theorem dd_lr_take_68 : decode prog_5_method_4_code 68 = .ok (.dup, 1) := by decide +kernel
theorem dd_lr_take_69 : decode prog_5_method_4_code 69 = .ok (.getfield 37, 3) := by decide +kernel
theorem dd_lr_take_72 : decode prog_5_method_4_code 72 = .ok (.iconst 1, 1) := by decide +kernel
theorem dd_lr_take_73 : decode prog_5_method_4_code 73 = .ok (.isub, 1) := by decide +kernel
theorem dd_lr_take_74 : decode prog_5_method_4_code 74 = .ok (.putfield 37, 3) := by decide +kernel
theorem dd_lr_take_77 : decode prog_5_method_4_code 77 = .ok (.aload_n 2, 1) := by decide +kernel
theorem dd_lr_take_78 : decode prog_5_method_4_code 78 = .ok (.areturn, 1) := by decide +kernel
theorem dd_lr_at_0 : decode prog_5_method_3_code 0 = .ok (.aload_n 0, 1) := by decide +kernel
theorem dd_lr_at_1 : decode prog_5_method_3_code 1 = .ok (.getfield 11, 3) := by decide +kernel
theorem dd_lr_at_4 : decode prog_5_method_3_code 4 = .ok (.aload_n 0, 1) := by decide +kernel
theorem dd_lr_at_5 : decode prog_5_method_3_code 5 = .ok (.iload_n 1, 1) := by decide +kernel
theorem dd_lr_at_6 : decode prog_5_method_3_code 6 = .ok (.invokevirtual 29, 3) := by decide +kernel
theorem dd_lr_at_9 : decode prog_5_method_3_code 9 = .ok (.aaload, 1) := by decide +kernel
theorem dd_lr_at_10 : decode prog_5_method_3_code 10 = .ok (.areturn, 1) := by decide +kernel
theorem dd_dk_learnAll_0 : decode prog_3_method_3_code 0 = .ok (.aload_n 1, 1) := by decide +kernel
theorem dd_dk_learnAll_1 : decode prog_3_method_3_code 1 = .ok (.getfield 44, 3) := by decide +kernel
theorem dd_dk_learnAll_4 : decode prog_3_method_3_code 4 = .ok (.aload_n 0, 1) := by decide +kernel
theorem dd_dk_learnAll_5 : decode prog_3_method_3_code 5 = .ok (.getfield 21, 3) := by decide +kernel
theorem dd_dk_learnAll_8 : decode prog_3_method_3_code 8 = .ok (.getfield 44, 3) := by decide +kernel
theorem dd_dk_learnAll_11 : decode prog_3_method_3_code 11 = .ok (.if_icmp .le 15, 3) := by decide +kernel
theorem dd_dk_learnAll_14 : decode prog_3_method_3_code 14 = .ok (.aload_n 0, 1) := by decide +kernel
theorem dd_dk_learnAll_15 : decode prog_3_method_3_code 15 = .ok (.getfield 21, 3) := by decide +kernel
theorem dd_dk_learnAll_18 : decode prog_3_method_3_code 18 = .ok (.aload_n 1, 1) := by decide +kernel
theorem dd_dk_learnAll_19 : decode prog_3_method_3_code 19 = .ok (.invokevirtual 47, 3) := by decide +kernel
theorem dd_dk_learnAll_22 : decode prog_3_method_3_code 22 = .ok (.aload_n 0, 1) := by decide +kernel
theorem dd_dk_learnAll_23 : decode prog_3_method_3_code 23 = .ok (.invokevirtual 51, 3) := by decide +kernel
theorem dd_dk_learnAll_26 : decode prog_3_method_3_code 26 = .ok (.return_, 1) := by decide +kernel
theorem dd_pr_addMissing_0 : decode prog_6_method_5_code 0 = .ok (.aload_n 0, 1) := by decide +kernel
theorem dd_pr_addMissing_1 : decode prog_6_method_5_code 1 = .ok (.getfield 15, 3) := by decide +kernel
theorem dd_pr_addMissing_4 : decode prog_6_method_5_code 4 = .ok (.iconst 1, 1) := by decide +kernel
theorem dd_pr_addMissing_5 : decode prog_6_method_5_code 5 = .ok (.iadd, 1) := by decide +kernel
theorem dd_pr_addMissing_6 : decode prog_6_method_5_code 6 = .ok (.istore_n 2, 1) := by decide +kernel
theorem dd_pr_addMissing_7 : decode prog_6_method_5_code 7 = .ok (.iload_n 2, 1) := by decide +kernel
theorem dd_pr_addMissing_8 : decode prog_6_method_5_code 8 = .ok (.aload_n 1, 1) := by decide +kernel
theorem dd_pr_addMissing_9 : decode prog_6_method_5_code 9 = .ok (.getfield 15, 3) := by decide +kernel
theorem dd_pr_addMissing_12 : decode prog_6_method_5_code 12 = .ok (.if_icmp .gt 18, 3) := by decide +kernel
theorem dd_pr_addMissing_15 : decode prog_6_method_5_code 15 = .ok (.aload_n 0, 1) := by decide +kernel
theorem dd_pr_addMissing_16 : decode prog_6_method_5_code 16 = .ok (.aload_n 1, 1) := by decide +kernel
theorem dd_pr_addMissing_17 : decode prog_6_method_5_code 17 = .ok (.iload_n 2, 1) := by decide +kernel
theorem dd_pr_addMissing_18 : decode prog_6_method_5_code 18 = .ok (.invokevirtual 19, 3) := by decide +kernel
theorem dd_pr_addMissing_21 : decode prog_6_method_5_code 21 = .ok (.invokevirtual 23, 3) := by decide +kernel
theorem dd_pr_addMissing_24 : decode prog_6_method_5_code 24 = .ok (.iinc 2 1, 3) := by decide +kernel
theorem dd_pr_addMissing_27 : decode prog_6_method_5_code 27 = .ok (.goto (-20), 3) := by decide +kernel
theorem dd_pr_addMissing_30 : decode prog_6_method_5_code 30 = .ok (.return_, 1) := by decide +kernel
theorem dd_pr_add_0 : decode prog_6_method_4_code 0 = .ok (.aload_n 0, 1) := by decide +kernel
theorem dd_pr_add_1 : decode prog_6_method_4_code 1 = .ok (.getfield 15, 3) := by decide +kernel
theorem dd_pr_add_4 : decode prog_6_method_4_code 4 = .ok (.bipush 12, 2) := by decide +kernel
theorem dd_pr_add_6 : decode prog_6_method_4_code 6 = .ok (.if_icmp .ge 23, 3) := by decide +kernel
theorem dd_pr_add_9 : decode prog_6_method_4_code 9 = .ok (.aload_n 0, 1) := by decide +kernel
theorem dd_pr_add_10 : decode prog_6_method_4_code 10 = .ok (.getfield 9, 3) := by decide +kernel
theorem dd_pr_add_13 : decode prog_6_method_4_code 13 = .ok (.aload_n 0, 1) := by decide +kernel
theorem dd_pr_add_14 : decode prog_6_method_4_code 14 = .ok (.getfield 15, 3) := by decide +kernel
theorem dd_pr_add_17 : decode prog_6_method_4_code 17 = .ok (.iload_n 1, 1) := by decide +kernel
theorem dd_pr_add_18 : decode prog_6_method_4_code 18 = .ok (.iastore, 1) := by decide +kernel
theorem dd_pr_add_19 : decode prog_6_method_4_code 19 = .ok (.aload_n 0, 1) := by decide +kernel
theorem dd_pr_add_20 : decode prog_6_method_4_code 20 = .ok (.dup, 1) := by decide +kernel
theorem dd_pr_add_21 : decode prog_6_method_4_code 21 = .ok (.getfield 15, 3) := by decide +kernel
theorem dd_pr_add_24 : decode prog_6_method_4_code 24 = .ok (.iconst 1, 1) := by decide +kernel
theorem dd_pr_add_25 : decode prog_6_method_4_code 25 = .ok (.iadd, 1) := by decide +kernel
theorem dd_pr_add_26 : decode prog_6_method_4_code 26 = .ok (.putfield 15, 3) := by decide +kernel
theorem dd_pr_add_29 : decode prog_6_method_4_code 29 = .ok (.return_, 1) := by decide +kernel
theorem dd_dk_openNext_0 : decode prog_3_method_5_code 0 = .ok (.aload_n 0, 1) := by decide +kernel
theorem dd_dk_openNext_1 : decode prog_3_method_5_code 1 = .ok (.iconst 0, 1) := by decide +kernel
theorem dd_dk_openNext_2 : decode prog_3_method_5_code 2 = .ok (.putfield 32, 3) := by decide +kernel
theorem dd_dk_openNext_5 : decode prog_3_method_5_code 5 = .ok (.aload_n 0, 1) := by decide +kernel
theorem dd_dk_openNext_6 : decode prog_3_method_5_code 6 = .ok (.iconst 0, 1) := by decide +kernel
theorem dd_dk_openNext_7 : decode prog_3_method_5_code 7 = .ok (.putfield 35, 3) := by decide +kernel
theorem dd_dk_openNext_10 : decode prog_3_method_5_code 10 = .ok (.aload_n 0, 1) := by decide +kernel
theorem dd_dk_openNext_11 : decode prog_3_method_5_code 11 = .ok (.iconst (-1), 1) := by decide +kernel
theorem dd_dk_openNext_12 : decode prog_3_method_5_code 12 = .ok (.putfield 38, 3) := by decide +kernel
theorem dd_dk_openNext_15 : decode prog_3_method_5_code 15 = .ok (.aload_n 0, 1) := by decide +kernel
theorem dd_dk_openNext_16 : decode prog_3_method_5_code 16 = .ok (.getfield 28, 3) := by decide +kernel
theorem dd_dk_openNext_19 : decode prog_3_method_5_code 19 = .ok (.invokevirtual 58, 3) := by decide +kernel
theorem dd_dk_openNext_22 : decode prog_3_method_5_code 22 = .ok (.return_, 1) := by decide +kernel
theorem dd_ak_waitsFor_0 : decode prog_2_method_8_code 0 = .ok (.aload_n 0, 1) := by decide +kernel
theorem dd_ak_waitsFor_1 : decode prog_2_method_8_code 1 = .ok (.getfield 14, 3) := by decide +kernel
theorem dd_ak_waitsFor_4 : decode prog_2_method_8_code 4 = .ok (.iload_n 2, 1) := by decide +kernel
theorem dd_ak_waitsFor_5 : decode prog_2_method_8_code 5 = .ok (.if_icmp .ne 29, 3) := by decide +kernel
theorem dd_ak_waitsFor_8 : decode prog_2_method_8_code 8 = .ok (.aload_n 1, 1) := by decide +kernel
theorem dd_ak_waitsFor_9 : decode prog_2_method_8_code 9 = .ok (.getfield 42, 3) := by decide +kernel
theorem dd_ak_waitsFor_12 : decode prog_2_method_8_code 12 = .ok (.aload_n 0, 1) := by decide +kernel
theorem dd_ak_waitsFor_13 : decode prog_2_method_8_code 13 = .ok (.getfield 18, 3) := by decide +kernel
theorem dd_ak_waitsFor_16 : decode prog_2_method_8_code 16 = .ok (.if_icmp .ne 18, 3) := by decide +kernel
theorem dd_ak_waitsFor_19 : decode prog_2_method_8_code 19 = .ok (.aload_n 1, 1) := by decide +kernel
theorem dd_ak_waitsFor_20 : decode prog_2_method_8_code 20 = .ok (.getfield 45, 3) := by decide +kernel
theorem dd_ak_waitsFor_23 : decode prog_2_method_8_code 23 = .ok (.aload_n 0, 1) := by decide +kernel
theorem dd_ak_waitsFor_24 : decode prog_2_method_8_code 24 = .ok (.getfield 24, 3) := by decide +kernel
theorem dd_ak_waitsFor_27 : decode prog_2_method_8_code 27 = .ok (.if_icmp .ne 7, 3) := by decide +kernel
theorem dd_ak_waitsFor_30 : decode prog_2_method_8_code 30 = .ok (.iconst 1, 1) := by decide +kernel
theorem dd_ak_waitsFor_31 : decode prog_2_method_8_code 31 = .ok (.goto 4, 3) := by decide +kernel
theorem dd_ak_waitsFor_34 : decode prog_2_method_8_code 34 = .ok (.iconst 0, 1) := by decide +kernel
theorem dd_ak_waitsFor_35 : decode prog_2_method_8_code 35 = .ok (.ireturn, 1) := by decide +kernel
theorem dd_ak_countAnswer_0 : decode prog_2_method_9_code 0 = .ok (.aload_n 0, 1) := by decide +kernel
theorem dd_ak_countAnswer_1 : decode prog_2_method_9_code 1 = .ok (.dup, 1) := by decide +kernel
theorem dd_ak_countAnswer_2 : decode prog_2_method_9_code 2 = .ok (.getfield 39, 3) := by decide +kernel
theorem dd_ak_countAnswer_5 : decode prog_2_method_9_code 5 = .ok (.iconst 1, 1) := by decide +kernel
theorem dd_ak_countAnswer_6 : decode prog_2_method_9_code 6 = .ok (.aload_n 1, 1) := by decide +kernel
theorem dd_ak_countAnswer_7 : decode prog_2_method_9_code 7 = .ok (.getfield 46, 3) := by decide +kernel
theorem dd_ak_countAnswer_10 : decode prog_2_method_9_code 10 = .ok (.ishl, 1) := by decide +kernel
theorem dd_ak_countAnswer_11 : decode prog_2_method_9_code 11 = .ok (.ior, 1) := by decide +kernel
theorem dd_ak_countAnswer_12 : decode prog_2_method_9_code 12 = .ok (.putfield 39, 3) := by decide +kernel
theorem dd_ak_countAnswer_15 : decode prog_2_method_9_code 15 = .ok (.aload_n 1, 1) := by decide +kernel
theorem dd_ak_countAnswer_16 : decode prog_2_method_9_code 16 = .ok (.getfield 49, 3) := by decide +kernel
theorem dd_ak_countAnswer_19 : decode prog_2_method_9_code 19 = .ok (.aload_n 0, 1) := by decide +kernel
theorem dd_ak_countAnswer_20 : decode prog_2_method_9_code 20 = .ok (.getfield 33, 3) := by decide +kernel
theorem dd_ak_countAnswer_23 : decode prog_2_method_9_code 23 = .ok (.if_icmp .le 19, 3) := by decide +kernel
theorem dd_ak_countAnswer_26 : decode prog_2_method_9_code 26 = .ok (.aload_n 0, 1) := by decide +kernel
theorem dd_ak_countAnswer_27 : decode prog_2_method_9_code 27 = .ok (.aload_n 1, 1) := by decide +kernel
theorem dd_ak_countAnswer_28 : decode prog_2_method_9_code 28 = .ok (.getfield 49, 3) := by decide +kernel
theorem dd_ak_countAnswer_31 : decode prog_2_method_9_code 31 = .ok (.putfield 33, 3) := by decide +kernel
theorem dd_ak_countAnswer_34 : decode prog_2_method_9_code 34 = .ok (.aload_n 0, 1) := by decide +kernel
theorem dd_ak_countAnswer_35 : decode prog_2_method_9_code 35 = .ok (.aload_n 1, 1) := by decide +kernel
theorem dd_ak_countAnswer_36 : decode prog_2_method_9_code 36 = .ok (.getfield 52, 3) := by decide +kernel
theorem dd_ak_countAnswer_39 : decode prog_2_method_9_code 39 = .ok (.putfield 36, 3) := by decide +kernel
theorem dd_ak_countAnswer_42 : decode prog_2_method_9_code 42 = .ok (.return_, 1) := by decide +kernel
theorem dd_ak_beginPhaseTwo_0 : decode prog_2_method_6_code 0 = .ok (.aload_n 0, 1) := by decide +kernel
theorem dd_ak_beginPhaseTwo_1 : decode prog_2_method_6_code 1 = .ok (.getfield 33, 3) := by decide +kernel
theorem dd_ak_beginPhaseTwo_4 : decode prog_2_method_6_code 4 = .ok (.ifCond .le 11, 3) := by decide +kernel
theorem dd_ak_beginPhaseTwo_7 : decode prog_2_method_6_code 7 = .ok (.aload_n 0, 1) := by decide +kernel
theorem dd_ak_beginPhaseTwo_8 : decode prog_2_method_6_code 8 = .ok (.aload_n 0, 1) := by decide +kernel
theorem dd_ak_beginPhaseTwo_9 : decode prog_2_method_6_code 9 = .ok (.getfield 36, 3) := by decide +kernel
theorem dd_ak_beginPhaseTwo_12 : decode prog_2_method_6_code 12 = .ok (.putfield 21, 3) := by decide +kernel
theorem dd_ak_beginPhaseTwo_15 : decode prog_2_method_6_code 15 = .ok (.aload_n 0, 1) := by decide +kernel
theorem dd_ak_beginPhaseTwo_16 : decode prog_2_method_6_code 16 = .ok (.iconst 2, 1) := by decide +kernel
theorem dd_ak_beginPhaseTwo_17 : decode prog_2_method_6_code 17 = .ok (.putfield 14, 3) := by decide +kernel
theorem dd_ak_beginPhaseTwo_20 : decode prog_2_method_6_code 20 = .ok (.aload_n 0, 1) := by decide +kernel
theorem dd_ak_beginPhaseTwo_21 : decode prog_2_method_6_code 21 = .ok (.invokevirtual 30, 3) := by decide +kernel
theorem dd_ak_beginPhaseTwo_24 : decode prog_2_method_6_code 24 = .ok (.return_, 1) := by decide +kernel
theorem dd_dk_learn_0 : decode prog_3_method_4_code 0 = .ok (.aload_n 0, 1) := by decide +kernel
theorem dd_dk_learn_1 : decode prog_3_method_4_code 1 = .ok (.getfield 21, 3) := by decide +kernel
theorem dd_dk_learn_4 : decode prog_3_method_4_code 4 = .ok (.iload_n 1, 1) := by decide +kernel
theorem dd_dk_learn_5 : decode prog_3_method_4_code 5 = .ok (.invokevirtual 54, 3) := by decide +kernel
theorem dd_dk_learn_8 : decode prog_3_method_4_code 8 = .ok (.aload_n 0, 1) := by decide +kernel
theorem dd_dk_learn_9 : decode prog_3_method_4_code 9 = .ok (.invokevirtual 51, 3) := by decide +kernel
theorem dd_dk_learn_12 : decode prog_3_method_4_code 12 = .ok (.return_, 1) := by decide +kernel
theorem dd_ak_hearRefusal_0 : decode prog_2_method_10_code 0 = .ok (.aload_n 0, 1) := by decide +kernel
theorem dd_ak_hearRefusal_1 : decode prog_2_method_10_code 1 = .ok (.invokevirtual 53, 3) := by decide +kernel
theorem dd_ak_hearRefusal_4 : decode prog_2_method_10_code 4 = .ok (.ifCond .eq 29, 3) := by decide +kernel
theorem dd_ak_hearRefusal_7 : decode prog_2_method_10_code 7 = .ok (.aload_n 1, 1) := by decide +kernel
theorem dd_ak_hearRefusal_8 : decode prog_2_method_10_code 8 = .ok (.getfield 42, 3) := by decide +kernel
theorem dd_ak_hearRefusal_11 : decode prog_2_method_10_code 11 = .ok (.aload_n 0, 1) := by decide +kernel
theorem dd_ak_hearRefusal_12 : decode prog_2_method_10_code 12 = .ok (.getfield 18, 3) := by decide +kernel
theorem dd_ak_hearRefusal_15 : decode prog_2_method_10_code 15 = .ok (.if_icmp .ne 18, 3) := by decide +kernel
theorem dd_ak_hearRefusal_18 : decode prog_2_method_10_code 18 = .ok (.aload_n 0, 1) := by decide +kernel
theorem dd_ak_hearRefusal_19 : decode prog_2_method_10_code 19 = .ok (.aload_n 0, 1) := by decide +kernel
theorem dd_ak_hearRefusal_20 : decode prog_2_method_10_code 20 = .ok (.getfield 27, 3) := by decide +kernel
theorem dd_ak_hearRefusal_23 : decode prog_2_method_10_code 23 = .ok (.aload_n 1, 1) := by decide +kernel
theorem dd_ak_hearRefusal_24 : decode prog_2_method_10_code 24 = .ok (.getfield 49, 3) := by decide +kernel
theorem dd_ak_hearRefusal_27 : decode prog_2_method_10_code 27 = .ok (.invokestatic 57, 3) := by decide +kernel
theorem dd_ak_hearRefusal_30 : decode prog_2_method_10_code 30 = .ok (.putfield 27, 3) := by decide +kernel
theorem dd_ak_hearRefusal_33 : decode prog_2_method_10_code 33 = .ok (.return_, 1) := by decide +kernel
theorem dd_lr_repeat_0 : decode prog_5_method_5_code 0 = .ok (.aload_n 0, 1) := by decide +kernel
theorem dd_lr_repeat_1 : decode prog_5_method_5_code 1 = .ok (.getfield 37, 3) := by decide +kernel
theorem dd_lr_repeat_4 : decode prog_5_method_5_code 4 = .ok (.bipush 100, 2) := by decide +kernel
theorem dd_lr_repeat_6 : decode prog_5_method_5_code 6 = .ok (.if_icmp .lt 5, 3) := by decide +kernel
theorem dd_lr_repeat_9 : decode prog_5_method_5_code 9 = .ok (.iconst 0, 1) := by decide +kernel
theorem dd_lr_repeat_10 : decode prog_5_method_5_code 10 = .ok (.ireturn, 1) := by decide +kernel
theorem dd_lr_repeat_11 : decode prog_5_method_5_code 11 = .ok (.aload_n 0, 1) := by decide +kernel
theorem dd_lr_repeat_12 : decode prog_5_method_5_code 12 = .ok (.getfield 11, 3) := by decide +kernel
theorem dd_lr_repeat_15 : decode prog_5_method_5_code 15 = .ok (.aload_n 0, 1) := by decide +kernel
theorem dd_lr_repeat_16 : decode prog_5_method_5_code 16 = .ok (.aload_n 0, 1) := by decide +kernel
theorem dd_lr_repeat_17 : decode prog_5_method_5_code 17 = .ok (.getfield 37, 3) := by decide +kernel
theorem dd_lr_repeat_20 : decode prog_5_method_5_code 20 = .ok (.invokevirtual 29, 3) := by decide +kernel
theorem dd_lr_repeat_23 : decode prog_5_method_5_code 23 = .ok (.aaload, 1) := by decide +kernel
theorem dd_lr_repeat_24 : decode prog_5_method_5_code 24 = .ok (.aload_n 0, 1) := by decide +kernel
theorem dd_lr_repeat_25 : decode prog_5_method_5_code 25 = .ok (.iload_n 1, 1) := by decide +kernel
theorem dd_lr_repeat_26 : decode prog_5_method_5_code 26 = .ok (.invokevirtual 33, 3) := by decide +kernel
theorem dd_lr_repeat_29 : decode prog_5_method_5_code 29 = .ok (.invokevirtual 40, 3) := by decide +kernel
theorem dd_lr_repeat_32 : decode prog_5_method_5_code 32 = .ok (.aload_n 0, 1) := by decide +kernel
theorem dd_lr_repeat_33 : decode prog_5_method_5_code 33 = .ok (.dup, 1) := by decide +kernel
theorem dd_lr_repeat_34 : decode prog_5_method_5_code 34 = .ok (.getfield 37, 3) := by decide +kernel
theorem dd_lr_repeat_37 : decode prog_5_method_5_code 37 = .ok (.iconst 1, 1) := by decide +kernel
theorem dd_lr_repeat_38 : decode prog_5_method_5_code 38 = .ok (.iadd, 1) := by decide +kernel
theorem dd_lr_repeat_39 : decode prog_5_method_5_code 39 = .ok (.putfield 37, 3) := by decide +kernel
theorem dd_lr_repeat_42 : decode prog_5_method_5_code 42 = .ok (.iconst 1, 1) := by decide +kernel
theorem dd_lr_repeat_43 : decode prog_5_method_5_code 43 = .ok (.ireturn, 1) := by decide +kernel
theorem dd_lt_part_0 : decode prog_4_method_4_code 0 = .ok (.iload_n 1, 1) := by decide +kernel
theorem dd_lt_part_1 : decode prog_4_method_4_code 1 = .ok (.tableswitch 102 0 8 #[51, 56, 61, 66, 71, 76, 81, 86, 94], 51) := by decide +kernel
theorem dd_lt_part_52 : decode prog_4_method_4_code 52 = .ok (.aload_n 0, 1) := by decide +kernel
theorem dd_lt_part_53 : decode prog_4_method_4_code 53 = .ok (.getfield 22, 3) := by decide +kernel
theorem dd_lt_part_56 : decode prog_4_method_4_code 56 = .ok (.ireturn, 1) := by decide +kernel
theorem dd_lt_part_57 : decode prog_4_method_4_code 57 = .ok (.aload_n 0, 1) := by decide +kernel
theorem dd_lt_part_58 : decode prog_4_method_4_code 58 = .ok (.getfield 25, 3) := by decide +kernel
theorem dd_lt_part_61 : decode prog_4_method_4_code 61 = .ok (.ireturn, 1) := by decide +kernel
theorem dd_lt_part_62 : decode prog_4_method_4_code 62 = .ok (.aload_n 0, 1) := by decide +kernel
theorem dd_lt_part_63 : decode prog_4_method_4_code 63 = .ok (.getfield 44, 3) := by decide +kernel
theorem dd_lt_part_66 : decode prog_4_method_4_code 66 = .ok (.ireturn, 1) := by decide +kernel
theorem dd_lt_part_67 : decode prog_4_method_4_code 67 = .ok (.aload_n 0, 1) := by decide +kernel
theorem dd_lt_part_68 : decode prog_4_method_4_code 68 = .ok (.getfield 28, 3) := by decide +kernel
theorem dd_lt_part_71 : decode prog_4_method_4_code 71 = .ok (.ireturn, 1) := by decide +kernel
theorem dd_lt_part_72 : decode prog_4_method_4_code 72 = .ok (.aload_n 0, 1) := by decide +kernel
theorem dd_lt_part_73 : decode prog_4_method_4_code 73 = .ok (.getfield 31, 3) := by decide +kernel
theorem dd_lt_part_76 : decode prog_4_method_4_code 76 = .ok (.ireturn, 1) := by decide +kernel
theorem dd_lt_part_77 : decode prog_4_method_4_code 77 = .ok (.aload_n 0, 1) := by decide +kernel
theorem dd_lt_part_78 : decode prog_4_method_4_code 78 = .ok (.getfield 34, 3) := by decide +kernel
theorem dd_lt_part_81 : decode prog_4_method_4_code 81 = .ok (.ireturn, 1) := by decide +kernel
theorem dd_lt_part_82 : decode prog_4_method_4_code 82 = .ok (.aload_n 0, 1) := by decide +kernel
theorem dd_lt_part_83 : decode prog_4_method_4_code 83 = .ok (.getfield 37, 3) := by decide +kernel
theorem dd_lt_part_86 : decode prog_4_method_4_code 86 = .ok (.ireturn, 1) := by decide +kernel
theorem dd_lt_part_87 : decode prog_4_method_4_code 87 = .ok (.aload_n 0, 1) := by decide +kernel
theorem dd_lt_part_88 : decode prog_4_method_4_code 88 = .ok (.getfield 18, 3) := by decide +kernel
theorem dd_lt_part_91 : decode prog_4_method_4_code 91 = .ok (.invokestatic 47, 3) := by decide +kernel
theorem dd_lt_part_94 : decode prog_4_method_4_code 94 = .ok (.ireturn, 1) := by decide +kernel
theorem dd_lt_part_95 : decode prog_4_method_4_code 95 = .ok (.aload_n 0, 1) := by decide +kernel
theorem dd_lt_part_96 : decode prog_4_method_4_code 96 = .ok (.getfield 18, 3) := by decide +kernel
theorem dd_lt_part_99 : decode prog_4_method_4_code 99 = .ok (.invokestatic 51, 3) := by decide +kernel
theorem dd_lt_part_102 : decode prog_4_method_4_code 102 = .ok (.ireturn, 1) := by decide +kernel
theorem dd_lt_part_103 : decode prog_4_method_4_code 103 = .ok (.aload_n 0, 1) := by decide +kernel
theorem dd_lt_part_104 : decode prog_4_method_4_code 104 = .ok (.getfield 12, 3) := by decide +kernel
theorem dd_lt_part_107 : decode prog_4_method_4_code 107 = .ok (.getfield 54, 3) := by decide +kernel
theorem dd_lt_part_110 : decode prog_4_method_4_code 110 = .ok (.ireturn, 1) := by decide +kernel
theorem dd_dk_part_0 : decode prog_3_method_7_code 0 = .ok (.iload_n 1, 1) := by decide +kernel
theorem dd_dk_part_1 : decode prog_3_method_7_code 1 = .ok (.tableswitch 102 0 7 #[47, 52, 57, 65, 73, 78, 86, 94], 47) := by decide +kernel
theorem dd_dk_part_48 : decode prog_3_method_7_code 48 = .ok (.aload_n 0, 1) := by decide +kernel
theorem dd_dk_part_49 : decode prog_3_method_7_code 49 = .ok (.getfield 32, 3) := by decide +kernel
theorem dd_dk_part_52 : decode prog_3_method_7_code 52 = .ok (.ireturn, 1) := by decide +kernel
theorem dd_dk_part_53 : decode prog_3_method_7_code 53 = .ok (.aload_n 0, 1) := by decide +kernel
theorem dd_dk_part_54 : decode prog_3_method_7_code 54 = .ok (.getfield 35, 3) := by decide +kernel
theorem dd_dk_part_57 : decode prog_3_method_7_code 57 = .ok (.ireturn, 1) := by decide +kernel
theorem dd_dk_part_58 : decode prog_3_method_7_code 58 = .ok (.aload_n 0, 1) := by decide +kernel
theorem dd_dk_part_59 : decode prog_3_method_7_code 59 = .ok (.getfield 38, 3) := by decide +kernel
theorem dd_dk_part_62 : decode prog_3_method_7_code 62 = .ok (.invokestatic 73, 3) := by decide +kernel
theorem dd_dk_part_65 : decode prog_3_method_7_code 65 = .ok (.ireturn, 1) := by decide +kernel
theorem dd_dk_part_66 : decode prog_3_method_7_code 66 = .ok (.aload_n 0, 1) := by decide +kernel
theorem dd_dk_part_67 : decode prog_3_method_7_code 67 = .ok (.getfield 38, 3) := by decide +kernel
theorem dd_dk_part_70 : decode prog_3_method_7_code 70 = .ok (.invokestatic 77, 3) := by decide +kernel
theorem dd_dk_part_73 : decode prog_3_method_7_code 73 = .ok (.ireturn, 1) := by decide +kernel
theorem dd_dk_part_74 : decode prog_3_method_7_code 74 = .ok (.aload_n 0, 1) := by decide +kernel
theorem dd_dk_part_75 : decode prog_3_method_7_code 75 = .ok (.getfield 41, 3) := by decide +kernel
theorem dd_dk_part_78 : decode prog_3_method_7_code 78 = .ok (.ireturn, 1) := by decide +kernel
theorem dd_dk_part_79 : decode prog_3_method_7_code 79 = .ok (.aload_n 0, 1) := by decide +kernel
theorem dd_dk_part_80 : decode prog_3_method_7_code 80 = .ok (.getfield 21, 3) := by decide +kernel
theorem dd_dk_part_83 : decode prog_3_method_7_code 83 = .ok (.getfield 44, 3) := by decide +kernel
theorem dd_dk_part_86 : decode prog_3_method_7_code 86 = .ok (.ireturn, 1) := by decide +kernel
theorem dd_dk_part_87 : decode prog_3_method_7_code 87 = .ok (.aload_n 0, 1) := by decide +kernel
theorem dd_dk_part_88 : decode prog_3_method_7_code 88 = .ok (.getfield 28, 3) := by decide +kernel
theorem dd_dk_part_91 : decode prog_3_method_7_code 91 = .ok (.getfield 80, 3) := by decide +kernel
theorem dd_dk_part_94 : decode prog_3_method_7_code 94 = .ok (.ireturn, 1) := by decide +kernel
theorem dd_dk_part_95 : decode prog_3_method_7_code 95 = .ok (.aload_n 0, 1) := by decide +kernel
theorem dd_dk_part_96 : decode prog_3_method_7_code 96 = .ok (.getfield 28, 3) := by decide +kernel
theorem dd_dk_part_99 : decode prog_3_method_7_code 99 = .ok (.getfield 83, 3) := by decide +kernel
theorem dd_dk_part_102 : decode prog_3_method_7_code 102 = .ok (.ireturn, 1) := by decide +kernel
theorem dd_dk_part_103 : decode prog_3_method_7_code 103 = .ok (.aload_n 0, 1) := by decide +kernel
theorem dd_dk_part_104 : decode prog_3_method_7_code 104 = .ok (.getfield 28, 3) := by decide +kernel
theorem dd_dk_part_107 : decode prog_3_method_7_code 107 = .ok (.getfield 86, 3) := by decide +kernel
theorem dd_dk_part_110 : decode prog_3_method_7_code 110 = .ok (.invokestatic 89, 3) := by decide +kernel
theorem dd_dk_part_113 : decode prog_3_method_7_code 113 = .ok (.ireturn, 1) := by decide +kernel
theorem dd_ji_bitCount_0 : decode prog_13_method_49_code 0 = .ok (.iload_n 0, 1) := by decide +kernel
theorem dd_ji_bitCount_1 : decode prog_13_method_49_code 1 = .ok (.iload_n 0, 1) := by decide +kernel
theorem dd_ji_bitCount_2 : decode prog_13_method_49_code 2 = .ok (.iconst 1, 1) := by decide +kernel
theorem dd_ji_bitCount_3 : decode prog_13_method_49_code 3 = .ok (.iushr, 1) := by decide +kernel
theorem dd_ji_bitCount_4 : decode prog_13_method_49_code 4 = .ok (.ldc_w 265, 3) := by decide +kernel
theorem dd_ji_bitCount_7 : decode prog_13_method_49_code 7 = .ok (.iand, 1) := by decide +kernel
theorem dd_ji_bitCount_8 : decode prog_13_method_49_code 8 = .ok (.isub, 1) := by decide +kernel
theorem dd_ji_bitCount_9 : decode prog_13_method_49_code 9 = .ok (.istore_n 0, 1) := by decide +kernel
theorem dd_ji_bitCount_10 : decode prog_13_method_49_code 10 = .ok (.iload_n 0, 1) := by decide +kernel
theorem dd_ji_bitCount_11 : decode prog_13_method_49_code 11 = .ok (.ldc_w 266, 3) := by decide +kernel
theorem dd_ji_bitCount_14 : decode prog_13_method_49_code 14 = .ok (.iand, 1) := by decide +kernel
theorem dd_ji_bitCount_15 : decode prog_13_method_49_code 15 = .ok (.iload_n 0, 1) := by decide +kernel
theorem dd_ji_bitCount_16 : decode prog_13_method_49_code 16 = .ok (.iconst 2, 1) := by decide +kernel
theorem dd_ji_bitCount_17 : decode prog_13_method_49_code 17 = .ok (.iushr, 1) := by decide +kernel
theorem dd_ji_bitCount_18 : decode prog_13_method_49_code 18 = .ok (.ldc_w 266, 3) := by decide +kernel
theorem dd_ji_bitCount_21 : decode prog_13_method_49_code 21 = .ok (.iand, 1) := by decide +kernel
theorem dd_ji_bitCount_22 : decode prog_13_method_49_code 22 = .ok (.iadd, 1) := by decide +kernel
theorem dd_ji_bitCount_23 : decode prog_13_method_49_code 23 = .ok (.istore_n 0, 1) := by decide +kernel
theorem dd_ji_bitCount_24 : decode prog_13_method_49_code 24 = .ok (.iload_n 0, 1) := by decide +kernel
theorem dd_ji_bitCount_25 : decode prog_13_method_49_code 25 = .ok (.iload_n 0, 1) := by decide +kernel
theorem dd_ji_bitCount_26 : decode prog_13_method_49_code 26 = .ok (.iconst 4, 1) := by decide +kernel
theorem dd_ji_bitCount_27 : decode prog_13_method_49_code 27 = .ok (.iushr, 1) := by decide +kernel
theorem dd_ji_bitCount_28 : decode prog_13_method_49_code 28 = .ok (.iadd, 1) := by decide +kernel
theorem dd_ji_bitCount_29 : decode prog_13_method_49_code 29 = .ok (.ldc_w 267, 3) := by decide +kernel
theorem dd_ji_bitCount_32 : decode prog_13_method_49_code 32 = .ok (.iand, 1) := by decide +kernel
theorem dd_ji_bitCount_33 : decode prog_13_method_49_code 33 = .ok (.istore_n 0, 1) := by decide +kernel
theorem dd_ji_bitCount_34 : decode prog_13_method_49_code 34 = .ok (.iload_n 0, 1) := by decide +kernel
theorem dd_ji_bitCount_35 : decode prog_13_method_49_code 35 = .ok (.iload_n 0, 1) := by decide +kernel
theorem dd_ji_bitCount_36 : decode prog_13_method_49_code 36 = .ok (.bipush 8, 2) := by decide +kernel
theorem dd_ji_bitCount_38 : decode prog_13_method_49_code 38 = .ok (.iushr, 1) := by decide +kernel
theorem dd_ji_bitCount_39 : decode prog_13_method_49_code 39 = .ok (.iadd, 1) := by decide +kernel
theorem dd_ji_bitCount_40 : decode prog_13_method_49_code 40 = .ok (.istore_n 0, 1) := by decide +kernel
theorem dd_ji_bitCount_41 : decode prog_13_method_49_code 41 = .ok (.iload_n 0, 1) := by decide +kernel
theorem dd_ji_bitCount_42 : decode prog_13_method_49_code 42 = .ok (.iload_n 0, 1) := by decide +kernel
theorem dd_ji_bitCount_43 : decode prog_13_method_49_code 43 = .ok (.bipush 16, 2) := by decide +kernel
theorem dd_ji_bitCount_45 : decode prog_13_method_49_code 45 = .ok (.iushr, 1) := by decide +kernel
theorem dd_ji_bitCount_46 : decode prog_13_method_49_code 46 = .ok (.iadd, 1) := by decide +kernel
theorem dd_ji_bitCount_47 : decode prog_13_method_49_code 47 = .ok (.istore_n 0, 1) := by decide +kernel
theorem dd_ji_bitCount_48 : decode prog_13_method_49_code 48 = .ok (.iload_n 0, 1) := by decide +kernel
theorem dd_ji_bitCount_49 : decode prog_13_method_49_code 49 = .ok (.bipush 63, 2) := by decide +kernel
theorem dd_ji_bitCount_51 : decode prog_13_method_49_code 51 = .ok (.iand, 1) := by decide +kernel
theorem dd_ji_bitCount_52 : decode prog_13_method_49_code 52 = .ok (.ireturn, 1) := by decide +kernel
