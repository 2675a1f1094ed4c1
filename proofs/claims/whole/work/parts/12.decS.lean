/-! DECODE rows (printed by gen/parts.py). -/
theorem dd_sg_init_0 : decode prog_1_method_1_code 0 = .ok (.aload_n 0, 1) := by decide +kernel
theorem dd_sg_init_1 : decode prog_1_method_1_code 1 = .ok (.invokespecial 1, 3) := by decide +kernel
theorem dd_sg_init_4 : decode prog_1_method_1_code 4 = .ok (.aload_n 0, 1) := by decide +kernel
theorem dd_sg_init_5 : decode prog_1_method_1_code 5 = .ok (.bipush 20, 2) := by decide +kernel
theorem dd_sg_init_7 : decode prog_1_method_1_code 7 = .ok (.anewarray 9, 3) := by decide +kernel
theorem dd_sg_init_10 : decode prog_1_method_1_code 10 = .ok (.putfield 11, 3) := by decide +kernel
theorem dd_sg_init_13 : decode prog_1_method_1_code 13 = .ok (.aload_n 0, 1) := by decide +kernel
theorem dd_sg_init_14 : decode prog_1_method_1_code 14 = .ok (.new 15, 3) := by decide +kernel
theorem dd_sg_init_17 : decode prog_1_method_1_code 17 = .ok (.dup, 1) := by decide +kernel
theorem dd_sg_init_18 : decode prog_1_method_1_code 18 = .ok (.iconst (-1), 1) := by decide +kernel
theorem dd_sg_init_19 : decode prog_1_method_1_code 19 = .ok (.iconst (-1), 1) := by decide +kernel
theorem dd_sg_init_20 : decode prog_1_method_1_code 20 = .ok (.invokespecial 17, 3) := by decide +kernel
theorem dd_sg_init_23 : decode prog_1_method_1_code 23 = .ok (.putfield 20, 3) := by decide +kernel
theorem dd_sg_init_26 : decode prog_1_method_1_code 26 = .ok (.aload_n 0, 1) := by decide +kernel
theorem dd_sg_init_27 : decode prog_1_method_1_code 27 = .ok (.new 24, 3) := by decide +kernel
theorem dd_sg_init_30 : decode prog_1_method_1_code 30 = .ok (.dup, 1) := by decide +kernel
theorem dd_sg_init_31 : decode prog_1_method_1_code 31 = .ok (.invokespecial 26, 3) := by decide +kernel
theorem dd_sg_init_34 : decode prog_1_method_1_code 34 = .ok (.putfield 27, 3) := by decide +kernel
theorem dd_sg_init_37 : decode prog_1_method_1_code 37 = .ok (.aload_n 0, 1) := by decide +kernel
theorem dd_sg_init_38 : decode prog_1_method_1_code 38 = .ok (.ldc 31, 2) := by decide +kernel
theorem dd_sg_init_40 : decode prog_1_method_1_code 40 = .ok (.putfield 32, 3) := by decide +kernel
theorem dd_sg_init_43 : decode prog_1_method_1_code 43 = .ok (.return_, 1) := by decide +kernel
theorem dd_sg_pool_0 : decode prog_1_method_11_code 0 = .ok (.aload_n 0, 1) := by decide +kernel
theorem dd_sg_pool_1 : decode prog_1_method_11_code 1 = .ok (.getfield 27, 3) := by decide +kernel
theorem dd_sg_pool_4 : decode prog_1_method_11_code 4 = .ok (.getfield 123, 3) := by decide +kernel
theorem dd_sg_pool_7 : decode prog_1_method_11_code 7 = .ok (.ireturn, 1) := by decide +kernel
theorem dd_sg_live_0 : decode prog_1_method_16_code 0 = .ok (.aload_n 0, 1) := by decide +kernel
theorem dd_sg_live_1 : decode prog_1_method_16_code 1 = .ok (.getfield 32, 3) := by decide +kernel
theorem dd_sg_live_4 : decode prog_1_method_16_code 4 = .ok (.invokestatic 172, 3) := by decide +kernel
theorem dd_sg_live_7 : decode prog_1_method_16_code 7 = .ok (.ifCond .eq 7, 3) := by decide +kernel
theorem dd_sg_live_10 : decode prog_1_method_16_code 10 = .ok (.iconst 1, 1) := by decide +kernel
theorem dd_sg_live_11 : decode prog_1_method_16_code 11 = .ok (.goto 4, 3) := by decide +kernel
theorem dd_sg_live_14 : decode prog_1_method_16_code 14 = .ok (.iconst 0, 1) := by decide +kernel
theorem dd_sg_live_15 : decode prog_1_method_16_code 15 = .ok (.aload_n 0, 1) := by decide +kernel
theorem dd_sg_live_16 : decode prog_1_method_16_code 16 = .ok (.getfield 32, 3) := by decide +kernel
theorem dd_sg_live_19 : decode prog_1_method_16_code 19 = .ok (.invokestatic 175, 3) := by decide +kernel
theorem dd_sg_live_22 : decode prog_1_method_16_code 22 = .ok (.ifCond .eq 7, 3) := by decide +kernel
theorem dd_sg_live_25 : decode prog_1_method_16_code 25 = .ok (.iconst 2, 1) := by decide +kernel
theorem dd_sg_live_26 : decode prog_1_method_16_code 26 = .ok (.goto 4, 3) := by decide +kernel
theorem dd_sg_live_29 : decode prog_1_method_16_code 29 = .ok (.iconst 0, 1) := by decide +kernel
theorem dd_sg_live_30 : decode prog_1_method_16_code 30 = .ok (.iadd, 1) := by decide +kernel
theorem dd_sg_live_31 : decode prog_1_method_16_code 31 = .ok (.ireturn, 1) := by decide +kernel
theorem dd_sg_touchesEachColumn_0 : decode prog_1_method_33_code 0 = .ok (.iconst 0, 1) := by decide +kernel
theorem dd_sg_touchesEachColumn_1 : decode prog_1_method_33_code 1 = .ok (.istore_n 1, 1) := by decide +kernel
theorem dd_sg_touchesEachColumn_2 : decode prog_1_method_33_code 2 = .ok (.iload_n 1, 1) := by decide +kernel
theorem dd_sg_touchesEachColumn_3 : decode prog_1_method_33_code 3 = .ok (.iconst 5, 1) := by decide +kernel
theorem dd_sg_touchesEachColumn_4 : decode prog_1_method_33_code 4 = .ok (.if_icmp .ge 21, 3) := by decide +kernel
theorem dd_sg_touchesEachColumn_7 : decode prog_1_method_33_code 7 = .ok (.iload_n 0, 1) := by decide +kernel
theorem dd_sg_touchesEachColumn_8 : decode prog_1_method_33_code 8 = .ok (.iload_n 1, 1) := by decide +kernel
theorem dd_sg_touchesEachColumn_9 : decode prog_1_method_33_code 9 = .ok (.ishr, 1) := by decide +kernel
theorem dd_sg_touchesEachColumn_10 : decode prog_1_method_33_code 10 = .ok (.ldc_w 293, 3) := by decide +kernel
theorem dd_sg_touchesEachColumn_13 : decode prog_1_method_33_code 13 = .ok (.iand, 1) := by decide +kernel
theorem dd_sg_touchesEachColumn_14 : decode prog_1_method_33_code 14 = .ok (.ifCond .ne 5, 3) := by decide +kernel
theorem dd_sg_touchesEachColumn_17 : decode prog_1_method_33_code 17 = .ok (.iconst 0, 1) := by decide +kernel
theorem dd_sg_touchesEachColumn_18 : decode prog_1_method_33_code 18 = .ok (.ireturn, 1) := by decide +kernel
theorem dd_sg_touchesEachColumn_19 : decode prog_1_method_33_code 19 = .ok (.iinc 1 1, 3) := by decide +kernel
theorem dd_sg_touchesEachColumn_22 : decode prog_1_method_33_code 22 = .ok (.goto (-20), 3) := by decide +kernel
theorem dd_sg_touchesEachColumn_25 : decode prog_1_method_33_code 25 = .ok (.iconst 1, 1) := by decide +kernel
theorem dd_sg_touchesEachColumn_26 : decode prog_1_method_33_code 26 = .ok (.ireturn, 1) := by decide +kernel
theorem dd_sg_holdsWholeColumn_0 : decode prog_1_method_34_code 0 = .ok (.iconst 0, 1) := by decide +kernel
theorem dd_sg_holdsWholeColumn_1 : decode prog_1_method_34_code 1 = .ok (.istore_n 1, 1) := by decide +kernel
theorem dd_sg_holdsWholeColumn_2 : decode prog_1_method_34_code 2 = .ok (.iload_n 1, 1) := by decide +kernel
theorem dd_sg_holdsWholeColumn_3 : decode prog_1_method_34_code 3 = .ok (.iconst 5, 1) := by decide +kernel
theorem dd_sg_holdsWholeColumn_4 : decode prog_1_method_34_code 4 = .ok (.if_icmp .ge 24, 3) := by decide +kernel
theorem dd_sg_holdsWholeColumn_7 : decode prog_1_method_34_code 7 = .ok (.iload_n 0, 1) := by decide +kernel
theorem dd_sg_holdsWholeColumn_8 : decode prog_1_method_34_code 8 = .ok (.iload_n 1, 1) := by decide +kernel
theorem dd_sg_holdsWholeColumn_9 : decode prog_1_method_34_code 9 = .ok (.ishr, 1) := by decide +kernel
theorem dd_sg_holdsWholeColumn_10 : decode prog_1_method_34_code 10 = .ok (.ldc_w 293, 3) := by decide +kernel
theorem dd_sg_holdsWholeColumn_13 : decode prog_1_method_34_code 13 = .ok (.iand, 1) := by decide +kernel
theorem dd_sg_holdsWholeColumn_14 : decode prog_1_method_34_code 14 = .ok (.ldc_w 293, 3) := by decide +kernel
theorem dd_sg_holdsWholeColumn_17 : decode prog_1_method_34_code 17 = .ok (.if_icmp .ne 5, 3) := by decide +kernel
theorem dd_sg_holdsWholeColumn_20 : decode prog_1_method_34_code 20 = .ok (.iconst 1, 1) := by decide +kernel
theorem dd_sg_holdsWholeColumn_21 : decode prog_1_method_34_code 21 = .ok (.ireturn, 1) := by decide +kernel
theorem dd_sg_holdsWholeColumn_22 : decode prog_1_method_34_code 22 = .ok (.iinc 1 1, 3) := by decide +kernel
theorem dd_sg_holdsWholeColumn_25 : decode prog_1_method_34_code 25 = .ok (.goto (-23), 3) := by decide +kernel
theorem dd_sg_holdsWholeColumn_28 : decode prog_1_method_34_code 28 = .ok (.iconst 0, 1) := by decide +kernel
theorem dd_sg_holdsWholeColumn_29 : decode prog_1_method_34_code 29 = .ok (.ireturn, 1) := by decide +kernel
theorem dd_sg_register_0 : decode prog_1_method_2_code 0 = .ok (.iload_n 1, 1) := by decide +kernel
theorem dd_sg_register_1 : decode prog_1_method_2_code 1 = .ok (.invokestatic 36, 3) := by decide +kernel
theorem dd_sg_register_4 : decode prog_1_method_2_code 4 = .ok (.iload_n 2, 1) := by decide +kernel
theorem dd_sg_register_5 : decode prog_1_method_2_code 5 = .ok (.iconst 1, 1) := by decide +kernel
theorem dd_sg_register_6 : decode prog_1_method_2_code 6 = .ok (.bipush 12, 2) := by decide +kernel
theorem dd_sg_register_8 : decode prog_1_method_2_code 8 = .ok (.invokestatic 40, 3) := by decide +kernel
theorem dd_sg_register_11 : decode prog_1_method_2_code 11 = .ok (.iload_n 3, 1) := by decide +kernel
theorem dd_sg_register_12 : decode prog_1_method_2_code 12 = .ok (.iconst 0, 1) := by decide +kernel
theorem dd_sg_register_13 : decode prog_1_method_2_code 13 = .ok (.bipush 90, 2) := by decide +kernel
theorem dd_sg_register_15 : decode prog_1_method_2_code 15 = .ok (.invokestatic 40, 3) := by decide +kernel
theorem dd_sg_register_18 : decode prog_1_method_2_code 18 = .ok (.aload_n 0, 1) := by decide +kernel
theorem dd_sg_register_19 : decode prog_1_method_2_code 19 = .ok (.getfield 11, 3) := by decide +kernel
theorem dd_sg_register_22 : decode prog_1_method_2_code 22 = .ok (.iload_n 1, 1) := by decide +kernel
theorem dd_sg_register_23 : decode prog_1_method_2_code 23 = .ok (.aaload, 1) := by decide +kernel
theorem dd_sg_register_24 : decode prog_1_method_2_code 24 = .ok (.ifnull 13, 3) := by decide +kernel
theorem dd_sg_register_27 : decode prog_1_method_2_code 27 = .ok (.new 44, 3) := by decide +kernel
theorem dd_sg_register_30 : decode prog_1_method_2_code 30 = .ok (.dup, 1) := by decide +kernel
theorem dd_sg_register_31 : decode prog_1_method_2_code 31 = .ok (.ldc 46, 2) := by decide +kernel
theorem dd_sg_register_33 : decode prog_1_method_2_code 33 = .ok (.invokespecial 48, 3) := by decide +kernel
theorem dd_sg_register_36 : decode prog_1_method_2_code 36 = .ok (.athrow, 1) := by decide +kernel
theorem dd_sg_register_37 : decode prog_1_method_2_code 37 = .ok (.aload_n 0, 1) := by decide +kernel
theorem dd_sg_register_38 : decode prog_1_method_2_code 38 = .ok (.getfield 11, 3) := by decide +kernel
theorem dd_sg_register_41 : decode prog_1_method_2_code 41 = .ok (.iload_n 1, 1) := by decide +kernel
theorem dd_sg_register_42 : decode prog_1_method_2_code 42 = .ok (.new 9, 3) := by decide +kernel
theorem dd_sg_register_45 : decode prog_1_method_2_code 45 = .ok (.dup, 1) := by decide +kernel
theorem dd_sg_register_46 : decode prog_1_method_2_code 46 = .ok (.iload_n 1, 1) := by decide +kernel
theorem dd_sg_register_47 : decode prog_1_method_2_code 47 = .ok (.iload_n 2, 1) := by decide +kernel
theorem dd_sg_register_48 : decode prog_1_method_2_code 48 = .ok (.iload_n 3, 1) := by decide +kernel
theorem dd_sg_register_49 : decode prog_1_method_2_code 49 = .ok (.invokespecial 51, 3) := by decide +kernel
theorem dd_sg_register_52 : decode prog_1_method_2_code 52 = .ok (.aastore, 1) := by decide +kernel
theorem dd_sg_register_53 : decode prog_1_method_2_code 53 = .ok (.return_, 1) := by decide +kernel
theorem dd_sg_needPrescription_0 : decode prog_1_method_20_code 0 = .ok (.iload_n 0, 1) := by decide +kernel
theorem dd_sg_needPrescription_1 : decode prog_1_method_20_code 1 = .ok (.ifCond .lt 9, 3) := by decide +kernel
theorem dd_sg_needPrescription_4 : decode prog_1_method_20_code 4 = .ok (.iload_n 0, 1) := by decide +kernel
theorem dd_sg_needPrescription_5 : decode prog_1_method_20_code 5 = .ok (.bipush 20, 2) := by decide +kernel
theorem dd_sg_needPrescription_7 : decode prog_1_method_20_code 7 = .ok (.if_icmp .lt 13, 3) := by decide +kernel
theorem dd_sg_needPrescription_10 : decode prog_1_method_20_code 10 = .ok (.new 187, 3) := by decide +kernel
theorem dd_sg_needPrescription_13 : decode prog_1_method_20_code 13 = .ok (.dup, 1) := by decide +kernel
theorem dd_sg_needPrescription_14 : decode prog_1_method_20_code 14 = .ok (.ldc 194, 2) := by decide +kernel
theorem dd_sg_needPrescription_16 : decode prog_1_method_20_code 16 = .ok (.invokespecial 191, 3) := by decide +kernel
theorem dd_sg_needPrescription_19 : decode prog_1_method_20_code 19 = .ok (.athrow, 1) := by decide +kernel
theorem dd_sg_needPrescription_20 : decode prog_1_method_20_code 20 = .ok (.return_, 1) := by decide +kernel
theorem dd_sg_needWithin_0 : decode prog_1_method_18_code 0 = .ok (.iload_n 0, 1) := by decide +kernel
theorem dd_sg_needWithin_1 : decode prog_1_method_18_code 1 = .ok (.iload_n 1, 1) := by decide +kernel
theorem dd_sg_needWithin_2 : decode prog_1_method_18_code 2 = .ok (.if_icmp .lt 8, 3) := by decide +kernel
theorem dd_sg_needWithin_5 : decode prog_1_method_18_code 5 = .ok (.iload_n 0, 1) := by decide +kernel
theorem dd_sg_needWithin_6 : decode prog_1_method_18_code 6 = .ok (.iload_n 2, 1) := by decide +kernel
theorem dd_sg_needWithin_7 : decode prog_1_method_18_code 7 = .ok (.if_icmp .le 13, 3) := by decide +kernel
theorem dd_sg_needWithin_10 : decode prog_1_method_18_code 10 = .ok (.new 187, 3) := by decide +kernel
theorem dd_sg_needWithin_13 : decode prog_1_method_18_code 13 = .ok (.dup, 1) := by decide +kernel
theorem dd_sg_needWithin_14 : decode prog_1_method_18_code 14 = .ok (.ldc 189, 2) := by decide +kernel
theorem dd_sg_needWithin_16 : decode prog_1_method_18_code 16 = .ok (.invokespecial 191, 3) := by decide +kernel
theorem dd_sg_needWithin_19 : decode prog_1_method_18_code 19 = .ok (.athrow, 1) := by decide +kernel
theorem dd_sg_needWithin_20 : decode prog_1_method_18_code 20 = .ok (.return_, 1) := by decide +kernel
theorem dd_sg_ask_0 : decode prog_1_method_3_code 0 = .ok (.iload_n 1, 1) := by decide +kernel
theorem dd_sg_ask_1 : decode prog_1_method_3_code 1 = .ok (.invokestatic 53, 3) := by decide +kernel
theorem dd_sg_ask_4 : decode prog_1_method_3_code 4 = .ok (.iload_n 2, 1) := by decide +kernel
theorem dd_sg_ask_5 : decode prog_1_method_3_code 5 = .ok (.invokestatic 36, 3) := by decide +kernel
theorem dd_sg_ask_8 : decode prog_1_method_3_code 8 = .ok (.iload_n 3, 1) := by decide +kernel
theorem dd_sg_ask_9 : decode prog_1_method_3_code 9 = .ok (.iconst 0, 1) := by decide +kernel
theorem dd_sg_ask_10 : decode prog_1_method_3_code 10 = .ok (.ldc 56, 2) := by decide +kernel
theorem dd_sg_ask_12 : decode prog_1_method_3_code 12 = .ok (.invokestatic 40, 3) := by decide +kernel
theorem dd_sg_ask_15 : decode prog_1_method_3_code 15 = .ok (.aload_n 0, 1) := by decide +kernel
theorem dd_sg_ask_16 : decode prog_1_method_3_code 16 = .ok (.getfield 11, 3) := by decide +kernel
theorem dd_sg_ask_19 : decode prog_1_method_3_code 19 = .ok (.iload_n 2, 1) := by decide +kernel
theorem dd_sg_ask_20 : decode prog_1_method_3_code 20 = .ok (.aaload, 1) := by decide +kernel
theorem dd_sg_ask_21 : decode prog_1_method_3_code 21 = .ok (.astore 4, 2) := by decide +kernel
theorem dd_sg_ask_23 : decode prog_1_method_3_code 23 = .ok (.aload 4, 2) := by decide +kernel
theorem dd_sg_ask_25 : decode prog_1_method_3_code 25 = .ok (.ifnonnull 13, 3) := by decide +kernel
theorem dd_sg_ask_28 : decode prog_1_method_3_code 28 = .ok (.new 44, 3) := by decide +kernel
theorem dd_sg_ask_31 : decode prog_1_method_3_code 31 = .ok (.dup, 1) := by decide +kernel
theorem dd_sg_ask_32 : decode prog_1_method_3_code 32 = .ok (.ldc 57, 2) := by decide +kernel
theorem dd_sg_ask_34 : decode prog_1_method_3_code 34 = .ok (.invokespecial 48, 3) := by decide +kernel
theorem dd_sg_ask_37 : decode prog_1_method_3_code 37 = .ok (.athrow, 1) := by decide +kernel
theorem dd_sg_ask_38 : decode prog_1_method_3_code 38 = .ok (.aload_n 0, 1) := by decide +kernel
theorem dd_sg_ask_39 : decode prog_1_method_3_code 39 = .ok (.iload_n 1, 1) := by decide +kernel
theorem dd_sg_ask_40 : decode prog_1_method_3_code 40 = .ok (.invokevirtual 59, 3) := by decide +kernel
theorem dd_sg_ask_43 : decode prog_1_method_3_code 43 = .ok (.aload 4, 2) := by decide +kernel
theorem dd_sg_ask_45 : decode prog_1_method_3_code 45 = .ok (.getfield 62, 3) := by decide +kernel
theorem dd_sg_ask_48 : decode prog_1_method_3_code 48 = .ok (.iload_n 1, 1) := by decide +kernel
theorem dd_sg_ask_49 : decode prog_1_method_3_code 49 = .ok (.aaload, 1) := by decide +kernel
theorem dd_sg_ask_50 : decode prog_1_method_3_code 50 = .ok (.astore 5, 2) := by decide +kernel
theorem dd_sg_ask_52 : decode prog_1_method_3_code 52 = .ok (.aload 4, 2) := by decide +kernel
theorem dd_sg_ask_54 : decode prog_1_method_3_code 54 = .ok (.aload 5, 2) := by decide +kernel
theorem dd_sg_ask_56 : decode prog_1_method_3_code 56 = .ok (.iload_n 3, 1) := by decide +kernel
theorem dd_sg_ask_57 : decode prog_1_method_3_code 57 = .ok (.invokevirtual 66, 3) := by decide +kernel
theorem dd_sg_ask_60 : decode prog_1_method_3_code 60 = .ok (.ifCond .ne 13, 3) := by decide +kernel
theorem dd_sg_ask_63 : decode prog_1_method_3_code 63 = .ok (.new 44, 3) := by decide +kernel
theorem dd_sg_ask_66 : decode prog_1_method_3_code 66 = .ok (.dup, 1) := by decide +kernel
theorem dd_sg_ask_67 : decode prog_1_method_3_code 67 = .ok (.ldc 70, 2) := by decide +kernel
theorem dd_sg_ask_69 : decode prog_1_method_3_code 69 = .ok (.invokespecial 48, 3) := by decide +kernel
theorem dd_sg_ask_72 : decode prog_1_method_3_code 72 = .ok (.athrow, 1) := by decide +kernel
theorem dd_sg_ask_73 : decode prog_1_method_3_code 73 = .ok (.aload 5, 2) := by decide +kernel
theorem dd_sg_ask_75 : decode prog_1_method_3_code 75 = .ok (.getfield 72, 3) := by decide +kernel
theorem dd_sg_ask_78 : decode prog_1_method_3_code 78 = .ok (.aload 5, 2) := by decide +kernel
theorem dd_sg_ask_80 : decode prog_1_method_3_code 80 = .ok (.invokevirtual 76, 3) := by decide +kernel
theorem dd_sg_ask_83 : decode prog_1_method_3_code 83 = .ok (.iload_n 1, 1) := by decide +kernel
theorem dd_sg_ask_84 : decode prog_1_method_3_code 84 = .ok (.iload_n 3, 1) := by decide +kernel
theorem dd_sg_ask_85 : decode prog_1_method_3_code 85 = .ok (.invokestatic 80, 3) := by decide +kernel
theorem dd_sg_ask_88 : decode prog_1_method_3_code 88 = .ok (.invokevirtual 84, 3) := by decide +kernel
theorem dd_sg_ask_91 : decode prog_1_method_3_code 91 = .ok (.aload_n 0, 1) := by decide +kernel
theorem dd_sg_ask_92 : decode prog_1_method_3_code 92 = .ok (.aload 5, 2) := by decide +kernel
theorem dd_sg_ask_94 : decode prog_1_method_3_code 94 = .ok (.invokevirtual 89, 3) := by decide +kernel
theorem dd_sg_ask_97 : decode prog_1_method_3_code 97 = .ok (.ireturn, 1) := by decide +kernel
theorem dd_sg_needShop_0 : decode prog_1_method_19_code 0 = .ok (.iload_n 0, 1) := by decide +kernel
theorem dd_sg_needShop_1 : decode prog_1_method_19_code 1 = .ok (.ifCond .lt 9, 3) := by decide +kernel
theorem dd_sg_needShop_4 : decode prog_1_method_19_code 4 = .ok (.iload_n 0, 1) := by decide +kernel
theorem dd_sg_needShop_5 : decode prog_1_method_19_code 5 = .ok (.bipush 25, 2) := by decide +kernel
theorem dd_sg_needShop_7 : decode prog_1_method_19_code 7 = .ok (.if_icmp .lt 13, 3) := by decide +kernel
theorem dd_sg_needShop_10 : decode prog_1_method_19_code 10 = .ok (.new 187, 3) := by decide +kernel
theorem dd_sg_needShop_13 : decode prog_1_method_19_code 13 = .ok (.dup, 1) := by decide +kernel
theorem dd_sg_needShop_14 : decode prog_1_method_19_code 14 = .ok (.ldc 192, 2) := by decide +kernel
theorem dd_sg_needShop_16 : decode prog_1_method_19_code 16 = .ok (.invokespecial 191, 3) := by decide +kernel
theorem dd_sg_needShop_19 : decode prog_1_method_19_code 19 = .ok (.athrow, 1) := by decide +kernel
theorem dd_sg_needShop_20 : decode prog_1_method_19_code 20 = .ok (.return_, 1) := by decide +kernel
theorem dd_sg_needUp_0 : decode prog_1_method_22_code 0 = .ok (.aload_n 0, 1) := by decide +kernel
theorem dd_sg_needUp_1 : decode prog_1_method_22_code 1 = .ok (.iload_n 1, 1) := by decide +kernel
theorem dd_sg_needUp_2 : decode prog_1_method_22_code 2 = .ok (.invokevirtual 126, 3) := by decide +kernel
theorem dd_sg_needUp_5 : decode prog_1_method_22_code 5 = .ok (.ifCond .ne 13, 3) := by decide +kernel
theorem dd_sg_needUp_8 : decode prog_1_method_22_code 8 = .ok (.new 44, 3) := by decide +kernel
theorem dd_sg_needUp_11 : decode prog_1_method_22_code 11 = .ok (.dup, 1) := by decide +kernel
theorem dd_sg_needUp_12 : decode prog_1_method_22_code 12 = .ok (.ldc 198, 2) := by decide +kernel
theorem dd_sg_needUp_14 : decode prog_1_method_22_code 14 = .ok (.invokespecial 48, 3) := by decide +kernel
theorem dd_sg_needUp_17 : decode prog_1_method_22_code 17 = .ok (.athrow, 1) := by decide +kernel
theorem dd_sg_needUp_18 : decode prog_1_method_22_code 18 = .ok (.return_, 1) := by decide +kernel
theorem dd_sg_isUp_0 : decode prog_1_method_23_code 0 = .ok (.aload_n 0, 1) := by decide +kernel
theorem dd_sg_isUp_1 : decode prog_1_method_23_code 1 = .ok (.getfield 32, 3) := by decide +kernel
theorem dd_sg_isUp_4 : decode prog_1_method_23_code 4 = .ok (.iload_n 1, 1) := by decide +kernel
theorem dd_sg_isUp_5 : decode prog_1_method_23_code 5 = .ok (.ishr, 1) := by decide +kernel
theorem dd_sg_isUp_6 : decode prog_1_method_23_code 6 = .ok (.iconst 1, 1) := by decide +kernel
theorem dd_sg_isUp_7 : decode prog_1_method_23_code 7 = .ok (.iand, 1) := by decide +kernel
theorem dd_sg_isUp_8 : decode prog_1_method_23_code 8 = .ok (.iconst 1, 1) := by decide +kernel
theorem dd_sg_isUp_9 : decode prog_1_method_23_code 9 = .ok (.if_icmp .ne 7, 3) := by decide +kernel
theorem dd_sg_isUp_12 : decode prog_1_method_23_code 12 = .ok (.iconst 1, 1) := by decide +kernel
theorem dd_sg_isUp_13 : decode prog_1_method_23_code 13 = .ok (.goto 4, 3) := by decide +kernel
theorem dd_sg_isUp_16 : decode prog_1_method_23_code 16 = .ok (.iconst 0, 1) := by decide +kernel
theorem dd_sg_isUp_17 : decode prog_1_method_23_code 17 = .ok (.ireturn, 1) := by decide +kernel
theorem dd_sg_dayOf_0 : decode prog_1_method_37_code 0 = .ok (.iload_n 0, 1) := by decide +kernel
theorem dd_sg_dayOf_1 : decode prog_1_method_37_code 1 = .ok (.ifCond .ge 7, 3) := by decide +kernel
theorem dd_sg_dayOf_4 : decode prog_1_method_37_code 4 = .ok (.iconst (-1), 1) := by decide +kernel
theorem dd_sg_dayOf_5 : decode prog_1_method_37_code 5 = .ok (.goto 7, 3) := by decide +kernel
theorem dd_sg_dayOf_8 : decode prog_1_method_37_code 8 = .ok (.iload_n 0, 1) := by decide +kernel
theorem dd_sg_dayOf_9 : decode prog_1_method_37_code 9 = .ok (.bipush 25, 2) := by decide +kernel
theorem dd_sg_dayOf_11 : decode prog_1_method_37_code 11 = .ok (.idiv, 1) := by decide +kernel
theorem dd_sg_dayOf_12 : decode prog_1_method_37_code 12 = .ok (.ireturn, 1) := by decide +kernel
theorem dd_sg_pairOf_0 : decode prog_1_method_35_code 0 = .ok (.iload_n 1, 1) := by decide +kernel
theorem dd_sg_pairOf_1 : decode prog_1_method_35_code 1 = .ok (.bipush 25, 2) := by decide +kernel
theorem dd_sg_pairOf_3 : decode prog_1_method_35_code 3 = .ok (.imul, 1) := by decide +kernel
theorem dd_sg_pairOf_4 : decode prog_1_method_35_code 4 = .ok (.iload_n 0, 1) := by decide +kernel
theorem dd_sg_pairOf_5 : decode prog_1_method_35_code 5 = .ok (.iadd, 1) := by decide +kernel
theorem dd_sg_pairOf_6 : decode prog_1_method_35_code 6 = .ok (.ireturn, 1) := by decide +kernel
theorem dd_sg_startRound_0 : decode prog_1_method_26_code 0 = .ok (.aload_n 1, 1) := by decide +kernel
theorem dd_sg_startRound_1 : decode prog_1_method_26_code 1 = .ok (.invokevirtual 203, 3) := by decide +kernel
theorem dd_sg_startRound_4 : decode prog_1_method_26_code 4 = .ok (.istore_n 2, 1) := by decide +kernel
theorem dd_sg_startRound_5 : decode prog_1_method_26_code 5 = .ok (.iload_n 2, 1) := by decide +kernel
theorem dd_sg_startRound_6 : decode prog_1_method_26_code 6 = .ok (.ifCond .ne 12, 3) := by decide +kernel
theorem dd_sg_startRound_9 : decode prog_1_method_26_code 9 = .ok (.aload_n 1, 1) := by decide +kernel
theorem dd_sg_startRound_10 : decode prog_1_method_26_code 10 = .ok (.getfield 72, 3) := by decide +kernel
theorem dd_sg_startRound_13 : decode prog_1_method_26_code 13 = .ok (.invokevirtual 200, 3) := by decide +kernel
theorem dd_sg_startRound_16 : decode prog_1_method_26_code 16 = .ok (.iconst 0, 1) := by decide +kernel
theorem dd_sg_startRound_17 : decode prog_1_method_26_code 17 = .ok (.ireturn, 1) := by decide +kernel
theorem dd_sg_startRound_18 : decode prog_1_method_26_code 18 = .ok (.aload_n 1, 1) := by decide +kernel
theorem dd_sg_startRound_19 : decode prog_1_method_26_code 19 = .ok (.iload_n 2, 1) := by decide +kernel
theorem dd_sg_startRound_20 : decode prog_1_method_26_code 20 = .ok (.putfield 206, 3) := by decide +kernel
theorem dd_sg_startRound_23 : decode prog_1_method_26_code 23 = .ok (.aload_n 1, 1) := by decide +kernel
theorem dd_sg_startRound_24 : decode prog_1_method_26_code 24 = .ok (.getfield 72, 3) := by decide +kernel
theorem dd_sg_startRound_27 : decode prog_1_method_26_code 27 = .ok (.iload_n 2, 1) := by decide +kernel
theorem dd_sg_startRound_28 : decode prog_1_method_26_code 28 = .ok (.invokevirtual 209, 3) := by decide +kernel
theorem dd_sg_startRound_31 : decode prog_1_method_26_code 31 = .ok (.aload_n 0, 1) := by decide +kernel
theorem dd_sg_startRound_32 : decode prog_1_method_26_code 32 = .ok (.aload_n 1, 1) := by decide +kernel
theorem dd_sg_startRound_33 : decode prog_1_method_26_code 33 = .ok (.iconst 1, 1) := by decide +kernel
theorem dd_sg_startRound_34 : decode prog_1_method_26_code 34 = .ok (.iconst (-1), 1) := by decide +kernel
theorem dd_sg_startRound_35 : decode prog_1_method_26_code 35 = .ok (.invokevirtual 212, 3) := by decide +kernel
theorem dd_sg_startRound_38 : decode prog_1_method_26_code 38 = .ok (.ireturn, 1) := by decide +kernel
theorem dd_sg_sendToAll_0 : decode prog_1_method_27_code 0 = .ok (.aload_n 1, 1) := by decide +kernel
theorem dd_sg_sendToAll_1 : decode prog_1_method_27_code 1 = .ok (.getfield 72, 3) := by decide +kernel
theorem dd_sg_sendToAll_4 : decode prog_1_method_27_code 4 = .ok (.astore 4, 2) := by decide +kernel
theorem dd_sg_sendToAll_6 : decode prog_1_method_27_code 6 = .ok (.aload_n 0, 1) := by decide +kernel
theorem dd_sg_sendToAll_7 : decode prog_1_method_27_code 7 = .ok (.getfield 27, 3) := by decide +kernel
theorem dd_sg_sendToAll_10 : decode prog_1_method_27_code 10 = .ok (.getfield 132, 3) := by decide +kernel
theorem dd_sg_sendToAll_13 : decode prog_1_method_27_code 13 = .ok (.iload_n 2, 1) := by decide +kernel
theorem dd_sg_sendToAll_14 : decode prog_1_method_27_code 14 = .ok (.aload_n 1, 1) := by decide +kernel
theorem dd_sg_sendToAll_15 : decode prog_1_method_27_code 15 = .ok (.getfield 216, 3) := by decide +kernel
theorem dd_sg_sendToAll_18 : decode prog_1_method_27_code 18 = .ok (.aload_n 1, 1) := by decide +kernel
theorem dd_sg_sendToAll_19 : decode prog_1_method_27_code 19 = .ok (.getfield 219, 3) := by decide +kernel
theorem dd_sg_sendToAll_22 : decode prog_1_method_27_code 22 = .ok (.aload 4, 2) := by decide +kernel
theorem dd_sg_sendToAll_24 : decode prog_1_method_27_code 24 = .ok (.getfield 222, 3) := by decide +kernel
theorem dd_sg_sendToAll_27 : decode prog_1_method_27_code 27 = .ok (.aload 4, 2) := by decide +kernel
theorem dd_sg_sendToAll_29 : decode prog_1_method_27_code 29 = .ok (.getfield 225, 3) := by decide +kernel
theorem dd_sg_sendToAll_32 : decode prog_1_method_27_code 32 = .ok (.aload_n 1, 1) := by decide +kernel
theorem dd_sg_sendToAll_33 : decode prog_1_method_27_code 33 = .ok (.getfield 136, 3) := by decide +kernel
theorem dd_sg_sendToAll_36 : decode prog_1_method_27_code 36 = .ok (.invokevirtual 140, 3) := by decide +kernel
theorem dd_sg_sendToAll_39 : decode prog_1_method_27_code 39 = .ok (.aload_n 0, 1) := by decide +kernel
theorem dd_sg_sendToAll_40 : decode prog_1_method_27_code 40 = .ok (.getfield 27, 3) := by decide +kernel
theorem dd_sg_sendToAll_43 : decode prog_1_method_27_code 43 = .ok (.getfield 132, 3) := by decide +kernel
theorem dd_sg_sendToAll_46 : decode prog_1_method_27_code 46 = .ok (.iload_n 3, 1) := by decide +kernel
theorem dd_sg_sendToAll_47 : decode prog_1_method_27_code 47 = .ok (.putfield 228, 3) := by decide +kernel
theorem dd_sg_sendToAll_50 : decode prog_1_method_27_code 50 = .ok (.iconst 0, 1) := by decide +kernel
theorem dd_sg_sendToAll_51 : decode prog_1_method_27_code 51 = .ok (.istore 5, 2) := by decide +kernel
theorem dd_sg_sendToAll_53 : decode prog_1_method_27_code 53 = .ok (.iload 5, 2) := by decide +kernel
theorem dd_sg_sendToAll_55 : decode prog_1_method_27_code 55 = .ok (.bipush 25, 2) := by decide +kernel
theorem dd_sg_sendToAll_57 : decode prog_1_method_27_code 57 = .ok (.if_icmp .ge 19, 3) := by decide +kernel
theorem dd_sg_sendToAll_60 : decode prog_1_method_27_code 60 = .ok (.aload_n 0, 1) := by decide +kernel
theorem dd_sg_sendToAll_61 : decode prog_1_method_27_code 61 = .ok (.getfield 27, 3) := by decide +kernel
theorem dd_sg_sendToAll_64 : decode prog_1_method_27_code 64 = .ok (.iload 5, 2) := by decide +kernel
theorem dd_sg_sendToAll_66 : decode prog_1_method_27_code 66 = .ok (.invokevirtual 144, 3) := by decide +kernel
theorem dd_sg_sendToAll_69 : decode prog_1_method_27_code 69 = .ok (.pop, 1) := by decide +kernel
theorem dd_sg_sendToAll_70 : decode prog_1_method_27_code 70 = .ok (.iinc 5 1, 3) := by decide +kernel
theorem dd_sg_sendToAll_73 : decode prog_1_method_27_code 73 = .ok (.goto (-20), 3) := by decide +kernel
theorem dd_sg_sendToAll_76 : decode prog_1_method_27_code 76 = .ok (.bipush 25, 2) := by decide +kernel
theorem dd_sg_sendToAll_78 : decode prog_1_method_27_code 78 = .ok (.ireturn, 1) := by decide +kernel
theorem dd_sg_retry_0 : decode prog_1_method_4_code 0 = .ok (.iload_n 1, 1) := by decide +kernel
theorem dd_sg_retry_1 : decode prog_1_method_4_code 1 = .ok (.invokestatic 53, 3) := by decide +kernel
theorem dd_sg_retry_4 : decode prog_1_method_4_code 4 = .ok (.iload_n 2, 1) := by decide +kernel
theorem dd_sg_retry_5 : decode prog_1_method_4_code 5 = .ok (.invokestatic 36, 3) := by decide +kernel
theorem dd_sg_retry_8 : decode prog_1_method_4_code 8 = .ok (.aload_n 0, 1) := by decide +kernel
theorem dd_sg_retry_9 : decode prog_1_method_4_code 9 = .ok (.iload_n 1, 1) := by decide +kernel
theorem dd_sg_retry_10 : decode prog_1_method_4_code 10 = .ok (.invokevirtual 59, 3) := by decide +kernel
theorem dd_sg_retry_13 : decode prog_1_method_4_code 13 = .ok (.aload_n 0, 1) := by decide +kernel
theorem dd_sg_retry_14 : decode prog_1_method_4_code 14 = .ok (.iload_n 1, 1) := by decide +kernel
theorem dd_sg_retry_15 : decode prog_1_method_4_code 15 = .ok (.iload_n 2, 1) := by decide +kernel
theorem dd_sg_retry_16 : decode prog_1_method_4_code 16 = .ok (.invokevirtual 93, 3) := by decide +kernel
theorem dd_sg_retry_19 : decode prog_1_method_4_code 19 = .ok (.astore_n 3, 1) := by decide +kernel
theorem dd_sg_retry_20 : decode prog_1_method_4_code 20 = .ok (.aload_n 3, 1) := by decide +kernel
theorem dd_sg_retry_21 : decode prog_1_method_4_code 21 = .ok (.getfield 72, 3) := by decide +kernel
theorem dd_sg_retry_24 : decode prog_1_method_4_code 24 = .ok (.invokevirtual 97, 3) := by decide +kernel
theorem dd_sg_retry_27 : decode prog_1_method_4_code 27 = .ok (.ifCond .ne 13, 3) := by decide +kernel
theorem dd_sg_retry_30 : decode prog_1_method_4_code 30 = .ok (.new 44, 3) := by decide +kernel
theorem dd_sg_retry_33 : decode prog_1_method_4_code 33 = .ok (.dup, 1) := by decide +kernel
theorem dd_sg_retry_34 : decode prog_1_method_4_code 34 = .ok (.ldc 101, 2) := by decide +kernel
theorem dd_sg_retry_36 : decode prog_1_method_4_code 36 = .ok (.invokespecial 48, 3) := by decide +kernel
theorem dd_sg_retry_39 : decode prog_1_method_4_code 39 = .ok (.athrow, 1) := by decide +kernel
theorem dd_sg_retry_40 : decode prog_1_method_4_code 40 = .ok (.aload_n 0, 1) := by decide +kernel
theorem dd_sg_retry_41 : decode prog_1_method_4_code 41 = .ok (.aload_n 3, 1) := by decide +kernel
theorem dd_sg_retry_42 : decode prog_1_method_4_code 42 = .ok (.invokevirtual 89, 3) := by decide +kernel
theorem dd_sg_retry_45 : decode prog_1_method_4_code 45 = .ok (.ireturn, 1) := by decide +kernel
theorem dd_sg_deskOf_0 : decode prog_1_method_24_code 0 = .ok (.aload_n 0, 1) := by decide +kernel
theorem dd_sg_deskOf_1 : decode prog_1_method_24_code 1 = .ok (.getfield 11, 3) := by decide +kernel
theorem dd_sg_deskOf_4 : decode prog_1_method_24_code 4 = .ok (.iload_n 2, 1) := by decide +kernel
theorem dd_sg_deskOf_5 : decode prog_1_method_24_code 5 = .ok (.aaload, 1) := by decide +kernel
theorem dd_sg_deskOf_6 : decode prog_1_method_24_code 6 = .ok (.astore_n 3, 1) := by decide +kernel
theorem dd_sg_deskOf_7 : decode prog_1_method_24_code 7 = .ok (.aload_n 3, 1) := by decide +kernel
theorem dd_sg_deskOf_8 : decode prog_1_method_24_code 8 = .ok (.ifnonnull 10, 3) := by decide +kernel
theorem dd_sg_deskOf_11 : decode prog_1_method_24_code 11 = .ok (.aload_n 0, 1) := by decide +kernel
theorem dd_sg_deskOf_12 : decode prog_1_method_24_code 12 = .ok (.getfield 20, 3) := by decide +kernel
theorem dd_sg_deskOf_15 : decode prog_1_method_24_code 15 = .ok (.goto 9, 3) := by decide +kernel
theorem dd_sg_deskOf_18 : decode prog_1_method_24_code 18 = .ok (.aload_n 3, 1) := by decide +kernel
theorem dd_sg_deskOf_19 : decode prog_1_method_24_code 19 = .ok (.getfield 62, 3) := by decide +kernel
theorem dd_sg_deskOf_22 : decode prog_1_method_24_code 22 = .ok (.iload_n 1, 1) := by decide +kernel
theorem dd_sg_deskOf_23 : decode prog_1_method_24_code 23 = .ok (.aaload, 1) := by decide +kernel
theorem dd_sg_deskOf_24 : decode prog_1_method_24_code 24 = .ok (.areturn, 1) := by decide +kernel
theorem dd_sg_deliver_0 : decode prog_1_method_5_code 0 = .ok (.aload_n 0, 1) := by decide +kernel
theorem dd_sg_deliver_1 : decode prog_1_method_5_code 1 = .ok (.iload_n 1, 1) := by decide +kernel
theorem dd_sg_deliver_2 : decode prog_1_method_5_code 2 = .ok (.invokevirtual 103, 3) := by decide +kernel
theorem dd_sg_deliver_5 : decode prog_1_method_5_code 5 = .ok (.aload_n 0, 1) := by decide +kernel
theorem dd_sg_deliver_6 : decode prog_1_method_5_code 6 = .ok (.aload_n 0, 1) := by decide +kernel
theorem dd_sg_deliver_7 : decode prog_1_method_5_code 7 = .ok (.getfield 27, 3) := by decide +kernel
theorem dd_sg_deliver_10 : decode prog_1_method_5_code 10 = .ok (.iload_n 1, 1) := by decide +kernel
theorem dd_sg_deliver_11 : decode prog_1_method_5_code 11 = .ok (.invokevirtual 106, 3) := by decide +kernel
theorem dd_sg_deliver_14 : decode prog_1_method_5_code 14 = .ok (.invokevirtual 110, 3) := by decide +kernel
theorem dd_sg_deliver_17 : decode prog_1_method_5_code 17 = .ok (.ireturn, 1) := by decide +kernel
theorem dd_sg_needLetter_0 : decode prog_1_method_21_code 0 = .ok (.iload_n 1, 1) := by decide +kernel
theorem dd_sg_needLetter_1 : decode prog_1_method_21_code 1 = .ok (.ifCond .lt 14, 3) := by decide +kernel
theorem dd_sg_needLetter_4 : decode prog_1_method_21_code 4 = .ok (.iload_n 1, 1) := by decide +kernel
theorem dd_sg_needLetter_5 : decode prog_1_method_21_code 5 = .ok (.aload_n 0, 1) := by decide +kernel
theorem dd_sg_needLetter_6 : decode prog_1_method_21_code 6 = .ok (.getfield 27, 3) := by decide +kernel
theorem dd_sg_needLetter_9 : decode prog_1_method_21_code 9 = .ok (.getfield 123, 3) := by decide +kernel
theorem dd_sg_needLetter_12 : decode prog_1_method_21_code 12 = .ok (.if_icmp .lt 13, 3) := by decide +kernel
theorem dd_sg_needLetter_15 : decode prog_1_method_21_code 15 = .ok (.new 187, 3) := by decide +kernel
theorem dd_sg_needLetter_18 : decode prog_1_method_21_code 18 = .ok (.dup, 1) := by decide +kernel
theorem dd_sg_needLetter_19 : decode prog_1_method_21_code 19 = .ok (.ldc 196, 2) := by decide +kernel
theorem dd_sg_needLetter_21 : decode prog_1_method_21_code 21 = .ok (.invokespecial 191, 3) := by decide +kernel
theorem dd_sg_needLetter_24 : decode prog_1_method_21_code 24 = .ok (.athrow, 1) := by decide +kernel
theorem dd_sg_needLetter_25 : decode prog_1_method_21_code 25 = .ok (.return_, 1) := by decide +kernel
theorem dd_sg_handOver_0 : decode prog_1_method_28_code 0 = .ok (.aload_n 0, 1) := by decide +kernel
theorem dd_sg_handOver_1 : decode prog_1_method_28_code 1 = .ok (.aload_n 1, 1) := by decide +kernel
theorem dd_sg_handOver_2 : decode prog_1_method_28_code 2 = .ok (.getfield 231, 3) := by decide +kernel
theorem dd_sg_handOver_5 : decode prog_1_method_28_code 5 = .ok (.invokevirtual 126, 3) := by decide +kernel
theorem dd_sg_handOver_8 : decode prog_1_method_28_code 8 = .ok (.ifCond .ne 18, 3) := by decide +kernel
theorem dd_sg_handOver_11 : decode prog_1_method_28_code 11 = .ok (.aload_n 0, 1) := by decide +kernel
theorem dd_sg_handOver_12 : decode prog_1_method_28_code 12 = .ok (.getfield 27, 3) := by decide +kernel
theorem dd_sg_handOver_15 : decode prog_1_method_28_code 15 = .ok (.dup, 1) := by decide +kernel
theorem dd_sg_handOver_16 : decode prog_1_method_28_code 16 = .ok (.getfield 181, 3) := by decide +kernel
theorem dd_sg_handOver_19 : decode prog_1_method_28_code 19 = .ok (.iconst 1, 1) := by decide +kernel
theorem dd_sg_handOver_20 : decode prog_1_method_28_code 20 = .ok (.iadd, 1) := by decide +kernel
theorem dd_sg_handOver_21 : decode prog_1_method_28_code 21 = .ok (.putfield 181, 3) := by decide +kernel
theorem dd_sg_handOver_24 : decode prog_1_method_28_code 24 = .ok (.iconst 0, 1) := by decide +kernel
theorem dd_sg_handOver_25 : decode prog_1_method_28_code 25 = .ok (.ireturn, 1) := by decide +kernel
theorem dd_sg_handOver_26 : decode prog_1_method_28_code 26 = .ok (.aload_n 0, 1) := by decide +kernel
theorem dd_sg_handOver_27 : decode prog_1_method_28_code 27 = .ok (.aload_n 1, 1) := by decide +kernel
theorem dd_sg_handOver_28 : decode prog_1_method_28_code 28 = .ok (.getfield 231, 3) := by decide +kernel
theorem dd_sg_handOver_31 : decode prog_1_method_28_code 31 = .ok (.aload_n 1, 1) := by decide +kernel
theorem dd_sg_handOver_32 : decode prog_1_method_28_code 32 = .ok (.getfield 234, 3) := by decide +kernel
theorem dd_sg_handOver_35 : decode prog_1_method_28_code 35 = .ok (.invokevirtual 93, 3) := by decide +kernel
theorem dd_sg_handOver_38 : decode prog_1_method_28_code 38 = .ok (.astore_n 2, 1) := by decide +kernel
theorem dd_sg_handOver_39 : decode prog_1_method_28_code 39 = .ok (.aload_n 2, 1) := by decide +kernel
theorem dd_sg_handOver_40 : decode prog_1_method_28_code 40 = .ok (.aload_n 1, 1) := by decide +kernel
theorem dd_sg_handOver_41 : decode prog_1_method_28_code 41 = .ok (.getfield 235, 3) := by decide +kernel
theorem dd_sg_handOver_44 : decode prog_1_method_28_code 44 = .ok (.invokevirtual 236, 3) := by decide +kernel
theorem dd_sg_handOver_47 : decode prog_1_method_28_code 47 = .ok (.aload_n 1, 1) := by decide +kernel
theorem dd_sg_handOver_48 : decode prog_1_method_28_code 48 = .ok (.getfield 114, 3) := by decide +kernel
theorem dd_sg_handOver_51 : decode prog_1_method_28_code 51 = .ok (.tableswitch 64 1 5 #[33, 40, 33, 47, 54], 33) := by decide +kernel
theorem dd_sg_handOver_84 : decode prog_1_method_28_code 84 = .ok (.aload_n 0, 1) := by decide +kernel
theorem dd_sg_handOver_85 : decode prog_1_method_28_code 85 = .ok (.aload_n 2, 1) := by decide +kernel
theorem dd_sg_handOver_86 : decode prog_1_method_28_code 86 = .ok (.aload_n 1, 1) := by decide +kernel
theorem dd_sg_handOver_87 : decode prog_1_method_28_code 87 = .ok (.invokevirtual 240, 3) := by decide +kernel
theorem dd_sg_handOver_90 : decode prog_1_method_28_code 90 = .ok (.ireturn, 1) := by decide +kernel
theorem dd_sg_handOver_91 : decode prog_1_method_28_code 91 = .ok (.aload_n 0, 1) := by decide +kernel
theorem dd_sg_handOver_92 : decode prog_1_method_28_code 92 = .ok (.aload_n 2, 1) := by decide +kernel
theorem dd_sg_handOver_93 : decode prog_1_method_28_code 93 = .ok (.aload_n 1, 1) := by decide +kernel
theorem dd_sg_handOver_94 : decode prog_1_method_28_code 94 = .ok (.invokevirtual 244, 3) := by decide +kernel
theorem dd_sg_handOver_97 : decode prog_1_method_28_code 97 = .ok (.ireturn, 1) := by decide +kernel
theorem dd_sg_handOver_98 : decode prog_1_method_28_code 98 = .ok (.aload_n 2, 1) := by decide +kernel
theorem dd_sg_handOver_99 : decode prog_1_method_28_code 99 = .ok (.aload_n 1, 1) := by decide +kernel
theorem dd_sg_handOver_100 : decode prog_1_method_28_code 100 = .ok (.invokestatic 247, 3) := by decide +kernel
theorem dd_sg_handOver_103 : decode prog_1_method_28_code 103 = .ok (.iconst 0, 1) := by decide +kernel
theorem dd_sg_handOver_104 : decode prog_1_method_28_code 104 = .ok (.ireturn, 1) := by decide +kernel
theorem dd_sg_handOver_105 : decode prog_1_method_28_code 105 = .ok (.aload_n 2, 1) := by decide +kernel
theorem dd_sg_handOver_106 : decode prog_1_method_28_code 106 = .ok (.getfield 72, 3) := by decide +kernel
theorem dd_sg_handOver_109 : decode prog_1_method_28_code 109 = .ok (.aload_n 1, 1) := by decide +kernel
theorem dd_sg_handOver_110 : decode prog_1_method_28_code 110 = .ok (.invokevirtual 251, 3) := by decide +kernel
theorem dd_sg_handOver_113 : decode prog_1_method_28_code 113 = .ok (.iconst 0, 1) := by decide +kernel
theorem dd_sg_handOver_114 : decode prog_1_method_28_code 114 = .ok (.ireturn, 1) := by decide +kernel
theorem dd_sg_handOver_115 : decode prog_1_method_28_code 115 = .ok (.iconst 0, 1) := by decide +kernel
theorem dd_sg_handOver_116 : decode prog_1_method_28_code 116 = .ok (.ireturn, 1) := by decide +kernel
theorem dd_sg_answerAsker_0 : decode prog_1_method_29_code 0 = .ok (.aload_n 2, 1) := by decide +kernel
theorem dd_sg_answerAsker_1 : decode prog_1_method_29_code 1 = .ok (.getfield 255, 3) := by decide +kernel
theorem dd_sg_answerAsker_4 : decode prog_1_method_29_code 4 = .ok (.aload_n 1, 1) := by decide +kernel
theorem dd_sg_answerAsker_5 : decode prog_1_method_29_code 5 = .ok (.invokevirtual 76, 3) := by decide +kernel
theorem dd_sg_answerAsker_8 : decode prog_1_method_29_code 8 = .ok (.if_icmp .ge 14, 3) := by decide +kernel
theorem dd_sg_answerAsker_11 : decode prog_1_method_29_code 11 = .ok (.aload_n 0, 1) := by decide +kernel
theorem dd_sg_answerAsker_12 : decode prog_1_method_29_code 12 = .ok (.aload_n 1, 1) := by decide +kernel
theorem dd_sg_answerAsker_13 : decode prog_1_method_29_code 13 = .ok (.aload_n 2, 1) := by decide +kernel
theorem dd_sg_answerAsker_14 : decode prog_1_method_29_code 14 = .ok (.bipush 6, 2) := by decide +kernel
theorem dd_sg_answerAsker_16 : decode prog_1_method_29_code 16 = .ok (.iconst 0, 1) := by decide +kernel
theorem dd_sg_answerAsker_17 : decode prog_1_method_29_code 17 = .ok (.iconst (-1), 1) := by decide +kernel
theorem dd_sg_answerAsker_18 : decode prog_1_method_29_code 18 = .ok (.invokevirtual 256, 3) := by decide +kernel
theorem dd_sg_answerAsker_21 : decode prog_1_method_29_code 21 = .ok (.ireturn, 1) := by decide +kernel
theorem dd_sg_answerAsker_22 : decode prog_1_method_29_code 22 = .ok (.aload_n 2, 1) := by decide +kernel
theorem dd_sg_answerAsker_23 : decode prog_1_method_29_code 23 = .ok (.getfield 260, 3) := by decide +kernel
theorem dd_sg_answerAsker_26 : decode prog_1_method_29_code 26 = .ok (.aload_n 1, 1) := by decide +kernel
theorem dd_sg_answerAsker_27 : decode prog_1_method_29_code 27 = .ok (.getfield 261, 3) := by decide +kernel
theorem dd_sg_answerAsker_30 : decode prog_1_method_29_code 30 = .ok (.if_icmp .ge 16, 3) := by decide +kernel
theorem dd_sg_answerAsker_33 : decode prog_1_method_29_code 33 = .ok (.aload_n 0, 1) := by decide +kernel
theorem dd_sg_answerAsker_34 : decode prog_1_method_29_code 34 = .ok (.aload_n 1, 1) := by decide +kernel
theorem dd_sg_answerAsker_35 : decode prog_1_method_29_code 35 = .ok (.aload_n 2, 1) := by decide +kernel
theorem dd_sg_answerAsker_36 : decode prog_1_method_29_code 36 = .ok (.iconst 5, 1) := by decide +kernel
theorem dd_sg_answerAsker_37 : decode prog_1_method_29_code 37 = .ok (.aload_n 1, 1) := by decide +kernel
theorem dd_sg_answerAsker_38 : decode prog_1_method_29_code 38 = .ok (.getfield 261, 3) := by decide +kernel
theorem dd_sg_answerAsker_41 : decode prog_1_method_29_code 41 = .ok (.iconst (-1), 1) := by decide +kernel
theorem dd_sg_answerAsker_42 : decode prog_1_method_29_code 42 = .ok (.invokevirtual 256, 3) := by decide +kernel
theorem dd_sg_answerAsker_45 : decode prog_1_method_29_code 45 = .ok (.ireturn, 1) := by decide +kernel
theorem dd_sg_answerAsker_46 : decode prog_1_method_29_code 46 = .ok (.aload_n 1, 1) := by decide +kernel
theorem dd_sg_answerAsker_47 : decode prog_1_method_29_code 47 = .ok (.aload_n 2, 1) := by decide +kernel
theorem dd_sg_answerAsker_48 : decode prog_1_method_29_code 48 = .ok (.getfield 260, 3) := by decide +kernel
theorem dd_sg_answerAsker_51 : decode prog_1_method_29_code 51 = .ok (.putfield 261, 3) := by decide +kernel
theorem dd_sg_answerAsker_54 : decode prog_1_method_29_code 54 = .ok (.aload_n 2, 1) := by decide +kernel
theorem dd_sg_answerAsker_55 : decode prog_1_method_29_code 55 = .ok (.getfield 114, 3) := by decide +kernel
theorem dd_sg_answerAsker_58 : decode prog_1_method_29_code 58 = .ok (.iconst 1, 1) := by decide +kernel
theorem dd_sg_answerAsker_59 : decode prog_1_method_29_code 59 = .ok (.if_icmp .ne 19, 3) := by decide +kernel
theorem dd_sg_answerAsker_62 : decode prog_1_method_29_code 62 = .ok (.aload_n 0, 1) := by decide +kernel
theorem dd_sg_answerAsker_63 : decode prog_1_method_29_code 63 = .ok (.aload_n 1, 1) := by decide +kernel
theorem dd_sg_answerAsker_64 : decode prog_1_method_29_code 64 = .ok (.aload_n 2, 1) := by decide +kernel
theorem dd_sg_answerAsker_65 : decode prog_1_method_29_code 65 = .ok (.iconst 2, 1) := by decide +kernel
theorem dd_sg_answerAsker_66 : decode prog_1_method_29_code 66 = .ok (.aload_n 1, 1) := by decide +kernel
theorem dd_sg_answerAsker_67 : decode prog_1_method_29_code 67 = .ok (.getfield 264, 3) := by decide +kernel
theorem dd_sg_answerAsker_70 : decode prog_1_method_29_code 70 = .ok (.aload_n 1, 1) := by decide +kernel
theorem dd_sg_answerAsker_71 : decode prog_1_method_29_code 71 = .ok (.getfield 267, 3) := by decide +kernel
theorem dd_sg_answerAsker_74 : decode prog_1_method_29_code 74 = .ok (.invokevirtual 256, 3) := by decide +kernel
theorem dd_sg_answerAsker_77 : decode prog_1_method_29_code 77 = .ok (.ireturn, 1) := by decide +kernel
theorem dd_sg_answerAsker_78 : decode prog_1_method_29_code 78 = .ok (.aload_n 1, 1) := by decide +kernel
theorem dd_sg_answerAsker_79 : decode prog_1_method_29_code 79 = .ok (.aload_n 2, 1) := by decide +kernel
theorem dd_sg_answerAsker_80 : decode prog_1_method_29_code 80 = .ok (.getfield 260, 3) := by decide +kernel
theorem dd_sg_answerAsker_83 : decode prog_1_method_29_code 83 = .ok (.putfield 264, 3) := by decide +kernel
theorem dd_sg_answerAsker_86 : decode prog_1_method_29_code 86 = .ok (.aload_n 1, 1) := by decide +kernel
theorem dd_sg_answerAsker_87 : decode prog_1_method_29_code 87 = .ok (.aload_n 2, 1) := by decide +kernel
theorem dd_sg_answerAsker_88 : decode prog_1_method_29_code 88 = .ok (.getfield 228, 3) := by decide +kernel
theorem dd_sg_answerAsker_91 : decode prog_1_method_29_code 91 = .ok (.putfield 267, 3) := by decide +kernel
theorem dd_sg_answerAsker_94 : decode prog_1_method_29_code 94 = .ok (.aload_n 0, 1) := by decide +kernel
theorem dd_sg_answerAsker_95 : decode prog_1_method_29_code 95 = .ok (.aload_n 1, 1) := by decide +kernel
theorem dd_sg_answerAsker_96 : decode prog_1_method_29_code 96 = .ok (.aload_n 2, 1) := by decide +kernel
theorem dd_sg_answerAsker_97 : decode prog_1_method_29_code 97 = .ok (.iconst 4, 1) := by decide +kernel
theorem dd_sg_answerAsker_98 : decode prog_1_method_29_code 98 = .ok (.iconst 0, 1) := by decide +kernel
theorem dd_sg_answerAsker_99 : decode prog_1_method_29_code 99 = .ok (.iconst (-1), 1) := by decide +kernel
theorem dd_sg_answerAsker_100 : decode prog_1_method_29_code 100 = .ok (.invokevirtual 256, 3) := by decide +kernel
theorem dd_sg_answerAsker_103 : decode prog_1_method_29_code 103 = .ok (.ireturn, 1) := by decide +kernel
theorem dd_sg_answer_0 : decode prog_1_method_30_code 0 = .ok (.aload_n 0, 1) := by decide +kernel
theorem dd_sg_answer_1 : decode prog_1_method_30_code 1 = .ok (.getfield 27, 3) := by decide +kernel
theorem dd_sg_answer_4 : decode prog_1_method_30_code 4 = .ok (.getfield 132, 3) := by decide +kernel
theorem dd_sg_answer_7 : decode prog_1_method_30_code 7 = .ok (.astore 6, 2) := by decide +kernel
theorem dd_sg_answer_9 : decode prog_1_method_30_code 9 = .ok (.aload 6, 2) := by decide +kernel
theorem dd_sg_answer_11 : decode prog_1_method_30_code 11 = .ok (.iload_n 3, 1) := by decide +kernel
theorem dd_sg_answer_12 : decode prog_1_method_30_code 12 = .ok (.aload_n 2, 1) := by decide +kernel
theorem dd_sg_answer_13 : decode prog_1_method_30_code 13 = .ok (.getfield 231, 3) := by decide +kernel
theorem dd_sg_answer_16 : decode prog_1_method_30_code 16 = .ok (.aload_n 2, 1) := by decide +kernel
theorem dd_sg_answer_17 : decode prog_1_method_30_code 17 = .ok (.getfield 234, 3) := by decide +kernel
theorem dd_sg_answer_20 : decode prog_1_method_30_code 20 = .ok (.aload_n 2, 1) := by decide +kernel
theorem dd_sg_answer_21 : decode prog_1_method_30_code 21 = .ok (.getfield 255, 3) := by decide +kernel
theorem dd_sg_answer_24 : decode prog_1_method_30_code 24 = .ok (.aload_n 2, 1) := by decide +kernel
theorem dd_sg_answer_25 : decode prog_1_method_30_code 25 = .ok (.getfield 260, 3) := by decide +kernel
theorem dd_sg_answer_28 : decode prog_1_method_30_code 28 = .ok (.aload_n 1, 1) := by decide +kernel
theorem dd_sg_answer_29 : decode prog_1_method_30_code 29 = .ok (.getfield 136, 3) := by decide +kernel
theorem dd_sg_answer_32 : decode prog_1_method_30_code 32 = .ok (.invokevirtual 140, 3) := by decide +kernel
theorem dd_sg_answer_35 : decode prog_1_method_30_code 35 = .ok (.aload 6, 2) := by decide +kernel
theorem dd_sg_answer_37 : decode prog_1_method_30_code 37 = .ok (.iload 4, 2) := by decide +kernel
theorem dd_sg_answer_39 : decode prog_1_method_30_code 39 = .ok (.putfield 270, 3) := by decide +kernel
theorem dd_sg_answer_42 : decode prog_1_method_30_code 42 = .ok (.aload 6, 2) := by decide +kernel
theorem dd_sg_answer_44 : decode prog_1_method_30_code 44 = .ok (.iload 5, 2) := by decide +kernel
theorem dd_sg_answer_46 : decode prog_1_method_30_code 46 = .ok (.putfield 228, 3) := by decide +kernel
theorem dd_sg_answer_49 : decode prog_1_method_30_code 49 = .ok (.aload_n 0, 1) := by decide +kernel
theorem dd_sg_answer_50 : decode prog_1_method_30_code 50 = .ok (.getfield 27, 3) := by decide +kernel
theorem dd_sg_answer_53 : decode prog_1_method_30_code 53 = .ok (.aload_n 2, 1) := by decide +kernel
theorem dd_sg_answer_54 : decode prog_1_method_30_code 54 = .ok (.getfield 273, 3) := by decide +kernel
theorem dd_sg_answer_57 : decode prog_1_method_30_code 57 = .ok (.invokevirtual 144, 3) := by decide +kernel
theorem dd_sg_answer_60 : decode prog_1_method_30_code 60 = .ok (.pop, 1) := by decide +kernel
theorem dd_sg_answer_61 : decode prog_1_method_30_code 61 = .ok (.iconst 1, 1) := by decide +kernel
theorem dd_sg_answer_62 : decode prog_1_method_30_code 62 = .ok (.ireturn, 1) := by decide +kernel
theorem dd_sg_countPromise_0 : decode prog_1_method_31_code 0 = .ok (.aload_n 1, 1) := by decide +kernel
theorem dd_sg_countPromise_1 : decode prog_1_method_31_code 1 = .ok (.getfield 72, 3) := by decide +kernel
theorem dd_sg_countPromise_4 : decode prog_1_method_31_code 4 = .ok (.astore_n 3, 1) := by decide +kernel
theorem dd_sg_countPromise_5 : decode prog_1_method_31_code 5 = .ok (.aload_n 3, 1) := by decide +kernel
theorem dd_sg_countPromise_6 : decode prog_1_method_31_code 6 = .ok (.aload_n 2, 1) := by decide +kernel
theorem dd_sg_countPromise_7 : decode prog_1_method_31_code 7 = .ok (.iconst 1, 1) := by decide +kernel
theorem dd_sg_countPromise_8 : decode prog_1_method_31_code 8 = .ok (.invokevirtual 276, 3) := by decide +kernel
theorem dd_sg_countPromise_11 : decode prog_1_method_31_code 11 = .ok (.ifCond .ne 5, 3) := by decide +kernel
theorem dd_sg_countPromise_14 : decode prog_1_method_31_code 14 = .ok (.iconst 0, 1) := by decide +kernel
theorem dd_sg_countPromise_15 : decode prog_1_method_31_code 15 = .ok (.ireturn, 1) := by decide +kernel
theorem dd_sg_countPromise_16 : decode prog_1_method_31_code 16 = .ok (.aload_n 3, 1) := by decide +kernel
theorem dd_sg_countPromise_17 : decode prog_1_method_31_code 17 = .ok (.aload_n 2, 1) := by decide +kernel
theorem dd_sg_countPromise_18 : decode prog_1_method_31_code 18 = .ok (.invokevirtual 280, 3) := by decide +kernel
theorem dd_sg_countPromise_21 : decode prog_1_method_31_code 21 = .ok (.aload_n 3, 1) := by decide +kernel
theorem dd_sg_countPromise_22 : decode prog_1_method_31_code 22 = .ok (.getfield 283, 3) := by decide +kernel
theorem dd_sg_countPromise_25 : decode prog_1_method_31_code 25 = .ok (.invokestatic 172, 3) := by decide +kernel
theorem dd_sg_countPromise_28 : decode prog_1_method_31_code 28 = .ok (.ifCond .ne 5, 3) := by decide +kernel
theorem dd_sg_countPromise_31 : decode prog_1_method_31_code 31 = .ok (.iconst 0, 1) := by decide +kernel
theorem dd_sg_countPromise_32 : decode prog_1_method_31_code 32 = .ok (.ireturn, 1) := by decide +kernel
theorem dd_sg_countPromise_33 : decode prog_1_method_31_code 33 = .ok (.aload_n 3, 1) := by decide +kernel
theorem dd_sg_countPromise_34 : decode prog_1_method_31_code 34 = .ok (.invokevirtual 286, 3) := by decide +kernel
theorem dd_sg_countPromise_37 : decode prog_1_method_31_code 37 = .ok (.aload_n 0, 1) := by decide +kernel
theorem dd_sg_countPromise_38 : decode prog_1_method_31_code 38 = .ok (.aload_n 1, 1) := by decide +kernel
theorem dd_sg_countPromise_39 : decode prog_1_method_31_code 39 = .ok (.iconst 3, 1) := by decide +kernel
theorem dd_sg_countPromise_40 : decode prog_1_method_31_code 40 = .ok (.aload_n 3, 1) := by decide +kernel
theorem dd_sg_countPromise_41 : decode prog_1_method_31_code 41 = .ok (.getfield 289, 3) := by decide +kernel
theorem dd_sg_countPromise_44 : decode prog_1_method_31_code 44 = .ok (.invokevirtual 212, 3) := by decide +kernel
theorem dd_sg_countPromise_47 : decode prog_1_method_31_code 47 = .ok (.ireturn, 1) := by decide +kernel
theorem dd_sg_countAcceptance_0 : decode prog_1_method_32_code 0 = .ok (.aload_n 0, 1) := by decide +kernel
theorem dd_sg_countAcceptance_1 : decode prog_1_method_32_code 1 = .ok (.getfield 72, 3) := by decide +kernel
theorem dd_sg_countAcceptance_4 : decode prog_1_method_32_code 4 = .ok (.astore_n 2, 1) := by decide +kernel
theorem dd_sg_countAcceptance_5 : decode prog_1_method_32_code 5 = .ok (.aload_n 2, 1) := by decide +kernel
theorem dd_sg_countAcceptance_6 : decode prog_1_method_32_code 6 = .ok (.aload_n 1, 1) := by decide +kernel
theorem dd_sg_countAcceptance_7 : decode prog_1_method_32_code 7 = .ok (.iconst 2, 1) := by decide +kernel
theorem dd_sg_countAcceptance_8 : decode prog_1_method_32_code 8 = .ok (.invokevirtual 276, 3) := by decide +kernel
theorem dd_sg_countAcceptance_11 : decode prog_1_method_32_code 11 = .ok (.ifCond .ne 4, 3) := by decide +kernel
theorem dd_sg_countAcceptance_14 : decode prog_1_method_32_code 14 = .ok (.return_, 1) := by decide +kernel
theorem dd_sg_countAcceptance_15 : decode prog_1_method_32_code 15 = .ok (.aload_n 2, 1) := by decide +kernel
theorem dd_sg_countAcceptance_16 : decode prog_1_method_32_code 16 = .ok (.aload_n 1, 1) := by decide +kernel
theorem dd_sg_countAcceptance_17 : decode prog_1_method_32_code 17 = .ok (.invokevirtual 280, 3) := by decide +kernel
theorem dd_sg_countAcceptance_20 : decode prog_1_method_32_code 20 = .ok (.aload_n 2, 1) := by decide +kernel
theorem dd_sg_countAcceptance_21 : decode prog_1_method_32_code 21 = .ok (.getfield 283, 3) := by decide +kernel
theorem dd_sg_countAcceptance_24 : decode prog_1_method_32_code 24 = .ok (.invokestatic 175, 3) := by decide +kernel
theorem dd_sg_countAcceptance_27 : decode prog_1_method_32_code 27 = .ok (.ifCond .eq 11, 3) := by decide +kernel
theorem dd_sg_countAcceptance_30 : decode prog_1_method_32_code 30 = .ok (.aload_n 0, 1) := by decide +kernel
theorem dd_sg_countAcceptance_31 : decode prog_1_method_32_code 31 = .ok (.aload_n 2, 1) := by decide +kernel
theorem dd_sg_countAcceptance_32 : decode prog_1_method_32_code 32 = .ok (.getfield 289, 3) := by decide +kernel
theorem dd_sg_countAcceptance_35 : decode prog_1_method_32_code 35 = .ok (.invokevirtual 290, 3) := by decide +kernel
theorem dd_sg_countAcceptance_38 : decode prog_1_method_32_code 38 = .ok (.return_, 1) := by decide +kernel
theorem dd_sg_drop_0 : decode prog_1_method_6_code 0 = .ok (.aload_n 0, 1) := by decide +kernel
theorem dd_sg_drop_1 : decode prog_1_method_6_code 1 = .ok (.iload_n 1, 1) := by decide +kernel
theorem dd_sg_drop_2 : decode prog_1_method_6_code 2 = .ok (.invokevirtual 103, 3) := by decide +kernel
theorem dd_sg_drop_5 : decode prog_1_method_6_code 5 = .ok (.aload_n 0, 1) := by decide +kernel
theorem dd_sg_drop_6 : decode prog_1_method_6_code 6 = .ok (.getfield 27, 3) := by decide +kernel
theorem dd_sg_drop_9 : decode prog_1_method_6_code 9 = .ok (.iload_n 1, 1) := by decide +kernel
theorem dd_sg_drop_10 : decode prog_1_method_6_code 10 = .ok (.invokevirtual 106, 3) := by decide +kernel
theorem dd_sg_drop_13 : decode prog_1_method_6_code 13 = .ok (.getfield 114, 3) := by decide +kernel
theorem dd_sg_drop_16 : decode prog_1_method_6_code 16 = .ok (.ireturn, 1) := by decide +kernel
theorem dd_sg_copy_0 : decode prog_1_method_7_code 0 = .ok (.aload_n 0, 1) := by decide +kernel
theorem dd_sg_copy_1 : decode prog_1_method_7_code 1 = .ok (.iload_n 1, 1) := by decide +kernel
theorem dd_sg_copy_2 : decode prog_1_method_7_code 2 = .ok (.invokevirtual 103, 3) := by decide +kernel
theorem dd_sg_copy_5 : decode prog_1_method_7_code 5 = .ok (.aload_n 0, 1) := by decide +kernel
theorem dd_sg_copy_6 : decode prog_1_method_7_code 6 = .ok (.getfield 27, 3) := by decide +kernel
theorem dd_sg_copy_9 : decode prog_1_method_7_code 9 = .ok (.iload_n 1, 1) := by decide +kernel
theorem dd_sg_copy_10 : decode prog_1_method_7_code 10 = .ok (.invokevirtual 119, 3) := by decide +kernel
theorem dd_sg_copy_13 : decode prog_1_method_7_code 13 = .ok (.ireturn, 1) := by decide +kernel
theorem dd_sg_deliverAll_0 : decode prog_1_method_8_code 0 = .ok (.iload_n 1, 1) := by decide +kernel
theorem dd_sg_deliverAll_1 : decode prog_1_method_8_code 1 = .ok (.iconst 0, 1) := by decide +kernel
theorem dd_sg_deliverAll_2 : decode prog_1_method_8_code 2 = .ok (.sipush 2000, 3) := by decide +kernel
theorem dd_sg_deliverAll_5 : decode prog_1_method_8_code 5 = .ok (.invokestatic 40, 3) := by decide +kernel
theorem dd_sg_deliverAll_8 : decode prog_1_method_8_code 8 = .ok (.iconst 0, 1) := by decide +kernel
theorem dd_sg_deliverAll_9 : decode prog_1_method_8_code 9 = .ok (.istore_n 2, 1) := by decide +kernel
theorem dd_sg_deliverAll_10 : decode prog_1_method_8_code 10 = .ok (.iload_n 2, 1) := by decide +kernel
theorem dd_sg_deliverAll_11 : decode prog_1_method_8_code 11 = .ok (.iload_n 1, 1) := by decide +kernel
theorem dd_sg_deliverAll_12 : decode prog_1_method_8_code 12 = .ok (.if_icmp .ge 32, 3) := by decide +kernel
theorem dd_sg_deliverAll_15 : decode prog_1_method_8_code 15 = .ok (.aload_n 0, 1) := by decide +kernel
theorem dd_sg_deliverAll_16 : decode prog_1_method_8_code 16 = .ok (.getfield 27, 3) := by decide +kernel
theorem dd_sg_deliverAll_19 : decode prog_1_method_8_code 19 = .ok (.getfield 123, 3) := by decide +kernel
theorem dd_sg_deliverAll_22 : decode prog_1_method_8_code 22 = .ok (.ifCond .le 22, 3) := by decide +kernel
theorem dd_sg_deliverAll_25 : decode prog_1_method_8_code 25 = .ok (.aload_n 0, 1) := by decide +kernel
theorem dd_sg_deliverAll_26 : decode prog_1_method_8_code 26 = .ok (.aload_n 0, 1) := by decide +kernel
theorem dd_sg_deliverAll_27 : decode prog_1_method_8_code 27 = .ok (.getfield 27, 3) := by decide +kernel
theorem dd_sg_deliverAll_30 : decode prog_1_method_8_code 30 = .ok (.iconst 0, 1) := by decide +kernel
theorem dd_sg_deliverAll_31 : decode prog_1_method_8_code 31 = .ok (.invokevirtual 106, 3) := by decide +kernel
theorem dd_sg_deliverAll_34 : decode prog_1_method_8_code 34 = .ok (.invokevirtual 110, 3) := by decide +kernel
theorem dd_sg_deliverAll_37 : decode prog_1_method_8_code 37 = .ok (.pop, 1) := by decide +kernel
theorem dd_sg_deliverAll_38 : decode prog_1_method_8_code 38 = .ok (.iinc 2 1, 3) := by decide +kernel
theorem dd_sg_deliverAll_41 : decode prog_1_method_8_code 41 = .ok (.goto (-31), 3) := by decide +kernel
theorem dd_sg_deliverAll_44 : decode prog_1_method_8_code 44 = .ok (.iload_n 2, 1) := by decide +kernel
theorem dd_sg_deliverAll_45 : decode prog_1_method_8_code 45 = .ok (.ireturn, 1) := by decide +kernel
theorem dd_sg_up_0 : decode prog_1_method_9_code 0 = .ok (.iload_n 1, 1) := by decide +kernel
theorem dd_sg_up_1 : decode prog_1_method_9_code 1 = .ok (.invokestatic 53, 3) := by decide +kernel
theorem dd_sg_up_4 : decode prog_1_method_9_code 4 = .ok (.aload_n 0, 1) := by decide +kernel
theorem dd_sg_up_5 : decode prog_1_method_9_code 5 = .ok (.iload_n 1, 1) := by decide +kernel
theorem dd_sg_up_6 : decode prog_1_method_9_code 6 = .ok (.invokevirtual 126, 3) := by decide +kernel
theorem dd_sg_up_9 : decode prog_1_method_9_code 9 = .ok (.iload_n 2, 1) := by decide +kernel
theorem dd_sg_up_10 : decode prog_1_method_9_code 10 = .ok (.if_icmp .ne 5, 3) := by decide +kernel
theorem dd_sg_up_13 : decode prog_1_method_9_code 13 = .ok (.iconst 0, 1) := by decide +kernel
theorem dd_sg_up_14 : decode prog_1_method_9_code 14 = .ok (.ireturn, 1) := by decide +kernel
theorem dd_sg_up_15 : decode prog_1_method_9_code 15 = .ok (.aload_n 0, 1) := by decide +kernel
theorem dd_sg_up_16 : decode prog_1_method_9_code 16 = .ok (.dup, 1) := by decide +kernel
theorem dd_sg_up_17 : decode prog_1_method_9_code 17 = .ok (.getfield 32, 3) := by decide +kernel
theorem dd_sg_up_20 : decode prog_1_method_9_code 20 = .ok (.iconst 1, 1) := by decide +kernel
theorem dd_sg_up_21 : decode prog_1_method_9_code 21 = .ok (.iload_n 1, 1) := by decide +kernel
theorem dd_sg_up_22 : decode prog_1_method_9_code 22 = .ok (.ishl, 1) := by decide +kernel
theorem dd_sg_up_23 : decode prog_1_method_9_code 23 = .ok (.ixor, 1) := by decide +kernel
theorem dd_sg_up_24 : decode prog_1_method_9_code 24 = .ok (.putfield 32, 3) := by decide +kernel
theorem dd_sg_up_27 : decode prog_1_method_9_code 27 = .ok (.iload_n 2, 1) := by decide +kernel
theorem dd_sg_up_28 : decode prog_1_method_9_code 28 = .ok (.ifCond .ne 8, 3) := by decide +kernel
theorem dd_sg_up_31 : decode prog_1_method_9_code 31 = .ok (.aload_n 0, 1) := by decide +kernel
theorem dd_sg_up_32 : decode prog_1_method_9_code 32 = .ok (.iload_n 1, 1) := by decide +kernel
theorem dd_sg_up_33 : decode prog_1_method_9_code 33 = .ok (.invokevirtual 129, 3) := by decide +kernel
theorem dd_sg_up_36 : decode prog_1_method_9_code 36 = .ok (.iconst 1, 1) := by decide +kernel
theorem dd_sg_up_37 : decode prog_1_method_9_code 37 = .ok (.ireturn, 1) := by decide +kernel
theorem dd_sg_endAskings_0 : decode prog_1_method_25_code 0 = .ok (.iconst 0, 1) := by decide +kernel
theorem dd_sg_endAskings_1 : decode prog_1_method_25_code 1 = .ok (.istore_n 2, 1) := by decide +kernel
theorem dd_sg_endAskings_2 : decode prog_1_method_25_code 2 = .ok (.iload_n 2, 1) := by decide +kernel
theorem dd_sg_endAskings_3 : decode prog_1_method_25_code 3 = .ok (.bipush 20, 2) := by decide +kernel
theorem dd_sg_endAskings_5 : decode prog_1_method_25_code 5 = .ok (.if_icmp .ge 32, 3) := by decide +kernel
theorem dd_sg_endAskings_8 : decode prog_1_method_25_code 8 = .ok (.aload_n 0, 1) := by decide +kernel
theorem dd_sg_endAskings_9 : decode prog_1_method_25_code 9 = .ok (.getfield 11, 3) := by decide +kernel
theorem dd_sg_endAskings_12 : decode prog_1_method_25_code 12 = .ok (.iload_n 2, 1) := by decide +kernel
theorem dd_sg_endAskings_13 : decode prog_1_method_25_code 13 = .ok (.aaload, 1) := by decide +kernel
theorem dd_sg_endAskings_14 : decode prog_1_method_25_code 14 = .ok (.astore_n 3, 1) := by decide +kernel
theorem dd_sg_endAskings_15 : decode prog_1_method_25_code 15 = .ok (.aload_n 3, 1) := by decide +kernel
theorem dd_sg_endAskings_16 : decode prog_1_method_25_code 16 = .ok (.ifnull 15, 3) := by decide +kernel
theorem dd_sg_endAskings_19 : decode prog_1_method_25_code 19 = .ok (.aload_n 3, 1) := by decide +kernel
theorem dd_sg_endAskings_20 : decode prog_1_method_25_code 20 = .ok (.getfield 62, 3) := by decide +kernel
theorem dd_sg_endAskings_23 : decode prog_1_method_25_code 23 = .ok (.iload_n 1, 1) := by decide +kernel
theorem dd_sg_endAskings_24 : decode prog_1_method_25_code 24 = .ok (.aaload, 1) := by decide +kernel
theorem dd_sg_endAskings_25 : decode prog_1_method_25_code 25 = .ok (.getfield 72, 3) := by decide +kernel
theorem dd_sg_endAskings_28 : decode prog_1_method_25_code 28 = .ok (.invokevirtual 200, 3) := by decide +kernel
theorem dd_sg_endAskings_31 : decode prog_1_method_25_code 31 = .ok (.iinc 2 1, 3) := by decide +kernel
theorem dd_sg_endAskings_34 : decode prog_1_method_25_code 34 = .ok (.goto (-32), 3) := by decide +kernel
theorem dd_sg_endAskings_37 : decode prog_1_method_25_code 37 = .ok (.return_, 1) := by decide +kernel
theorem dd_sg_teach_0 : decode prog_1_method_10_code 0 = .ok (.iload_n 1, 1) := by decide +kernel
theorem dd_sg_teach_1 : decode prog_1_method_10_code 1 = .ok (.invokestatic 53, 3) := by decide +kernel
theorem dd_sg_teach_4 : decode prog_1_method_10_code 4 = .ok (.iload_n 2, 1) := by decide +kernel
theorem dd_sg_teach_5 : decode prog_1_method_10_code 5 = .ok (.invokestatic 53, 3) := by decide +kernel
theorem dd_sg_teach_8 : decode prog_1_method_10_code 8 = .ok (.iload_n 3, 1) := by decide +kernel
theorem dd_sg_teach_9 : decode prog_1_method_10_code 9 = .ok (.invokestatic 36, 3) := by decide +kernel
theorem dd_sg_teach_12 : decode prog_1_method_10_code 12 = .ok (.aload_n 0, 1) := by decide +kernel
theorem dd_sg_teach_13 : decode prog_1_method_10_code 13 = .ok (.iload_n 1, 1) := by decide +kernel
theorem dd_sg_teach_14 : decode prog_1_method_10_code 14 = .ok (.invokevirtual 59, 3) := by decide +kernel
theorem dd_sg_teach_17 : decode prog_1_method_10_code 17 = .ok (.aload_n 0, 1) := by decide +kernel
theorem dd_sg_teach_18 : decode prog_1_method_10_code 18 = .ok (.getfield 27, 3) := by decide +kernel
theorem dd_sg_teach_21 : decode prog_1_method_10_code 21 = .ok (.getfield 132, 3) := by decide +kernel
theorem dd_sg_teach_24 : decode prog_1_method_10_code 24 = .ok (.bipush 6, 2) := by decide +kernel
theorem dd_sg_teach_26 : decode prog_1_method_10_code 26 = .ok (.iload_n 1, 1) := by decide +kernel
theorem dd_sg_teach_27 : decode prog_1_method_10_code 27 = .ok (.iload_n 3, 1) := by decide +kernel
theorem dd_sg_teach_28 : decode prog_1_method_10_code 28 = .ok (.iconst 0, 1) := by decide +kernel
theorem dd_sg_teach_29 : decode prog_1_method_10_code 29 = .ok (.iconst 0, 1) := by decide +kernel
theorem dd_sg_teach_30 : decode prog_1_method_10_code 30 = .ok (.aload_n 0, 1) := by decide +kernel
theorem dd_sg_teach_31 : decode prog_1_method_10_code 31 = .ok (.iload_n 1, 1) := by decide +kernel
theorem dd_sg_teach_32 : decode prog_1_method_10_code 32 = .ok (.iload_n 3, 1) := by decide +kernel
theorem dd_sg_teach_33 : decode prog_1_method_10_code 33 = .ok (.invokevirtual 93, 3) := by decide +kernel
theorem dd_sg_teach_36 : decode prog_1_method_10_code 36 = .ok (.getfield 136, 3) := by decide +kernel
theorem dd_sg_teach_39 : decode prog_1_method_10_code 39 = .ok (.invokevirtual 140, 3) := by decide +kernel
theorem dd_sg_teach_42 : decode prog_1_method_10_code 42 = .ok (.aload_n 0, 1) := by decide +kernel
theorem dd_sg_teach_43 : decode prog_1_method_10_code 43 = .ok (.getfield 27, 3) := by decide +kernel
theorem dd_sg_teach_46 : decode prog_1_method_10_code 46 = .ok (.iload_n 2, 1) := by decide +kernel
theorem dd_sg_teach_47 : decode prog_1_method_10_code 47 = .ok (.invokevirtual 144, 3) := by decide +kernel
theorem dd_sg_teach_50 : decode prog_1_method_10_code 50 = .ok (.ireturn, 1) := by decide +kernel
theorem dd_sg_letter_0 : decode prog_1_method_12_code 0 = .ok (.aload_n 0, 1) := by decide +kernel
theorem dd_sg_letter_1 : decode prog_1_method_12_code 1 = .ok (.iload_n 1, 1) := by decide +kernel
theorem dd_sg_letter_2 : decode prog_1_method_12_code 2 = .ok (.invokevirtual 103, 3) := by decide +kernel
theorem dd_sg_letter_5 : decode prog_1_method_12_code 5 = .ok (.iload_n 2, 1) := by decide +kernel
theorem dd_sg_letter_6 : decode prog_1_method_12_code 6 = .ok (.iconst 0, 1) := by decide +kernel
theorem dd_sg_letter_7 : decode prog_1_method_12_code 7 = .ok (.bipush 9, 2) := by decide +kernel
theorem dd_sg_letter_9 : decode prog_1_method_12_code 9 = .ok (.invokestatic 40, 3) := by decide +kernel
theorem dd_sg_letter_12 : decode prog_1_method_12_code 12 = .ok (.aload_n 0, 1) := by decide +kernel
theorem dd_sg_letter_13 : decode prog_1_method_12_code 13 = .ok (.getfield 27, 3) := by decide +kernel
theorem dd_sg_letter_16 : decode prog_1_method_12_code 16 = .ok (.iload_n 1, 1) := by decide +kernel
theorem dd_sg_letter_17 : decode prog_1_method_12_code 17 = .ok (.invokevirtual 147, 3) := by decide +kernel
theorem dd_sg_letter_20 : decode prog_1_method_12_code 20 = .ok (.iload_n 2, 1) := by decide +kernel
theorem dd_sg_letter_21 : decode prog_1_method_12_code 21 = .ok (.invokevirtual 150, 3) := by decide +kernel
theorem dd_sg_letter_24 : decode prog_1_method_12_code 24 = .ok (.ireturn, 1) := by decide +kernel
theorem dd_sg_shopOf_0 : decode prog_1_method_36_code 0 = .ok (.iload_n 0, 1) := by decide +kernel
theorem dd_sg_shopOf_1 : decode prog_1_method_36_code 1 = .ok (.ifCond .ge 7, 3) := by decide +kernel
theorem dd_sg_shopOf_4 : decode prog_1_method_36_code 4 = .ok (.iconst (-1), 1) := by decide +kernel
theorem dd_sg_shopOf_5 : decode prog_1_method_36_code 5 = .ok (.goto 7, 3) := by decide +kernel
theorem dd_sg_shopOf_8 : decode prog_1_method_36_code 8 = .ok (.iload_n 0, 1) := by decide +kernel
theorem dd_sg_shopOf_9 : decode prog_1_method_36_code 9 = .ok (.bipush 25, 2) := by decide +kernel
theorem dd_sg_shopOf_11 : decode prog_1_method_36_code 11 = .ok (.irem, 1) := by decide +kernel
theorem dd_sg_shopOf_12 : decode prog_1_method_36_code 12 = .ok (.ireturn, 1) := by decide +kernel
theorem dd_sg_state_0 : decode prog_1_method_13_code 0 = .ok (.iload_n 1, 1) := by decide +kernel
theorem dd_sg_state_1 : decode prog_1_method_13_code 1 = .ok (.invokestatic 53, 3) := by decide +kernel
theorem dd_sg_state_4 : decode prog_1_method_13_code 4 = .ok (.iload_n 2, 1) := by decide +kernel
theorem dd_sg_state_5 : decode prog_1_method_13_code 5 = .ok (.invokestatic 36, 3) := by decide +kernel
theorem dd_sg_state_8 : decode prog_1_method_13_code 8 = .ok (.aload_n 0, 1) := by decide +kernel
theorem dd_sg_state_9 : decode prog_1_method_13_code 9 = .ok (.iload_n 1, 1) := by decide +kernel
theorem dd_sg_state_10 : decode prog_1_method_13_code 10 = .ok (.iload_n 2, 1) := by decide +kernel
theorem dd_sg_state_11 : decode prog_1_method_13_code 11 = .ok (.invokevirtual 93, 3) := by decide +kernel
theorem dd_sg_state_14 : decode prog_1_method_13_code 14 = .ok (.astore_n 3, 1) := by decide +kernel
theorem dd_sg_state_15 : decode prog_1_method_13_code 15 = .ok (.aload_n 3, 1) := by decide +kernel
theorem dd_sg_state_16 : decode prog_1_method_13_code 16 = .ok (.getfield 72, 3) := by decide +kernel
theorem dd_sg_state_19 : decode prog_1_method_13_code 19 = .ok (.invokevirtual 97, 3) := by decide +kernel
theorem dd_sg_state_22 : decode prog_1_method_13_code 22 = .ok (.ifCond .eq 5, 3) := by decide +kernel
theorem dd_sg_state_25 : decode prog_1_method_13_code 25 = .ok (.iconst 1, 1) := by decide +kernel
theorem dd_sg_state_26 : decode prog_1_method_13_code 26 = .ok (.ireturn, 1) := by decide +kernel
theorem dd_sg_state_27 : decode prog_1_method_13_code 27 = .ok (.aload_n 3, 1) := by decide +kernel
theorem dd_sg_state_28 : decode prog_1_method_13_code 28 = .ok (.getfield 136, 3) := by decide +kernel
theorem dd_sg_state_31 : decode prog_1_method_13_code 31 = .ok (.getfield 154, 3) := by decide +kernel
theorem dd_sg_state_34 : decode prog_1_method_13_code 34 = .ok (.ifCond .ne 5, 3) := by decide +kernel
theorem dd_sg_state_37 : decode prog_1_method_13_code 37 = .ok (.iconst 0, 1) := by decide +kernel
theorem dd_sg_state_38 : decode prog_1_method_13_code 38 = .ok (.ireturn, 1) := by decide +kernel
theorem dd_sg_state_39 : decode prog_1_method_13_code 39 = .ok (.aload_n 3, 1) := by decide +kernel
theorem dd_sg_state_40 : decode prog_1_method_13_code 40 = .ok (.getfield 136, 3) := by decide +kernel
theorem dd_sg_state_43 : decode prog_1_method_13_code 43 = .ok (.invokevirtual 159, 3) := by decide +kernel
theorem dd_sg_state_46 : decode prog_1_method_13_code 46 = .ok (.invokestatic 162, 3) := by decide +kernel
theorem dd_sg_state_49 : decode prog_1_method_13_code 49 = .ok (.iload_n 1, 1) := by decide +kernel
theorem dd_sg_state_50 : decode prog_1_method_13_code 50 = .ok (.if_icmp .ne 7, 3) := by decide +kernel
theorem dd_sg_state_53 : decode prog_1_method_13_code 53 = .ok (.iconst 2, 1) := by decide +kernel
theorem dd_sg_state_54 : decode prog_1_method_13_code 54 = .ok (.goto 4, 3) := by decide +kernel
theorem dd_sg_state_57 : decode prog_1_method_13_code 57 = .ok (.iconst 3, 1) := by decide +kernel
theorem dd_sg_state_58 : decode prog_1_method_13_code 58 = .ok (.ireturn, 1) := by decide +kernel
theorem dd_sg_granted_0 : decode prog_1_method_14_code 0 = .ok (.iload_n 1, 1) := by decide +kernel
theorem dd_sg_granted_1 : decode prog_1_method_14_code 1 = .ok (.invokestatic 53, 3) := by decide +kernel
theorem dd_sg_granted_4 : decode prog_1_method_14_code 4 = .ok (.iload_n 2, 1) := by decide +kernel
theorem dd_sg_granted_5 : decode prog_1_method_14_code 5 = .ok (.invokestatic 36, 3) := by decide +kernel
theorem dd_sg_granted_8 : decode prog_1_method_14_code 8 = .ok (.iload_n 3, 1) := by decide +kernel
theorem dd_sg_granted_9 : decode prog_1_method_14_code 9 = .ok (.iconst 1, 1) := by decide +kernel
theorem dd_sg_granted_10 : decode prog_1_method_14_code 10 = .ok (.bipush 12, 2) := by decide +kernel
theorem dd_sg_granted_12 : decode prog_1_method_14_code 12 = .ok (.invokestatic 40, 3) := by decide +kernel
theorem dd_sg_granted_15 : decode prog_1_method_14_code 15 = .ok (.aload_n 0, 1) := by decide +kernel
theorem dd_sg_granted_16 : decode prog_1_method_14_code 16 = .ok (.iload_n 1, 1) := by decide +kernel
theorem dd_sg_granted_17 : decode prog_1_method_14_code 17 = .ok (.iload_n 2, 1) := by decide +kernel
theorem dd_sg_granted_18 : decode prog_1_method_14_code 18 = .ok (.invokevirtual 93, 3) := by decide +kernel
theorem dd_sg_granted_21 : decode prog_1_method_14_code 21 = .ok (.getfield 136, 3) := by decide +kernel
theorem dd_sg_granted_24 : decode prog_1_method_14_code 24 = .ok (.iload_n 3, 1) := by decide +kernel
theorem dd_sg_granted_25 : decode prog_1_method_14_code 25 = .ok (.invokevirtual 165, 3) := by decide +kernel
theorem dd_sg_granted_28 : decode prog_1_method_14_code 28 = .ok (.istore 5, 2) := by decide +kernel
theorem dd_sg_granted_30 : decode prog_1_method_14_code 30 = .ok (.iload 4, 2) := by decide +kernel
theorem dd_sg_granted_32 : decode prog_1_method_14_code 32 = .ok (.ifCond .eq 11, 3) := by decide +kernel
theorem dd_sg_granted_35 : decode prog_1_method_14_code 35 = .ok (.iload 5, 2) := by decide +kernel
theorem dd_sg_granted_37 : decode prog_1_method_14_code 37 = .ok (.invokestatic 168, 3) := by decide +kernel
theorem dd_sg_granted_40 : decode prog_1_method_14_code 40 = .ok (.goto 8, 3) := by decide +kernel
theorem dd_sg_granted_43 : decode prog_1_method_14_code 43 = .ok (.iload 5, 2) := by decide +kernel
theorem dd_sg_granted_45 : decode prog_1_method_14_code 45 = .ok (.invokestatic 162, 3) := by decide +kernel
theorem dd_sg_granted_48 : decode prog_1_method_14_code 48 = .ok (.ireturn, 1) := by decide +kernel
theorem dd_sg_kept_0 : decode prog_1_method_15_code 0 = .ok (.iload_n 1, 1) := by decide +kernel
theorem dd_sg_kept_1 : decode prog_1_method_15_code 1 = .ok (.invokestatic 53, 3) := by decide +kernel
theorem dd_sg_kept_4 : decode prog_1_method_15_code 4 = .ok (.iload_n 2, 1) := by decide +kernel
theorem dd_sg_kept_5 : decode prog_1_method_15_code 5 = .ok (.invokestatic 36, 3) := by decide +kernel
theorem dd_sg_kept_8 : decode prog_1_method_15_code 8 = .ok (.iload_n 3, 1) := by decide +kernel
theorem dd_sg_kept_9 : decode prog_1_method_15_code 9 = .ok (.iconst 0, 1) := by decide +kernel
theorem dd_sg_kept_10 : decode prog_1_method_15_code 10 = .ok (.bipush 8, 2) := by decide +kernel
theorem dd_sg_kept_12 : decode prog_1_method_15_code 12 = .ok (.invokestatic 40, 3) := by decide +kernel
theorem dd_sg_kept_15 : decode prog_1_method_15_code 15 = .ok (.aload_n 0, 1) := by decide +kernel
theorem dd_sg_kept_16 : decode prog_1_method_15_code 16 = .ok (.iload_n 1, 1) := by decide +kernel
theorem dd_sg_kept_17 : decode prog_1_method_15_code 17 = .ok (.iload_n 2, 1) := by decide +kernel
theorem dd_sg_kept_18 : decode prog_1_method_15_code 18 = .ok (.invokevirtual 93, 3) := by decide +kernel
theorem dd_sg_kept_21 : decode prog_1_method_15_code 21 = .ok (.iload_n 3, 1) := by decide +kernel
theorem dd_sg_kept_22 : decode prog_1_method_15_code 22 = .ok (.invokevirtual 171, 3) := by decide +kernel
theorem dd_sg_kept_25 : decode prog_1_method_15_code 25 = .ok (.ireturn, 1) := by decide +kernel
theorem dd_sg_total_0 : decode prog_1_method_17_code 0 = .ok (.iload_n 1, 1) := by decide +kernel
theorem dd_sg_total_1 : decode prog_1_method_17_code 1 = .ok (.iconst 0, 1) := by decide +kernel
theorem dd_sg_total_2 : decode prog_1_method_17_code 2 = .ok (.iconst 2, 1) := by decide +kernel
theorem dd_sg_total_3 : decode prog_1_method_17_code 3 = .ok (.invokestatic 40, 3) := by decide +kernel
theorem dd_sg_total_6 : decode prog_1_method_17_code 6 = .ok (.iload_n 1, 1) := by decide +kernel
theorem dd_sg_total_7 : decode prog_1_method_17_code 7 = .ok (.ifCond .ne 11, 3) := by decide +kernel
theorem dd_sg_total_10 : decode prog_1_method_17_code 10 = .ok (.aload_n 0, 1) := by decide +kernel
theorem dd_sg_total_11 : decode prog_1_method_17_code 11 = .ok (.getfield 27, 3) := by decide +kernel
theorem dd_sg_total_14 : decode prog_1_method_17_code 14 = .ok (.getfield 178, 3) := by decide +kernel
theorem dd_sg_total_17 : decode prog_1_method_17_code 17 = .ok (.ireturn, 1) := by decide +kernel
theorem dd_sg_total_18 : decode prog_1_method_17_code 18 = .ok (.iload_n 1, 1) := by decide +kernel
theorem dd_sg_total_19 : decode prog_1_method_17_code 19 = .ok (.iconst 1, 1) := by decide +kernel
theorem dd_sg_total_20 : decode prog_1_method_17_code 20 = .ok (.if_icmp .ne 13, 3) := by decide +kernel
theorem dd_sg_total_23 : decode prog_1_method_17_code 23 = .ok (.aload_n 0, 1) := by decide +kernel
theorem dd_sg_total_24 : decode prog_1_method_17_code 24 = .ok (.getfield 27, 3) := by decide +kernel
theorem dd_sg_total_27 : decode prog_1_method_17_code 27 = .ok (.getfield 181, 3) := by decide +kernel
theorem dd_sg_total_30 : decode prog_1_method_17_code 30 = .ok (.goto 10, 3) := by decide +kernel
theorem dd_sg_total_33 : decode prog_1_method_17_code 33 = .ok (.aload_n 0, 1) := by decide +kernel
theorem dd_sg_total_34 : decode prog_1_method_17_code 34 = .ok (.getfield 27, 3) := by decide +kernel
theorem dd_sg_total_37 : decode prog_1_method_17_code 37 = .ok (.getfield 184, 3) := by decide +kernel
theorem dd_sg_total_40 : decode prog_1_method_17_code 40 = .ok (.ireturn, 1) := by decide +kernel
