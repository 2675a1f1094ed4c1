/-! DECODE rows (printed by gen/parts.py). -/
theorem dd_md_init_0 : decode prog_9_method_1_code 0 = .ok (.aload_n 0, 1) := by decide +kernel
theorem dd_md_init_1 : decode prog_9_method_1_code 1 = .ok (.invokespecial 1, 3) := by decide +kernel
theorem dd_md_init_4 : decode prog_9_method_1_code 4 = .ok (.aload_n 0, 1) := by decide +kernel
theorem dd_md_init_5 : decode prog_9_method_1_code 5 = .ok (.bipush 20, 2) := by decide +kernel
theorem dd_md_init_7 : decode prog_9_method_1_code 7 = .ok (.newarray .int, 2) := by decide +kernel
theorem dd_md_init_9 : decode prog_9_method_1_code 9 = .ok (.putfield 7, 3) := by decide +kernel
theorem dd_md_init_12 : decode prog_9_method_1_code 12 = .ok (.aload_n 0, 1) := by decide +kernel
theorem dd_md_init_13 : decode prog_9_method_1_code 13 = .ok (.bipush 20, 2) := by decide +kernel
theorem dd_md_init_15 : decode prog_9_method_1_code 15 = .ok (.newarray .int, 2) := by decide +kernel
theorem dd_md_init_17 : decode prog_9_method_1_code 17 = .ok (.putfield 13, 3) := by decide +kernel
theorem dd_md_init_20 : decode prog_9_method_1_code 20 = .ok (.aload_n 0, 1) := by decide +kernel
theorem dd_md_init_21 : decode prog_9_method_1_code 21 = .ok (.bipush 25, 2) := by decide +kernel
theorem dd_md_init_23 : decode prog_9_method_1_code 23 = .ok (.newarray .boolean, 2) := by decide +kernel
theorem dd_md_init_25 : decode prog_9_method_1_code 25 = .ok (.putfield 16, 3) := by decide +kernel
theorem dd_md_init_28 : decode prog_9_method_1_code 28 = .ok (.aload_n 0, 1) := by decide +kernel
theorem dd_md_init_29 : decode prog_9_method_1_code 29 = .ok (.sipush 500, 3) := by decide +kernel
theorem dd_md_init_32 : decode prog_9_method_1_code 32 = .ok (.newarray .int, 2) := by decide +kernel
theorem dd_md_init_34 : decode prog_9_method_1_code 34 = .ok (.putfield 20, 3) := by decide +kernel
theorem dd_md_init_37 : decode prog_9_method_1_code 37 = .ok (.aload_n 0, 1) := by decide +kernel
theorem dd_md_init_38 : decode prog_9_method_1_code 38 = .ok (.sipush 500, 3) := by decide +kernel
theorem dd_md_init_41 : decode prog_9_method_1_code 41 = .ok (.newarray .int, 2) := by decide +kernel
theorem dd_md_init_43 : decode prog_9_method_1_code 43 = .ok (.putfield 23, 3) := by decide +kernel
theorem dd_md_init_46 : decode prog_9_method_1_code 46 = .ok (.aload_n 0, 1) := by decide +kernel
theorem dd_md_init_47 : decode prog_9_method_1_code 47 = .ok (.sipush 500, 3) := by decide +kernel
theorem dd_md_init_50 : decode prog_9_method_1_code 50 = .ok (.newarray .int, 2) := by decide +kernel
theorem dd_md_init_52 : decode prog_9_method_1_code 52 = .ok (.putfield 26, 3) := by decide +kernel
theorem dd_md_init_55 : decode prog_9_method_1_code 55 = .ok (.aload_n 0, 1) := by decide +kernel
theorem dd_md_init_56 : decode prog_9_method_1_code 56 = .ok (.sipush 500, 3) := by decide +kernel
theorem dd_md_init_59 : decode prog_9_method_1_code 59 = .ok (.newarray .int, 2) := by decide +kernel
theorem dd_md_init_61 : decode prog_9_method_1_code 61 = .ok (.putfield 29, 3) := by decide +kernel
theorem dd_md_init_64 : decode prog_9_method_1_code 64 = .ok (.aload_n 0, 1) := by decide +kernel
theorem dd_md_init_65 : decode prog_9_method_1_code 65 = .ok (.sipush 500, 3) := by decide +kernel
theorem dd_md_init_68 : decode prog_9_method_1_code 68 = .ok (.newarray .int, 2) := by decide +kernel
theorem dd_md_init_70 : decode prog_9_method_1_code 70 = .ok (.putfield 32, 3) := by decide +kernel
theorem dd_md_init_73 : decode prog_9_method_1_code 73 = .ok (.aload_n 0, 1) := by decide +kernel
theorem dd_md_init_74 : decode prog_9_method_1_code 74 = .ok (.sipush 500, 3) := by decide +kernel
theorem dd_md_init_77 : decode prog_9_method_1_code 77 = .ok (.newarray .int, 2) := by decide +kernel
theorem dd_md_init_79 : decode prog_9_method_1_code 79 = .ok (.putfield 35, 3) := by decide +kernel
theorem dd_md_init_82 : decode prog_9_method_1_code 82 = .ok (.aload_n 0, 1) := by decide +kernel
theorem dd_md_init_83 : decode prog_9_method_1_code 83 = .ok (.sipush 6000, 3) := by decide +kernel
theorem dd_md_init_86 : decode prog_9_method_1_code 86 = .ok (.newarray .int, 2) := by decide +kernel
theorem dd_md_init_88 : decode prog_9_method_1_code 88 = .ok (.putfield 38, 3) := by decide +kernel
theorem dd_md_init_91 : decode prog_9_method_1_code 91 = .ok (.aload_n 0, 1) := by decide +kernel
theorem dd_md_init_92 : decode prog_9_method_1_code 92 = .ok (.sipush 6000, 3) := by decide +kernel
theorem dd_md_init_95 : decode prog_9_method_1_code 95 = .ok (.newarray .int, 2) := by decide +kernel
theorem dd_md_init_97 : decode prog_9_method_1_code 97 = .ok (.putfield 41, 3) := by decide +kernel
theorem dd_md_init_100 : decode prog_9_method_1_code 100 = .ok (.aload_n 0, 1) := by decide +kernel
theorem dd_md_init_101 : decode prog_9_method_1_code 101 = .ok (.sipush 500, 3) := by decide +kernel
theorem dd_md_init_104 : decode prog_9_method_1_code 104 = .ok (.newarray .int, 2) := by decide +kernel
theorem dd_md_init_106 : decode prog_9_method_1_code 106 = .ok (.putfield 44, 3) := by decide +kernel
theorem dd_md_init_109 : decode prog_9_method_1_code 109 = .ok (.aload_n 0, 1) := by decide +kernel
theorem dd_md_init_110 : decode prog_9_method_1_code 110 = .ok (.sipush 500, 3) := by decide +kernel
theorem dd_md_init_113 : decode prog_9_method_1_code 113 = .ok (.newarray .int, 2) := by decide +kernel
theorem dd_md_init_115 : decode prog_9_method_1_code 115 = .ok (.putfield 47, 3) := by decide +kernel
theorem dd_md_init_118 : decode prog_9_method_1_code 118 = .ok (.aload_n 0, 1) := by decide +kernel
theorem dd_md_init_119 : decode prog_9_method_1_code 119 = .ok (.sipush 500, 3) := by decide +kernel
theorem dd_md_init_122 : decode prog_9_method_1_code 122 = .ok (.newarray .int, 2) := by decide +kernel
theorem dd_md_init_124 : decode prog_9_method_1_code 124 = .ok (.putfield 50, 3) := by decide +kernel
theorem dd_md_init_127 : decode prog_9_method_1_code 127 = .ok (.aload_n 0, 1) := by decide +kernel
theorem dd_md_init_128 : decode prog_9_method_1_code 128 = .ok (.sipush 500, 3) := by decide +kernel
theorem dd_md_init_131 : decode prog_9_method_1_code 131 = .ok (.newarray .int, 2) := by decide +kernel
theorem dd_md_init_133 : decode prog_9_method_1_code 133 = .ok (.putfield 53, 3) := by decide +kernel
theorem dd_md_init_136 : decode prog_9_method_1_code 136 = .ok (.aload_n 0, 1) := by decide +kernel
theorem dd_md_init_137 : decode prog_9_method_1_code 137 = .ok (.sipush 500, 3) := by decide +kernel
theorem dd_md_init_140 : decode prog_9_method_1_code 140 = .ok (.newarray .int, 2) := by decide +kernel
theorem dd_md_init_142 : decode prog_9_method_1_code 142 = .ok (.putfield 56, 3) := by decide +kernel
theorem dd_md_init_145 : decode prog_9_method_1_code 145 = .ok (.aload_n 0, 1) := by decide +kernel
theorem dd_md_init_146 : decode prog_9_method_1_code 146 = .ok (.sipush 500, 3) := by decide +kernel
theorem dd_md_init_149 : decode prog_9_method_1_code 149 = .ok (.newarray .int, 2) := by decide +kernel
theorem dd_md_init_151 : decode prog_9_method_1_code 151 = .ok (.putfield 59, 3) := by decide +kernel
theorem dd_md_init_154 : decode prog_9_method_1_code 154 = .ok (.aload_n 0, 1) := by decide +kernel
theorem dd_md_init_155 : decode prog_9_method_1_code 155 = .ok (.sipush 500, 3) := by decide +kernel
theorem dd_md_init_158 : decode prog_9_method_1_code 158 = .ok (.newarray .int, 2) := by decide +kernel
theorem dd_md_init_160 : decode prog_9_method_1_code 160 = .ok (.putfield 62, 3) := by decide +kernel
theorem dd_md_init_163 : decode prog_9_method_1_code 163 = .ok (.aload_n 0, 1) := by decide +kernel
theorem dd_md_init_164 : decode prog_9_method_1_code 164 = .ok (.sipush 500, 3) := by decide +kernel
theorem dd_md_init_167 : decode prog_9_method_1_code 167 = .ok (.newarray .int, 2) := by decide +kernel
theorem dd_md_init_169 : decode prog_9_method_1_code 169 = .ok (.putfield 65, 3) := by decide +kernel
theorem dd_md_init_172 : decode prog_9_method_1_code 172 = .ok (.aload_n 0, 1) := by decide +kernel
theorem dd_md_init_173 : decode prog_9_method_1_code 173 = .ok (.sipush 500, 3) := by decide +kernel
theorem dd_md_init_176 : decode prog_9_method_1_code 176 = .ok (.newarray .int, 2) := by decide +kernel
theorem dd_md_init_178 : decode prog_9_method_1_code 178 = .ok (.putfield 68, 3) := by decide +kernel
theorem dd_md_init_181 : decode prog_9_method_1_code 181 = .ok (.aload_n 0, 1) := by decide +kernel
theorem dd_md_init_182 : decode prog_9_method_1_code 182 = .ok (.sipush 500, 3) := by decide +kernel
theorem dd_md_init_185 : decode prog_9_method_1_code 185 = .ok (.newarray .int, 2) := by decide +kernel
theorem dd_md_init_187 : decode prog_9_method_1_code 187 = .ok (.putfield 71, 3) := by decide +kernel
theorem dd_md_init_190 : decode prog_9_method_1_code 190 = .ok (.aload_n 0, 1) := by decide +kernel
theorem dd_md_init_191 : decode prog_9_method_1_code 191 = .ok (.sipush 3400, 3) := by decide +kernel
theorem dd_md_init_194 : decode prog_9_method_1_code 194 = .ok (.newarray .int, 2) := by decide +kernel
theorem dd_md_init_196 : decode prog_9_method_1_code 196 = .ok (.putfield 74, 3) := by decide +kernel
theorem dd_md_init_199 : decode prog_9_method_1_code 199 = .ok (.aload_n 0, 1) := by decide +kernel
theorem dd_md_init_200 : decode prog_9_method_1_code 200 = .ok (.bipush 34, 2) := by decide +kernel
theorem dd_md_init_202 : decode prog_9_method_1_code 202 = .ok (.newarray .int, 2) := by decide +kernel
theorem dd_md_init_204 : decode prog_9_method_1_code 204 = .ok (.putfield 77, 3) := by decide +kernel
theorem dd_md_init_207 : decode prog_9_method_1_code 207 = .ok (.return_, 1) := by decide +kernel
theorem dd_md_thrown_0 : decode prog_9_method_2_code 0 = .ok (.aload_n 0, 1) := by decide +kernel
theorem dd_md_thrown_1 : decode prog_9_method_2_code 1 = .ok (.getfield 80, 3) := by decide +kernel
theorem dd_md_thrown_4 : decode prog_9_method_2_code 4 = .ok (.ireturn, 1) := by decide +kernel
theorem dd_md_register_0 : decode prog_9_method_8_code 0 = .ok (.aload_n 0, 1) := by decide +kernel
theorem dd_md_register_1 : decode prog_9_method_8_code 1 = .ok (.iload_n 1, 1) := by decide +kernel
theorem dd_md_register_2 : decode prog_9_method_8_code 2 = .ok (.invokestatic 88, 3) := by decide +kernel
theorem dd_md_register_5 : decode prog_9_method_8_code 5 = .ok (.ifCond .eq 23, 3) := by decide +kernel
theorem dd_md_register_8 : decode prog_9_method_8_code 8 = .ok (.iload_n 2, 1) := by decide +kernel
theorem dd_md_register_9 : decode prog_9_method_8_code 9 = .ok (.iconst 1, 1) := by decide +kernel
theorem dd_md_register_10 : decode prog_9_method_8_code 10 = .ok (.isub, 1) := by decide +kernel
theorem dd_md_register_11 : decode prog_9_method_8_code 11 = .ok (.bipush 12, 2) := by decide +kernel
theorem dd_md_register_13 : decode prog_9_method_8_code 13 = .ok (.invokestatic 84, 3) := by decide +kernel
theorem dd_md_register_16 : decode prog_9_method_8_code 16 = .ok (.ifCond .eq 12, 3) := by decide +kernel
theorem dd_md_register_19 : decode prog_9_method_8_code 19 = .ok (.iload_n 3, 1) := by decide +kernel
theorem dd_md_register_20 : decode prog_9_method_8_code 20 = .ok (.bipush 91, 2) := by decide +kernel
theorem dd_md_register_22 : decode prog_9_method_8_code 22 = .ok (.invokestatic 84, 3) := by decide +kernel
theorem dd_md_register_25 : decode prog_9_method_8_code 25 = .ok (.ifCond .ne 7, 3) := by decide +kernel
theorem dd_md_register_28 : decode prog_9_method_8_code 28 = .ok (.iconst 1, 1) := by decide +kernel
theorem dd_md_register_29 : decode prog_9_method_8_code 29 = .ok (.goto 4, 3) := by decide +kernel
theorem dd_md_register_32 : decode prog_9_method_8_code 32 = .ok (.iconst 0, 1) := by decide +kernel
theorem dd_md_register_33 : decode prog_9_method_8_code 33 = .ok (.iconst 1, 1) := by decide +kernel
theorem dd_md_register_34 : decode prog_9_method_8_code 34 = .ok (.invokevirtual 92, 3) := by decide +kernel
theorem dd_md_register_37 : decode prog_9_method_8_code 37 = .ok (.ifCond .ne 25, 3) := by decide +kernel
theorem dd_md_register_40 : decode prog_9_method_8_code 40 = .ok (.aload_n 0, 1) := by decide +kernel
theorem dd_md_register_41 : decode prog_9_method_8_code 41 = .ok (.aload_n 0, 1) := by decide +kernel
theorem dd_md_register_42 : decode prog_9_method_8_code 42 = .ok (.getfield 7, 3) := by decide +kernel
theorem dd_md_register_45 : decode prog_9_method_8_code 45 = .ok (.iload_n 1, 1) := by decide +kernel
theorem dd_md_register_46 : decode prog_9_method_8_code 46 = .ok (.iaload, 1) := by decide +kernel
theorem dd_md_register_47 : decode prog_9_method_8_code 47 = .ok (.ifCond .le 7, 3) := by decide +kernel
theorem dd_md_register_50 : decode prog_9_method_8_code 50 = .ok (.iconst 1, 1) := by decide +kernel
theorem dd_md_register_51 : decode prog_9_method_8_code 51 = .ok (.goto 4, 3) := by decide +kernel
theorem dd_md_register_54 : decode prog_9_method_8_code 54 = .ok (.iconst 0, 1) := by decide +kernel
theorem dd_md_register_55 : decode prog_9_method_8_code 55 = .ok (.iconst 2, 1) := by decide +kernel
theorem dd_md_register_56 : decode prog_9_method_8_code 56 = .ok (.invokevirtual 92, 3) := by decide +kernel
theorem dd_md_register_59 : decode prog_9_method_8_code 59 = .ok (.ifCond .eq 4, 3) := by decide +kernel
theorem dd_md_register_62 : decode prog_9_method_8_code 62 = .ok (.return_, 1) := by decide +kernel
theorem dd_md_register_63 : decode prog_9_method_8_code 63 = .ok (.aload_n 0, 1) := by decide +kernel
theorem dd_md_register_64 : decode prog_9_method_8_code 64 = .ok (.getfield 7, 3) := by decide +kernel
theorem dd_md_register_67 : decode prog_9_method_8_code 67 = .ok (.iload_n 1, 1) := by decide +kernel
theorem dd_md_register_68 : decode prog_9_method_8_code 68 = .ok (.iload_n 2, 1) := by decide +kernel
theorem dd_md_register_69 : decode prog_9_method_8_code 69 = .ok (.iastore, 1) := by decide +kernel
theorem dd_md_register_70 : decode prog_9_method_8_code 70 = .ok (.aload_n 0, 1) := by decide +kernel
theorem dd_md_register_71 : decode prog_9_method_8_code 71 = .ok (.getfield 13, 3) := by decide +kernel
theorem dd_md_register_74 : decode prog_9_method_8_code 74 = .ok (.iload_n 1, 1) := by decide +kernel
theorem dd_md_register_75 : decode prog_9_method_8_code 75 = .ok (.iload_n 3, 1) := by decide +kernel
theorem dd_md_register_76 : decode prog_9_method_8_code 76 = .ok (.iastore, 1) := by decide +kernel
theorem dd_md_register_77 : decode prog_9_method_8_code 77 = .ok (.return_, 1) := by decide +kernel
theorem dd_md_isPrescription_0 : decode prog_9_method_6_code 0 = .ok (.iload_n 0, 1) := by decide +kernel
theorem dd_md_isPrescription_1 : decode prog_9_method_6_code 1 = .ok (.bipush 20, 2) := by decide +kernel
theorem dd_md_isPrescription_3 : decode prog_9_method_6_code 3 = .ok (.invokestatic 84, 3) := by decide +kernel
theorem dd_md_isPrescription_6 : decode prog_9_method_6_code 6 = .ok (.ireturn, 1) := by decide +kernel
theorem dd_md_within_0 : decode prog_9_method_4_code 0 = .ok (.iload_n 0, 1) := by decide +kernel
theorem dd_md_within_1 : decode prog_9_method_4_code 1 = .ok (.ifCond .lt 12, 3) := by decide +kernel
theorem dd_md_within_4 : decode prog_9_method_4_code 4 = .ok (.iload_n 0, 1) := by decide +kernel
theorem dd_md_within_5 : decode prog_9_method_4_code 5 = .ok (.iload_n 1, 1) := by decide +kernel
theorem dd_md_within_6 : decode prog_9_method_4_code 6 = .ok (.if_icmp .ge 7, 3) := by decide +kernel
theorem dd_md_within_9 : decode prog_9_method_4_code 9 = .ok (.iconst 1, 1) := by decide +kernel
theorem dd_md_within_10 : decode prog_9_method_4_code 10 = .ok (.goto 4, 3) := by decide +kernel
theorem dd_md_within_13 : decode prog_9_method_4_code 13 = .ok (.iconst 0, 1) := by decide +kernel
theorem dd_md_within_14 : decode prog_9_method_4_code 14 = .ok (.ireturn, 1) := by decide +kernel
theorem dd_md_fails_0 : decode prog_9_method_3_code 0 = .ok (.aload_n 0, 1) := by decide +kernel
theorem dd_md_fails_1 : decode prog_9_method_3_code 1 = .ok (.iload_n 1, 1) := by decide +kernel
theorem dd_md_fails_2 : decode prog_9_method_3_code 2 = .ok (.ifCond .eq 7, 3) := by decide +kernel
theorem dd_md_fails_5 : decode prog_9_method_3_code 5 = .ok (.iload_n 2, 1) := by decide +kernel
theorem dd_md_fails_6 : decode prog_9_method_3_code 6 = .ok (.goto 4, 3) := by decide +kernel
theorem dd_md_fails_9 : decode prog_9_method_3_code 9 = .ok (.iconst 0, 1) := by decide +kernel
theorem dd_md_fails_10 : decode prog_9_method_3_code 10 = .ok (.putfield 80, 3) := by decide +kernel
theorem dd_md_fails_13 : decode prog_9_method_3_code 13 = .ok (.iload_n 1, 1) := by decide +kernel
theorem dd_md_fails_14 : decode prog_9_method_3_code 14 = .ok (.ireturn, 1) := by decide +kernel
theorem dd_md_ask_0 : decode prog_9_method_14_code 0 = .ok (.aload_n 0, 1) := by decide +kernel
theorem dd_md_ask_1 : decode prog_9_method_14_code 1 = .ok (.iload_n 1, 1) := by decide +kernel
theorem dd_md_ask_2 : decode prog_9_method_14_code 2 = .ok (.invokestatic 117, 3) := by decide +kernel
theorem dd_md_ask_5 : decode prog_9_method_14_code 5 = .ok (.ifCond .eq 19, 3) := by decide +kernel
theorem dd_md_ask_8 : decode prog_9_method_14_code 8 = .ok (.iload_n 2, 1) := by decide +kernel
theorem dd_md_ask_9 : decode prog_9_method_14_code 9 = .ok (.invokestatic 88, 3) := by decide +kernel
theorem dd_md_ask_12 : decode prog_9_method_14_code 12 = .ok (.ifCond .eq 12, 3) := by decide +kernel
theorem dd_md_ask_15 : decode prog_9_method_14_code 15 = .ok (.iload_n 3, 1) := by decide +kernel
theorem dd_md_ask_16 : decode prog_9_method_14_code 16 = .ok (.ldc 120, 2) := by decide +kernel
theorem dd_md_ask_18 : decode prog_9_method_14_code 18 = .ok (.invokestatic 84, 3) := by decide +kernel
theorem dd_md_ask_21 : decode prog_9_method_14_code 21 = .ok (.ifCond .ne 7, 3) := by decide +kernel
theorem dd_md_ask_24 : decode prog_9_method_14_code 24 = .ok (.iconst 1, 1) := by decide +kernel
theorem dd_md_ask_25 : decode prog_9_method_14_code 25 = .ok (.goto 4, 3) := by decide +kernel
theorem dd_md_ask_28 : decode prog_9_method_14_code 28 = .ok (.iconst 0, 1) := by decide +kernel
theorem dd_md_ask_29 : decode prog_9_method_14_code 29 = .ok (.iconst 1, 1) := by decide +kernel
theorem dd_md_ask_30 : decode prog_9_method_14_code 30 = .ok (.invokevirtual 92, 3) := by decide +kernel
theorem dd_md_ask_33 : decode prog_9_method_14_code 33 = .ok (.ifCond .eq 5, 3) := by decide +kernel
theorem dd_md_ask_36 : decode prog_9_method_14_code 36 = .ok (.iconst 0, 1) := by decide +kernel
theorem dd_md_ask_37 : decode prog_9_method_14_code 37 = .ok (.ireturn, 1) := by decide +kernel
theorem dd_md_ask_38 : decode prog_9_method_14_code 38 = .ok (.iload_n 1, 1) := by decide +kernel
theorem dd_md_ask_39 : decode prog_9_method_14_code 39 = .ok (.iload_n 2, 1) := by decide +kernel
theorem dd_md_ask_40 : decode prog_9_method_14_code 40 = .ok (.invokestatic 105, 3) := by decide +kernel
theorem dd_md_ask_43 : decode prog_9_method_14_code 43 = .ok (.istore 4, 2) := by decide +kernel
theorem dd_md_ask_45 : decode prog_9_method_14_code 45 = .ok (.aload_n 0, 1) := by decide +kernel
theorem dd_md_ask_46 : decode prog_9_method_14_code 46 = .ok (.getfield 7, 3) := by decide +kernel
theorem dd_md_ask_49 : decode prog_9_method_14_code 49 = .ok (.iload_n 2, 1) := by decide +kernel
theorem dd_md_ask_50 : decode prog_9_method_14_code 50 = .ok (.iaload, 1) := by decide +kernel
theorem dd_md_ask_51 : decode prog_9_method_14_code 51 = .ok (.ifCond .le 32, 3) := by decide +kernel
theorem dd_md_ask_54 : decode prog_9_method_14_code 54 = .ok (.aload_n 0, 1) := by decide +kernel
theorem dd_md_ask_55 : decode prog_9_method_14_code 55 = .ok (.getfield 16, 3) := by decide +kernel
theorem dd_md_ask_58 : decode prog_9_method_14_code 58 = .ok (.iload_n 1, 1) := by decide +kernel
theorem dd_md_ask_59 : decode prog_9_method_14_code 59 = .ok (.baload, 1) := by decide +kernel
theorem dd_md_ask_60 : decode prog_9_method_14_code 60 = .ok (.ifCond .ne 23, 3) := by decide +kernel
theorem dd_md_ask_63 : decode prog_9_method_14_code 63 = .ok (.aload_n 0, 1) := by decide +kernel
theorem dd_md_ask_64 : decode prog_9_method_14_code 64 = .ok (.getfield 20, 3) := by decide +kernel
theorem dd_md_ask_67 : decode prog_9_method_14_code 67 = .ok (.iload 4, 2) := by decide +kernel
theorem dd_md_ask_69 : decode prog_9_method_14_code 69 = .ok (.iaload, 1) := by decide +kernel
theorem dd_md_ask_70 : decode prog_9_method_14_code 70 = .ok (.aload_n 0, 1) := by decide +kernel
theorem dd_md_ask_71 : decode prog_9_method_14_code 71 = .ok (.getfield 7, 3) := by decide +kernel
theorem dd_md_ask_74 : decode prog_9_method_14_code 74 = .ok (.iload_n 2, 1) := by decide +kernel
theorem dd_md_ask_75 : decode prog_9_method_14_code 75 = .ok (.iaload, 1) := by decide +kernel
theorem dd_md_ask_76 : decode prog_9_method_14_code 76 = .ok (.if_icmp .ge 7, 3) := by decide +kernel
theorem dd_md_ask_79 : decode prog_9_method_14_code 79 = .ok (.iconst 1, 1) := by decide +kernel
theorem dd_md_ask_80 : decode prog_9_method_14_code 80 = .ok (.goto 4, 3) := by decide +kernel
theorem dd_md_ask_83 : decode prog_9_method_14_code 83 = .ok (.iconst 0, 1) := by decide +kernel
theorem dd_md_ask_84 : decode prog_9_method_14_code 84 = .ok (.istore 5, 2) := by decide +kernel
theorem dd_md_ask_86 : decode prog_9_method_14_code 86 = .ok (.aload_n 0, 1) := by decide +kernel
theorem dd_md_ask_87 : decode prog_9_method_14_code 87 = .ok (.iload 5, 2) := by decide +kernel
theorem dd_md_ask_89 : decode prog_9_method_14_code 89 = .ok (.ifCond .eq 44, 3) := by decide +kernel
theorem dd_md_ask_92 : decode prog_9_method_14_code 92 = .ok (.aload_n 0, 1) := by decide +kernel
theorem dd_md_ask_93 : decode prog_9_method_14_code 93 = .ok (.getfield 20, 3) := by decide +kernel
theorem dd_md_ask_96 : decode prog_9_method_14_code 96 = .ok (.iload 4, 2) := by decide +kernel
theorem dd_md_ask_98 : decode prog_9_method_14_code 98 = .ok (.iaload, 1) := by decide +kernel
theorem dd_md_ask_99 : decode prog_9_method_14_code 99 = .ok (.ifCond .le 38, 3) := by decide +kernel
theorem dd_md_ask_102 : decode prog_9_method_14_code 102 = .ok (.iload_n 3, 1) := by decide +kernel
theorem dd_md_ask_103 : decode prog_9_method_14_code 103 = .ok (.aload_n 0, 1) := by decide +kernel
theorem dd_md_ask_104 : decode prog_9_method_14_code 104 = .ok (.getfield 41, 3) := by decide +kernel
theorem dd_md_ask_107 : decode prog_9_method_14_code 107 = .ok (.bipush 12, 2) := by decide +kernel
theorem dd_md_ask_109 : decode prog_9_method_14_code 109 = .ok (.iload 4, 2) := by decide +kernel
theorem dd_md_ask_111 : decode prog_9_method_14_code 111 = .ok (.imul, 1) := by decide +kernel
theorem dd_md_ask_112 : decode prog_9_method_14_code 112 = .ok (.aload_n 0, 1) := by decide +kernel
theorem dd_md_ask_113 : decode prog_9_method_14_code 113 = .ok (.getfield 20, 3) := by decide +kernel
theorem dd_md_ask_116 : decode prog_9_method_14_code 116 = .ok (.iload 4, 2) := by decide +kernel
theorem dd_md_ask_118 : decode prog_9_method_14_code 118 = .ok (.iaload, 1) := by decide +kernel
theorem dd_md_ask_119 : decode prog_9_method_14_code 119 = .ok (.iadd, 1) := by decide +kernel
theorem dd_md_ask_120 : decode prog_9_method_14_code 120 = .ok (.iconst 1, 1) := by decide +kernel
theorem dd_md_ask_121 : decode prog_9_method_14_code 121 = .ok (.isub, 1) := by decide +kernel
theorem dd_md_ask_122 : decode prog_9_method_14_code 122 = .ok (.iaload, 1) := by decide +kernel
theorem dd_md_ask_123 : decode prog_9_method_14_code 123 = .ok (.aload_n 0, 1) := by decide +kernel
theorem dd_md_ask_124 : decode prog_9_method_14_code 124 = .ok (.getfield 13, 3) := by decide +kernel
theorem dd_md_ask_127 : decode prog_9_method_14_code 127 = .ok (.iload_n 2, 1) := by decide +kernel
theorem dd_md_ask_128 : decode prog_9_method_14_code 128 = .ok (.iaload, 1) := by decide +kernel
theorem dd_md_ask_129 : decode prog_9_method_14_code 129 = .ok (.iadd, 1) := by decide +kernel
theorem dd_md_ask_130 : decode prog_9_method_14_code 130 = .ok (.if_icmp .ge 7, 3) := by decide +kernel
theorem dd_md_ask_133 : decode prog_9_method_14_code 133 = .ok (.iconst 1, 1) := by decide +kernel
theorem dd_md_ask_134 : decode prog_9_method_14_code 134 = .ok (.goto 4, 3) := by decide +kernel
theorem dd_md_ask_137 : decode prog_9_method_14_code 137 = .ok (.iconst 0, 1) := by decide +kernel
theorem dd_md_ask_138 : decode prog_9_method_14_code 138 = .ok (.iconst 2, 1) := by decide +kernel
theorem dd_md_ask_139 : decode prog_9_method_14_code 139 = .ok (.invokevirtual 92, 3) := by decide +kernel
theorem dd_md_ask_142 : decode prog_9_method_14_code 142 = .ok (.ifCond .eq 5, 3) := by decide +kernel
theorem dd_md_ask_145 : decode prog_9_method_14_code 145 = .ok (.iconst 0, 1) := by decide +kernel
theorem dd_md_ask_146 : decode prog_9_method_14_code 146 = .ok (.ireturn, 1) := by decide +kernel
theorem dd_md_ask_147 : decode prog_9_method_14_code 147 = .ok (.aload_n 0, 1) := by decide +kernel
theorem dd_md_ask_148 : decode prog_9_method_14_code 148 = .ok (.iload 4, 2) := by decide +kernel
theorem dd_md_ask_150 : decode prog_9_method_14_code 150 = .ok (.invokevirtual 109, 3) := by decide +kernel
theorem dd_md_ask_153 : decode prog_9_method_14_code 153 = .ok (.aload_n 0, 1) := by decide +kernel
theorem dd_md_ask_154 : decode prog_9_method_14_code 154 = .ok (.getfield 44, 3) := by decide +kernel
theorem dd_md_ask_157 : decode prog_9_method_14_code 157 = .ok (.iload 4, 2) := by decide +kernel
theorem dd_md_ask_159 : decode prog_9_method_14_code 159 = .ok (.aload_n 0, 1) := by decide +kernel
theorem dd_md_ask_160 : decode prog_9_method_14_code 160 = .ok (.getfield 20, 3) := by decide +kernel
theorem dd_md_ask_163 : decode prog_9_method_14_code 163 = .ok (.iload 4, 2) := by decide +kernel
theorem dd_md_ask_165 : decode prog_9_method_14_code 165 = .ok (.iaload, 1) := by decide +kernel
theorem dd_md_ask_166 : decode prog_9_method_14_code 166 = .ok (.iconst 1, 1) := by decide +kernel
theorem dd_md_ask_167 : decode prog_9_method_14_code 167 = .ok (.iadd, 1) := by decide +kernel
theorem dd_md_ask_168 : decode prog_9_method_14_code 168 = .ok (.iastore, 1) := by decide +kernel
theorem dd_md_ask_169 : decode prog_9_method_14_code 169 = .ok (.aload_n 0, 1) := by decide +kernel
theorem dd_md_ask_170 : decode prog_9_method_14_code 170 = .ok (.getfield 47, 3) := by decide +kernel
theorem dd_md_ask_173 : decode prog_9_method_14_code 173 = .ok (.iload 4, 2) := by decide +kernel
theorem dd_md_ask_175 : decode prog_9_method_14_code 175 = .ok (.iload_n 1, 1) := by decide +kernel
theorem dd_md_ask_176 : decode prog_9_method_14_code 176 = .ok (.iastore, 1) := by decide +kernel
theorem dd_md_ask_177 : decode prog_9_method_14_code 177 = .ok (.aload_n 0, 1) := by decide +kernel
theorem dd_md_ask_178 : decode prog_9_method_14_code 178 = .ok (.getfield 50, 3) := by decide +kernel
theorem dd_md_ask_181 : decode prog_9_method_14_code 181 = .ok (.iload 4, 2) := by decide +kernel
theorem dd_md_ask_183 : decode prog_9_method_14_code 183 = .ok (.iload_n 3, 1) := by decide +kernel
theorem dd_md_ask_184 : decode prog_9_method_14_code 184 = .ok (.iastore, 1) := by decide +kernel
theorem dd_md_ask_185 : decode prog_9_method_14_code 185 = .ok (.aload_n 0, 1) := by decide +kernel
theorem dd_md_ask_186 : decode prog_9_method_14_code 186 = .ok (.getfield 71, 3) := by decide +kernel
theorem dd_md_ask_189 : decode prog_9_method_14_code 189 = .ok (.iload 4, 2) := by decide +kernel
theorem dd_md_ask_191 : decode prog_9_method_14_code 191 = .ok (.iconst 0, 1) := by decide +kernel
theorem dd_md_ask_192 : decode prog_9_method_14_code 192 = .ok (.iastore, 1) := by decide +kernel
theorem dd_md_ask_193 : decode prog_9_method_14_code 193 = .ok (.aload_n 0, 1) := by decide +kernel
theorem dd_md_ask_194 : decode prog_9_method_14_code 194 = .ok (.iload_n 1, 1) := by decide +kernel
theorem dd_md_ask_195 : decode prog_9_method_14_code 195 = .ok (.iload_n 2, 1) := by decide +kernel
theorem dd_md_ask_196 : decode prog_9_method_14_code 196 = .ok (.invokevirtual 121, 3) := by decide +kernel
theorem dd_md_ask_199 : decode prog_9_method_14_code 199 = .ok (.ireturn, 1) := by decide +kernel
theorem dd_md_isShop_0 : decode prog_9_method_5_code 0 = .ok (.iload_n 0, 1) := by decide +kernel
theorem dd_md_isShop_1 : decode prog_9_method_5_code 1 = .ok (.bipush 25, 2) := by decide +kernel
theorem dd_md_isShop_3 : decode prog_9_method_5_code 3 = .ok (.invokestatic 84, 3) := by decide +kernel
theorem dd_md_isShop_6 : decode prog_9_method_5_code 6 = .ok (.ireturn, 1) := by decide +kernel
theorem dd_md_at_0 : decode prog_9_method_7_code 0 = .ok (.bipush 20, 2) := by decide +kernel
theorem dd_md_at_2 : decode prog_9_method_7_code 2 = .ok (.iload_n 0, 1) := by decide +kernel
theorem dd_md_at_3 : decode prog_9_method_7_code 3 = .ok (.imul, 1) := by decide +kernel
theorem dd_md_at_4 : decode prog_9_method_7_code 4 = .ok (.iload_n 1, 1) := by decide +kernel
theorem dd_md_at_5 : decode prog_9_method_7_code 5 = .ok (.iadd, 1) := by decide +kernel
theorem dd_md_at_6 : decode prog_9_method_7_code 6 = .ok (.ireturn, 1) := by decide +kernel
theorem dd_md_endAsking_0 : decode prog_9_method_11_code 0 = .ok (.aload_n 0, 1) := by decide +kernel
theorem dd_md_endAsking_1 : decode prog_9_method_11_code 1 = .ok (.getfield 44, 3) := by decide +kernel
theorem dd_md_endAsking_4 : decode prog_9_method_11_code 4 = .ok (.iload_n 1, 1) := by decide +kernel
theorem dd_md_endAsking_5 : decode prog_9_method_11_code 5 = .ok (.iconst 0, 1) := by decide +kernel
theorem dd_md_endAsking_6 : decode prog_9_method_11_code 6 = .ok (.iastore, 1) := by decide +kernel
theorem dd_md_endAsking_7 : decode prog_9_method_11_code 7 = .ok (.aload_n 0, 1) := by decide +kernel
theorem dd_md_endAsking_8 : decode prog_9_method_11_code 8 = .ok (.getfield 53, 3) := by decide +kernel
theorem dd_md_endAsking_11 : decode prog_9_method_11_code 11 = .ok (.iload_n 1, 1) := by decide +kernel
theorem dd_md_endAsking_12 : decode prog_9_method_11_code 12 = .ok (.iconst 0, 1) := by decide +kernel
theorem dd_md_endAsking_13 : decode prog_9_method_11_code 13 = .ok (.iastore, 1) := by decide +kernel
theorem dd_md_endAsking_14 : decode prog_9_method_11_code 14 = .ok (.aload_n 0, 1) := by decide +kernel
theorem dd_md_endAsking_15 : decode prog_9_method_11_code 15 = .ok (.getfield 56, 3) := by decide +kernel
theorem dd_md_endAsking_18 : decode prog_9_method_11_code 18 = .ok (.iload_n 1, 1) := by decide +kernel
theorem dd_md_endAsking_19 : decode prog_9_method_11_code 19 = .ok (.iconst 0, 1) := by decide +kernel
theorem dd_md_endAsking_20 : decode prog_9_method_11_code 20 = .ok (.iastore, 1) := by decide +kernel
theorem dd_md_endAsking_21 : decode prog_9_method_11_code 21 = .ok (.aload_n 0, 1) := by decide +kernel
theorem dd_md_endAsking_22 : decode prog_9_method_11_code 22 = .ok (.getfield 59, 3) := by decide +kernel
theorem dd_md_endAsking_25 : decode prog_9_method_11_code 25 = .ok (.iload_n 1, 1) := by decide +kernel
theorem dd_md_endAsking_26 : decode prog_9_method_11_code 26 = .ok (.iconst 0, 1) := by decide +kernel
theorem dd_md_endAsking_27 : decode prog_9_method_11_code 27 = .ok (.iastore, 1) := by decide +kernel
theorem dd_md_endAsking_28 : decode prog_9_method_11_code 28 = .ok (.return_, 1) := by decide +kernel
theorem dd_md_round_0 : decode prog_9_method_13_code 0 = .ok (.iload_n 1, 1) := by decide +kernel
theorem dd_md_round_1 : decode prog_9_method_13_code 1 = .ok (.iload_n 2, 1) := by decide +kernel
theorem dd_md_round_2 : decode prog_9_method_13_code 2 = .ok (.invokestatic 105, 3) := by decide +kernel
theorem dd_md_round_5 : decode prog_9_method_13_code 5 = .ok (.istore_n 3, 1) := by decide +kernel
theorem dd_md_round_6 : decode prog_9_method_13_code 6 = .ok (.aload_n 0, 1) := by decide +kernel
theorem dd_md_round_7 : decode prog_9_method_13_code 7 = .ok (.getfield 35, 3) := by decide +kernel
theorem dd_md_round_10 : decode prog_9_method_13_code 10 = .ok (.iload_n 3, 1) := by decide +kernel
theorem dd_md_round_11 : decode prog_9_method_13_code 11 = .ok (.iaload, 1) := by decide +kernel
theorem dd_md_round_12 : decode prog_9_method_13_code 12 = .ok (.istore 4, 2) := by decide +kernel
theorem dd_md_round_14 : decode prog_9_method_13_code 14 = .ok (.aload_n 0, 1) := by decide +kernel
theorem dd_md_round_15 : decode prog_9_method_13_code 15 = .ok (.getfield 23, 3) := by decide +kernel
theorem dd_md_round_18 : decode prog_9_method_13_code 18 = .ok (.iload_n 3, 1) := by decide +kernel
theorem dd_md_round_19 : decode prog_9_method_13_code 19 = .ok (.iaload, 1) := by decide +kernel
theorem dd_md_round_20 : decode prog_9_method_13_code 20 = .ok (.iload 4, 2) := by decide +kernel
theorem dd_md_round_22 : decode prog_9_method_13_code 22 = .ok (.if_icmp .le 11, 3) := by decide +kernel
theorem dd_md_round_25 : decode prog_9_method_13_code 25 = .ok (.aload_n 0, 1) := by decide +kernel
theorem dd_md_round_26 : decode prog_9_method_13_code 26 = .ok (.getfield 23, 3) := by decide +kernel
theorem dd_md_round_29 : decode prog_9_method_13_code 29 = .ok (.iload_n 3, 1) := by decide +kernel
theorem dd_md_round_30 : decode prog_9_method_13_code 30 = .ok (.iaload, 1) := by decide +kernel
theorem dd_md_round_31 : decode prog_9_method_13_code 31 = .ok (.istore 4, 2) := by decide +kernel
theorem dd_md_round_33 : decode prog_9_method_13_code 33 = .ok (.aload_n 0, 1) := by decide +kernel
theorem dd_md_round_34 : decode prog_9_method_13_code 34 = .ok (.getfield 71, 3) := by decide +kernel
theorem dd_md_round_37 : decode prog_9_method_13_code 37 = .ok (.iload_n 3, 1) := by decide +kernel
theorem dd_md_round_38 : decode prog_9_method_13_code 38 = .ok (.iaload, 1) := by decide +kernel
theorem dd_md_round_39 : decode prog_9_method_13_code 39 = .ok (.iload 4, 2) := by decide +kernel
theorem dd_md_round_41 : decode prog_9_method_13_code 41 = .ok (.if_icmp .le 11, 3) := by decide +kernel
theorem dd_md_round_44 : decode prog_9_method_13_code 44 = .ok (.aload_n 0, 1) := by decide +kernel
theorem dd_md_round_45 : decode prog_9_method_13_code 45 = .ok (.getfield 71, 3) := by decide +kernel
theorem dd_md_round_48 : decode prog_9_method_13_code 48 = .ok (.iload_n 3, 1) := by decide +kernel
theorem dd_md_round_49 : decode prog_9_method_13_code 49 = .ok (.iaload, 1) := by decide +kernel
theorem dd_md_round_50 : decode prog_9_method_13_code 50 = .ok (.istore 4, 2) := by decide +kernel
theorem dd_md_round_52 : decode prog_9_method_13_code 52 = .ok (.bipush 25, 2) := by decide +kernel
theorem dd_md_round_54 : decode prog_9_method_13_code 54 = .ok (.iload_n 1, 1) := by decide +kernel
theorem dd_md_round_55 : decode prog_9_method_13_code 55 = .ok (.iadd, 1) := by decide +kernel
theorem dd_md_round_56 : decode prog_9_method_13_code 56 = .ok (.istore 5, 2) := by decide +kernel
theorem dd_md_round_58 : decode prog_9_method_13_code 58 = .ok (.iload 5, 2) := by decide +kernel
theorem dd_md_round_60 : decode prog_9_method_13_code 60 = .ok (.iload 4, 2) := by decide +kernel
theorem dd_md_round_62 : decode prog_9_method_13_code 62 = .ok (.if_icmp .gt 9, 3) := by decide +kernel
theorem dd_md_round_65 : decode prog_9_method_13_code 65 = .ok (.iinc 5 25, 3) := by decide +kernel
theorem dd_md_round_68 : decode prog_9_method_13_code 68 = .ok (.goto (-10), 3) := by decide +kernel
theorem dd_md_round_71 : decode prog_9_method_13_code 71 = .ok (.iload 5, 2) := by decide +kernel
theorem dd_md_round_73 : decode prog_9_method_13_code 73 = .ok (.bipush 25, 2) := by decide +kernel
theorem dd_md_round_75 : decode prog_9_method_13_code 75 = .ok (.idiv, 1) := by decide +kernel
theorem dd_md_round_76 : decode prog_9_method_13_code 76 = .ok (.sipush 1000, 3) := by decide +kernel
theorem dd_md_round_79 : decode prog_9_method_13_code 79 = .ok (.if_icmp .le 10, 3) := by decide +kernel
theorem dd_md_round_82 : decode prog_9_method_13_code 82 = .ok (.aload_n 0, 1) := by decide +kernel
theorem dd_md_round_83 : decode prog_9_method_13_code 83 = .ok (.iload_n 3, 1) := by decide +kernel
theorem dd_md_round_84 : decode prog_9_method_13_code 84 = .ok (.invokevirtual 109, 3) := by decide +kernel
theorem dd_md_round_87 : decode prog_9_method_13_code 87 = .ok (.iconst 0, 1) := by decide +kernel
theorem dd_md_round_88 : decode prog_9_method_13_code 88 = .ok (.ireturn, 1) := by decide +kernel
theorem dd_md_round_89 : decode prog_9_method_13_code 89 = .ok (.aload_n 0, 1) := by decide +kernel
theorem dd_md_round_90 : decode prog_9_method_13_code 90 = .ok (.getfield 35, 3) := by decide +kernel
theorem dd_md_round_93 : decode prog_9_method_13_code 93 = .ok (.iload_n 3, 1) := by decide +kernel
theorem dd_md_round_94 : decode prog_9_method_13_code 94 = .ok (.iload 5, 2) := by decide +kernel
theorem dd_md_round_96 : decode prog_9_method_13_code 96 = .ok (.iastore, 1) := by decide +kernel
theorem dd_md_round_97 : decode prog_9_method_13_code 97 = .ok (.aload_n 0, 1) := by decide +kernel
theorem dd_md_round_98 : decode prog_9_method_13_code 98 = .ok (.getfield 53, 3) := by decide +kernel
theorem dd_md_round_101 : decode prog_9_method_13_code 101 = .ok (.iload_n 3, 1) := by decide +kernel
theorem dd_md_round_102 : decode prog_9_method_13_code 102 = .ok (.iload 5, 2) := by decide +kernel
theorem dd_md_round_104 : decode prog_9_method_13_code 104 = .ok (.iastore, 1) := by decide +kernel
theorem dd_md_round_105 : decode prog_9_method_13_code 105 = .ok (.aload_n 0, 1) := by decide +kernel
theorem dd_md_round_106 : decode prog_9_method_13_code 106 = .ok (.getfield 56, 3) := by decide +kernel
theorem dd_md_round_109 : decode prog_9_method_13_code 109 = .ok (.iload_n 3, 1) := by decide +kernel
theorem dd_md_round_110 : decode prog_9_method_13_code 110 = .ok (.iconst 1, 1) := by decide +kernel
theorem dd_md_round_111 : decode prog_9_method_13_code 111 = .ok (.iastore, 1) := by decide +kernel
theorem dd_md_round_112 : decode prog_9_method_13_code 112 = .ok (.aload_n 0, 1) := by decide +kernel
theorem dd_md_round_113 : decode prog_9_method_13_code 113 = .ok (.getfield 59, 3) := by decide +kernel
theorem dd_md_round_116 : decode prog_9_method_13_code 116 = .ok (.iload_n 3, 1) := by decide +kernel
theorem dd_md_round_117 : decode prog_9_method_13_code 117 = .ok (.iconst 0, 1) := by decide +kernel
theorem dd_md_round_118 : decode prog_9_method_13_code 118 = .ok (.iastore, 1) := by decide +kernel
theorem dd_md_round_119 : decode prog_9_method_13_code 119 = .ok (.aload_n 0, 1) := by decide +kernel
theorem dd_md_round_120 : decode prog_9_method_13_code 120 = .ok (.getfield 62, 3) := by decide +kernel
theorem dd_md_round_123 : decode prog_9_method_13_code 123 = .ok (.iload_n 3, 1) := by decide +kernel
theorem dd_md_round_124 : decode prog_9_method_13_code 124 = .ok (.iconst 0, 1) := by decide +kernel
theorem dd_md_round_125 : decode prog_9_method_13_code 125 = .ok (.iastore, 1) := by decide +kernel
theorem dd_md_round_126 : decode prog_9_method_13_code 126 = .ok (.iconst 0, 1) := by decide +kernel
theorem dd_md_round_127 : decode prog_9_method_13_code 127 = .ok (.istore 6, 2) := by decide +kernel
theorem dd_md_round_129 : decode prog_9_method_13_code 129 = .ok (.iload 6, 2) := by decide +kernel
theorem dd_md_round_131 : decode prog_9_method_13_code 131 = .ok (.bipush 25, 2) := by decide +kernel
theorem dd_md_round_133 : decode prog_9_method_13_code 133 = .ok (.if_icmp .ge 29, 3) := by decide +kernel
theorem dd_md_round_136 : decode prog_9_method_13_code 136 = .ok (.aload_n 0, 1) := by decide +kernel
theorem dd_md_round_137 : decode prog_9_method_13_code 137 = .ok (.iconst 1, 1) := by decide +kernel
theorem dd_md_round_138 : decode prog_9_method_13_code 138 = .ok (.iload_n 1, 1) := by decide +kernel
theorem dd_md_round_139 : decode prog_9_method_13_code 139 = .ok (.iload 6, 2) := by decide +kernel
theorem dd_md_round_141 : decode prog_9_method_13_code 141 = .ok (.iload_n 2, 1) := by decide +kernel
theorem dd_md_round_142 : decode prog_9_method_13_code 142 = .ok (.aload_n 0, 1) := by decide +kernel
theorem dd_md_round_143 : decode prog_9_method_13_code 143 = .ok (.getfield 44, 3) := by decide +kernel
theorem dd_md_round_146 : decode prog_9_method_13_code 146 = .ok (.iload_n 3, 1) := by decide +kernel
theorem dd_md_round_147 : decode prog_9_method_13_code 147 = .ok (.iaload, 1) := by decide +kernel
theorem dd_md_round_148 : decode prog_9_method_13_code 148 = .ok (.iload 5, 2) := by decide +kernel
theorem dd_md_round_150 : decode prog_9_method_13_code 150 = .ok (.iconst 0, 1) := by decide +kernel
theorem dd_md_round_151 : decode prog_9_method_13_code 151 = .ok (.iconst (-1), 1) := by decide +kernel
theorem dd_md_round_152 : decode prog_9_method_13_code 152 = .ok (.iconst (-1), 1) := by decide +kernel
theorem dd_md_round_153 : decode prog_9_method_13_code 153 = .ok (.invokevirtual 113, 3) := by decide +kernel
theorem dd_md_round_156 : decode prog_9_method_13_code 156 = .ok (.iinc 6 1, 3) := by decide +kernel
theorem dd_md_round_159 : decode prog_9_method_13_code 159 = .ok (.goto (-30), 3) := by decide +kernel
theorem dd_md_round_162 : decode prog_9_method_13_code 162 = .ok (.bipush 25, 2) := by decide +kernel
theorem dd_md_round_164 : decode prog_9_method_13_code 164 = .ok (.ireturn, 1) := by decide +kernel
theorem dd_md_send_0 : decode prog_9_method_9_code 0 = .ok (.aload_n 0, 1) := by decide +kernel
theorem dd_md_send_1 : decode prog_9_method_9_code 1 = .ok (.dup, 1) := by decide +kernel
theorem dd_md_send_2 : decode prog_9_method_9_code 2 = .ok (.getfield 96, 3) := by decide +kernel
theorem dd_md_send_5 : decode prog_9_method_9_code 5 = .ok (.iconst 1, 1) := by decide +kernel
theorem dd_md_send_6 : decode prog_9_method_9_code 6 = .ok (.iadd, 1) := by decide +kernel
theorem dd_md_send_7 : decode prog_9_method_9_code 7 = .ok (.putfield 96, 3) := by decide +kernel
theorem dd_md_send_10 : decode prog_9_method_9_code 10 = .ok (.aload_n 0, 1) := by decide +kernel
theorem dd_md_send_11 : decode prog_9_method_9_code 11 = .ok (.getfield 99, 3) := by decide +kernel
theorem dd_md_send_14 : decode prog_9_method_9_code 14 = .ok (.bipush 100, 2) := by decide +kernel
theorem dd_md_send_16 : decode prog_9_method_9_code 16 = .ok (.if_icmp .ne 14, 3) := by decide +kernel
theorem dd_md_send_19 : decode prog_9_method_9_code 19 = .ok (.aload_n 0, 1) := by decide +kernel
theorem dd_md_send_20 : decode prog_9_method_9_code 20 = .ok (.dup, 1) := by decide +kernel
theorem dd_md_send_21 : decode prog_9_method_9_code 21 = .ok (.getfield 102, 3) := by decide +kernel
theorem dd_md_send_24 : decode prog_9_method_9_code 24 = .ok (.iconst 1, 1) := by decide +kernel
theorem dd_md_send_25 : decode prog_9_method_9_code 25 = .ok (.iadd, 1) := by decide +kernel
theorem dd_md_send_26 : decode prog_9_method_9_code 26 = .ok (.putfield 102, 3) := by decide +kernel
theorem dd_md_send_29 : decode prog_9_method_9_code 29 = .ok (.return_, 1) := by decide +kernel
theorem dd_md_send_30 : decode prog_9_method_9_code 30 = .ok (.bipush 34, 2) := by decide +kernel
theorem dd_md_send_32 : decode prog_9_method_9_code 32 = .ok (.aload_n 0, 1) := by decide +kernel
theorem dd_md_send_33 : decode prog_9_method_9_code 33 = .ok (.getfield 99, 3) := by decide +kernel
theorem dd_md_send_36 : decode prog_9_method_9_code 36 = .ok (.imul, 1) := by decide +kernel
theorem dd_md_send_37 : decode prog_9_method_9_code 37 = .ok (.istore 10, 2) := by decide +kernel
theorem dd_md_send_39 : decode prog_9_method_9_code 39 = .ok (.aload_n 0, 1) := by decide +kernel
theorem dd_md_send_40 : decode prog_9_method_9_code 40 = .ok (.getfield 74, 3) := by decide +kernel
theorem dd_md_send_43 : decode prog_9_method_9_code 43 = .ok (.iload 10, 2) := by decide +kernel
theorem dd_md_send_45 : decode prog_9_method_9_code 45 = .ok (.iload_n 1, 1) := by decide +kernel
theorem dd_md_send_46 : decode prog_9_method_9_code 46 = .ok (.iastore, 1) := by decide +kernel
theorem dd_md_send_47 : decode prog_9_method_9_code 47 = .ok (.aload_n 0, 1) := by decide +kernel
theorem dd_md_send_48 : decode prog_9_method_9_code 48 = .ok (.getfield 74, 3) := by decide +kernel
theorem dd_md_send_51 : decode prog_9_method_9_code 51 = .ok (.iload 10, 2) := by decide +kernel
theorem dd_md_send_53 : decode prog_9_method_9_code 53 = .ok (.iconst 1, 1) := by decide +kernel
theorem dd_md_send_54 : decode prog_9_method_9_code 54 = .ok (.iadd, 1) := by decide +kernel
theorem dd_md_send_55 : decode prog_9_method_9_code 55 = .ok (.iload_n 2, 1) := by decide +kernel
theorem dd_md_send_56 : decode prog_9_method_9_code 56 = .ok (.iastore, 1) := by decide +kernel
theorem dd_md_send_57 : decode prog_9_method_9_code 57 = .ok (.aload_n 0, 1) := by decide +kernel
theorem dd_md_send_58 : decode prog_9_method_9_code 58 = .ok (.getfield 74, 3) := by decide +kernel
theorem dd_md_send_61 : decode prog_9_method_9_code 61 = .ok (.iload 10, 2) := by decide +kernel
theorem dd_md_send_63 : decode prog_9_method_9_code 63 = .ok (.iconst 2, 1) := by decide +kernel
theorem dd_md_send_64 : decode prog_9_method_9_code 64 = .ok (.iadd, 1) := by decide +kernel
theorem dd_md_send_65 : decode prog_9_method_9_code 65 = .ok (.iload_n 3, 1) := by decide +kernel
theorem dd_md_send_66 : decode prog_9_method_9_code 66 = .ok (.iastore, 1) := by decide +kernel
theorem dd_md_send_67 : decode prog_9_method_9_code 67 = .ok (.aload_n 0, 1) := by decide +kernel
theorem dd_md_send_68 : decode prog_9_method_9_code 68 = .ok (.getfield 74, 3) := by decide +kernel
theorem dd_md_send_71 : decode prog_9_method_9_code 71 = .ok (.iload 10, 2) := by decide +kernel
theorem dd_md_send_73 : decode prog_9_method_9_code 73 = .ok (.iconst 3, 1) := by decide +kernel
theorem dd_md_send_74 : decode prog_9_method_9_code 74 = .ok (.iadd, 1) := by decide +kernel
theorem dd_md_send_75 : decode prog_9_method_9_code 75 = .ok (.iload 4, 2) := by decide +kernel
theorem dd_md_send_77 : decode prog_9_method_9_code 77 = .ok (.iastore, 1) := by decide +kernel
theorem dd_md_send_78 : decode prog_9_method_9_code 78 = .ok (.aload_n 0, 1) := by decide +kernel
theorem dd_md_send_79 : decode prog_9_method_9_code 79 = .ok (.getfield 74, 3) := by decide +kernel
theorem dd_md_send_82 : decode prog_9_method_9_code 82 = .ok (.iload 10, 2) := by decide +kernel
theorem dd_md_send_84 : decode prog_9_method_9_code 84 = .ok (.iconst 4, 1) := by decide +kernel
theorem dd_md_send_85 : decode prog_9_method_9_code 85 = .ok (.iadd, 1) := by decide +kernel
theorem dd_md_send_86 : decode prog_9_method_9_code 86 = .ok (.iload 5, 2) := by decide +kernel
theorem dd_md_send_88 : decode prog_9_method_9_code 88 = .ok (.iastore, 1) := by decide +kernel
theorem dd_md_send_89 : decode prog_9_method_9_code 89 = .ok (.aload_n 0, 1) := by decide +kernel
theorem dd_md_send_90 : decode prog_9_method_9_code 90 = .ok (.getfield 74, 3) := by decide +kernel
theorem dd_md_send_93 : decode prog_9_method_9_code 93 = .ok (.iload 10, 2) := by decide +kernel
theorem dd_md_send_95 : decode prog_9_method_9_code 95 = .ok (.iconst 5, 1) := by decide +kernel
theorem dd_md_send_96 : decode prog_9_method_9_code 96 = .ok (.iadd, 1) := by decide +kernel
theorem dd_md_send_97 : decode prog_9_method_9_code 97 = .ok (.iload 6, 2) := by decide +kernel
theorem dd_md_send_99 : decode prog_9_method_9_code 99 = .ok (.iastore, 1) := by decide +kernel
theorem dd_md_send_100 : decode prog_9_method_9_code 100 = .ok (.aload_n 0, 1) := by decide +kernel
theorem dd_md_send_101 : decode prog_9_method_9_code 101 = .ok (.getfield 74, 3) := by decide +kernel
theorem dd_md_send_104 : decode prog_9_method_9_code 104 = .ok (.iload 10, 2) := by decide +kernel
theorem dd_md_send_106 : decode prog_9_method_9_code 106 = .ok (.bipush 6, 2) := by decide +kernel
theorem dd_md_send_108 : decode prog_9_method_9_code 108 = .ok (.iadd, 1) := by decide +kernel
theorem dd_md_send_109 : decode prog_9_method_9_code 109 = .ok (.iload 7, 2) := by decide +kernel
theorem dd_md_send_111 : decode prog_9_method_9_code 111 = .ok (.iastore, 1) := by decide +kernel
theorem dd_md_send_112 : decode prog_9_method_9_code 112 = .ok (.aload_n 0, 1) := by decide +kernel
theorem dd_md_send_113 : decode prog_9_method_9_code 113 = .ok (.getfield 74, 3) := by decide +kernel
theorem dd_md_send_116 : decode prog_9_method_9_code 116 = .ok (.iload 10, 2) := by decide +kernel
theorem dd_md_send_118 : decode prog_9_method_9_code 118 = .ok (.bipush 7, 2) := by decide +kernel
theorem dd_md_send_120 : decode prog_9_method_9_code 120 = .ok (.iadd, 1) := by decide +kernel
theorem dd_md_send_121 : decode prog_9_method_9_code 121 = .ok (.iload 8, 2) := by decide +kernel
theorem dd_md_send_123 : decode prog_9_method_9_code 123 = .ok (.iastore, 1) := by decide +kernel
theorem dd_md_send_124 : decode prog_9_method_9_code 124 = .ok (.aload_n 0, 1) := by decide +kernel
theorem dd_md_send_125 : decode prog_9_method_9_code 125 = .ok (.getfield 74, 3) := by decide +kernel
theorem dd_md_send_128 : decode prog_9_method_9_code 128 = .ok (.iload 10, 2) := by decide +kernel
theorem dd_md_send_130 : decode prog_9_method_9_code 130 = .ok (.bipush 8, 2) := by decide +kernel
theorem dd_md_send_132 : decode prog_9_method_9_code 132 = .ok (.iadd, 1) := by decide +kernel
theorem dd_md_send_133 : decode prog_9_method_9_code 133 = .ok (.iload 9, 2) := by decide +kernel
theorem dd_md_send_135 : decode prog_9_method_9_code 135 = .ok (.iastore, 1) := by decide +kernel
theorem dd_md_send_136 : decode prog_9_method_9_code 136 = .ok (.iload_n 2, 1) := by decide +kernel
theorem dd_md_send_137 : decode prog_9_method_9_code 137 = .ok (.iload 4, 2) := by decide +kernel
theorem dd_md_send_139 : decode prog_9_method_9_code 139 = .ok (.invokestatic 105, 3) := by decide +kernel
theorem dd_md_send_142 : decode prog_9_method_9_code 142 = .ok (.istore 11, 2) := by decide +kernel
theorem dd_md_send_144 : decode prog_9_method_9_code 144 = .ok (.aload_n 0, 1) := by decide +kernel
theorem dd_md_send_145 : decode prog_9_method_9_code 145 = .ok (.getfield 74, 3) := by decide +kernel
theorem dd_md_send_148 : decode prog_9_method_9_code 148 = .ok (.iload 10, 2) := by decide +kernel
theorem dd_md_send_150 : decode prog_9_method_9_code 150 = .ok (.bipush 9, 2) := by decide +kernel
theorem dd_md_send_152 : decode prog_9_method_9_code 152 = .ok (.iadd, 1) := by decide +kernel
theorem dd_md_send_153 : decode prog_9_method_9_code 153 = .ok (.aload_n 0, 1) := by decide +kernel
theorem dd_md_send_154 : decode prog_9_method_9_code 154 = .ok (.getfield 20, 3) := by decide +kernel
theorem dd_md_send_157 : decode prog_9_method_9_code 157 = .ok (.iload 11, 2) := by decide +kernel
theorem dd_md_send_159 : decode prog_9_method_9_code 159 = .ok (.iaload, 1) := by decide +kernel
theorem dd_md_send_160 : decode prog_9_method_9_code 160 = .ok (.iastore, 1) := by decide +kernel
theorem dd_md_send_161 : decode prog_9_method_9_code 161 = .ok (.iconst 0, 1) := by decide +kernel
theorem dd_md_send_162 : decode prog_9_method_9_code 162 = .ok (.istore 12, 2) := by decide +kernel
theorem dd_md_send_164 : decode prog_9_method_9_code 164 = .ok (.iload 12, 2) := by decide +kernel
theorem dd_md_send_166 : decode prog_9_method_9_code 166 = .ok (.aload_n 0, 1) := by decide +kernel
theorem dd_md_send_167 : decode prog_9_method_9_code 167 = .ok (.getfield 20, 3) := by decide +kernel
theorem dd_md_send_170 : decode prog_9_method_9_code 170 = .ok (.iload 11, 2) := by decide +kernel
theorem dd_md_send_172 : decode prog_9_method_9_code 172 = .ok (.iaload, 1) := by decide +kernel
theorem dd_md_send_173 : decode prog_9_method_9_code 173 = .ok (.if_icmp .ge 65, 3) := by decide +kernel
theorem dd_md_send_176 : decode prog_9_method_9_code 176 = .ok (.aload_n 0, 1) := by decide +kernel
theorem dd_md_send_177 : decode prog_9_method_9_code 177 = .ok (.getfield 74, 3) := by decide +kernel
theorem dd_md_send_180 : decode prog_9_method_9_code 180 = .ok (.iload 10, 2) := by decide +kernel
theorem dd_md_send_182 : decode prog_9_method_9_code 182 = .ok (.bipush 10, 2) := by decide +kernel
theorem dd_md_send_184 : decode prog_9_method_9_code 184 = .ok (.iadd, 1) := by decide +kernel
theorem dd_md_send_185 : decode prog_9_method_9_code 185 = .ok (.iconst 2, 1) := by decide +kernel
theorem dd_md_send_186 : decode prog_9_method_9_code 186 = .ok (.iload 12, 2) := by decide +kernel
theorem dd_md_send_188 : decode prog_9_method_9_code 188 = .ok (.imul, 1) := by decide +kernel
theorem dd_md_send_189 : decode prog_9_method_9_code 189 = .ok (.iadd, 1) := by decide +kernel
theorem dd_md_send_190 : decode prog_9_method_9_code 190 = .ok (.aload_n 0, 1) := by decide +kernel
theorem dd_md_send_191 : decode prog_9_method_9_code 191 = .ok (.getfield 38, 3) := by decide +kernel
theorem dd_md_send_194 : decode prog_9_method_9_code 194 = .ok (.bipush 12, 2) := by decide +kernel
theorem dd_md_send_196 : decode prog_9_method_9_code 196 = .ok (.iload 11, 2) := by decide +kernel
theorem dd_md_send_198 : decode prog_9_method_9_code 198 = .ok (.imul, 1) := by decide +kernel
theorem dd_md_send_199 : decode prog_9_method_9_code 199 = .ok (.iload 12, 2) := by decide +kernel
theorem dd_md_send_201 : decode prog_9_method_9_code 201 = .ok (.iadd, 1) := by decide +kernel
theorem dd_md_send_202 : decode prog_9_method_9_code 202 = .ok (.iaload, 1) := by decide +kernel
theorem dd_md_send_203 : decode prog_9_method_9_code 203 = .ok (.iastore, 1) := by decide +kernel
theorem dd_md_send_204 : decode prog_9_method_9_code 204 = .ok (.aload_n 0, 1) := by decide +kernel
theorem dd_md_send_205 : decode prog_9_method_9_code 205 = .ok (.getfield 74, 3) := by decide +kernel
theorem dd_md_send_208 : decode prog_9_method_9_code 208 = .ok (.iload 10, 2) := by decide +kernel
theorem dd_md_send_210 : decode prog_9_method_9_code 210 = .ok (.bipush 11, 2) := by decide +kernel
theorem dd_md_send_212 : decode prog_9_method_9_code 212 = .ok (.iadd, 1) := by decide +kernel
theorem dd_md_send_213 : decode prog_9_method_9_code 213 = .ok (.iconst 2, 1) := by decide +kernel
theorem dd_md_send_214 : decode prog_9_method_9_code 214 = .ok (.iload 12, 2) := by decide +kernel
theorem dd_md_send_216 : decode prog_9_method_9_code 216 = .ok (.imul, 1) := by decide +kernel
theorem dd_md_send_217 : decode prog_9_method_9_code 217 = .ok (.iadd, 1) := by decide +kernel
theorem dd_md_send_218 : decode prog_9_method_9_code 218 = .ok (.aload_n 0, 1) := by decide +kernel
theorem dd_md_send_219 : decode prog_9_method_9_code 219 = .ok (.getfield 41, 3) := by decide +kernel
theorem dd_md_send_222 : decode prog_9_method_9_code 222 = .ok (.bipush 12, 2) := by decide +kernel
theorem dd_md_send_224 : decode prog_9_method_9_code 224 = .ok (.iload 11, 2) := by decide +kernel
theorem dd_md_send_226 : decode prog_9_method_9_code 226 = .ok (.imul, 1) := by decide +kernel
theorem dd_md_send_227 : decode prog_9_method_9_code 227 = .ok (.iload 12, 2) := by decide +kernel
theorem dd_md_send_229 : decode prog_9_method_9_code 229 = .ok (.iadd, 1) := by decide +kernel
theorem dd_md_send_230 : decode prog_9_method_9_code 230 = .ok (.iaload, 1) := by decide +kernel
theorem dd_md_send_231 : decode prog_9_method_9_code 231 = .ok (.iastore, 1) := by decide +kernel
theorem dd_md_send_232 : decode prog_9_method_9_code 232 = .ok (.iinc 12 1, 3) := by decide +kernel
theorem dd_md_send_235 : decode prog_9_method_9_code 235 = .ok (.goto (-71), 3) := by decide +kernel
theorem dd_md_send_238 : decode prog_9_method_9_code 238 = .ok (.aload_n 0, 1) := by decide +kernel
theorem dd_md_send_239 : decode prog_9_method_9_code 239 = .ok (.dup, 1) := by decide +kernel
theorem dd_md_send_240 : decode prog_9_method_9_code 240 = .ok (.getfield 99, 3) := by decide +kernel
theorem dd_md_send_243 : decode prog_9_method_9_code 243 = .ok (.iconst 1, 1) := by decide +kernel
theorem dd_md_send_244 : decode prog_9_method_9_code 244 = .ok (.iadd, 1) := by decide +kernel
theorem dd_md_send_245 : decode prog_9_method_9_code 245 = .ok (.putfield 99, 3) := by decide +kernel
theorem dd_md_send_248 : decode prog_9_method_9_code 248 = .ok (.return_, 1) := by decide +kernel
theorem dd_md_retry_0 : decode prog_9_method_15_code 0 = .ok (.aload_n 0, 1) := by decide +kernel
theorem dd_md_retry_1 : decode prog_9_method_15_code 1 = .ok (.iload_n 1, 1) := by decide +kernel
theorem dd_md_retry_2 : decode prog_9_method_15_code 2 = .ok (.invokestatic 117, 3) := by decide +kernel
theorem dd_md_retry_5 : decode prog_9_method_15_code 5 = .ok (.ifCond .eq 10, 3) := by decide +kernel
theorem dd_md_retry_8 : decode prog_9_method_15_code 8 = .ok (.iload_n 2, 1) := by decide +kernel
theorem dd_md_retry_9 : decode prog_9_method_15_code 9 = .ok (.invokestatic 88, 3) := by decide +kernel
theorem dd_md_retry_12 : decode prog_9_method_15_code 12 = .ok (.ifCond .ne 7, 3) := by decide +kernel
theorem dd_md_retry_15 : decode prog_9_method_15_code 15 = .ok (.iconst 1, 1) := by decide +kernel
theorem dd_md_retry_16 : decode prog_9_method_15_code 16 = .ok (.goto 4, 3) := by decide +kernel
theorem dd_md_retry_19 : decode prog_9_method_15_code 19 = .ok (.iconst 0, 1) := by decide +kernel
theorem dd_md_retry_20 : decode prog_9_method_15_code 20 = .ok (.iconst 1, 1) := by decide +kernel
theorem dd_md_retry_21 : decode prog_9_method_15_code 21 = .ok (.invokevirtual 92, 3) := by decide +kernel
theorem dd_md_retry_24 : decode prog_9_method_15_code 24 = .ok (.ifCond .eq 5, 3) := by decide +kernel
theorem dd_md_retry_27 : decode prog_9_method_15_code 27 = .ok (.iconst 0, 1) := by decide +kernel
theorem dd_md_retry_28 : decode prog_9_method_15_code 28 = .ok (.ireturn, 1) := by decide +kernel
theorem dd_md_retry_29 : decode prog_9_method_15_code 29 = .ok (.aload_n 0, 1) := by decide +kernel
theorem dd_md_retry_30 : decode prog_9_method_15_code 30 = .ok (.aload_n 0, 1) := by decide +kernel
theorem dd_md_retry_31 : decode prog_9_method_15_code 31 = .ok (.getfield 16, 3) := by decide +kernel
theorem dd_md_retry_34 : decode prog_9_method_15_code 34 = .ok (.iload_n 1, 1) := by decide +kernel
theorem dd_md_retry_35 : decode prog_9_method_15_code 35 = .ok (.baload, 1) := by decide +kernel
theorem dd_md_retry_36 : decode prog_9_method_15_code 36 = .ok (.ifCond .ne 16, 3) := by decide +kernel
theorem dd_md_retry_39 : decode prog_9_method_15_code 39 = .ok (.aload_n 0, 1) := by decide +kernel
theorem dd_md_retry_40 : decode prog_9_method_15_code 40 = .ok (.getfield 44, 3) := by decide +kernel
theorem dd_md_retry_43 : decode prog_9_method_15_code 43 = .ok (.iload_n 1, 1) := by decide +kernel
theorem dd_md_retry_44 : decode prog_9_method_15_code 44 = .ok (.iload_n 2, 1) := by decide +kernel
theorem dd_md_retry_45 : decode prog_9_method_15_code 45 = .ok (.invokestatic 105, 3) := by decide +kernel
theorem dd_md_retry_48 : decode prog_9_method_15_code 48 = .ok (.iaload, 1) := by decide +kernel
theorem dd_md_retry_49 : decode prog_9_method_15_code 49 = .ok (.ifCond .ne 7, 3) := by decide +kernel
theorem dd_md_retry_52 : decode prog_9_method_15_code 52 = .ok (.iconst 1, 1) := by decide +kernel
theorem dd_md_retry_53 : decode prog_9_method_15_code 53 = .ok (.goto 4, 3) := by decide +kernel
theorem dd_md_retry_56 : decode prog_9_method_15_code 56 = .ok (.iconst 0, 1) := by decide +kernel
theorem dd_md_retry_57 : decode prog_9_method_15_code 57 = .ok (.iconst 2, 1) := by decide +kernel
theorem dd_md_retry_58 : decode prog_9_method_15_code 58 = .ok (.invokevirtual 92, 3) := by decide +kernel
theorem dd_md_retry_61 : decode prog_9_method_15_code 61 = .ok (.ifCond .eq 5, 3) := by decide +kernel
theorem dd_md_retry_64 : decode prog_9_method_15_code 64 = .ok (.iconst 0, 1) := by decide +kernel
theorem dd_md_retry_65 : decode prog_9_method_15_code 65 = .ok (.ireturn, 1) := by decide +kernel
theorem dd_md_retry_66 : decode prog_9_method_15_code 66 = .ok (.aload_n 0, 1) := by decide +kernel
theorem dd_md_retry_67 : decode prog_9_method_15_code 67 = .ok (.iload_n 1, 1) := by decide +kernel
theorem dd_md_retry_68 : decode prog_9_method_15_code 68 = .ok (.iload_n 2, 1) := by decide +kernel
theorem dd_md_retry_69 : decode prog_9_method_15_code 69 = .ok (.invokevirtual 121, 3) := by decide +kernel
theorem dd_md_retry_72 : decode prog_9_method_15_code 72 = .ok (.ireturn, 1) := by decide +kernel
theorem dd_md_deliver_0 : decode prog_9_method_22_code 0 = .ok (.aload_n 0, 1) := by decide +kernel
theorem dd_md_deliver_1 : decode prog_9_method_22_code 1 = .ok (.iload_n 1, 1) := by decide +kernel
theorem dd_md_deliver_2 : decode prog_9_method_22_code 2 = .ok (.aload_n 0, 1) := by decide +kernel
theorem dd_md_deliver_3 : decode prog_9_method_22_code 3 = .ok (.getfield 99, 3) := by decide +kernel
theorem dd_md_deliver_6 : decode prog_9_method_22_code 6 = .ok (.invokestatic 84, 3) := by decide +kernel
theorem dd_md_deliver_9 : decode prog_9_method_22_code 9 = .ok (.ifCond .ne 7, 3) := by decide +kernel
theorem dd_md_deliver_12 : decode prog_9_method_22_code 12 = .ok (.iconst 1, 1) := by decide +kernel
theorem dd_md_deliver_13 : decode prog_9_method_22_code 13 = .ok (.goto 4, 3) := by decide +kernel
theorem dd_md_deliver_16 : decode prog_9_method_22_code 16 = .ok (.iconst 0, 1) := by decide +kernel
theorem dd_md_deliver_17 : decode prog_9_method_22_code 17 = .ok (.iconst 1, 1) := by decide +kernel
theorem dd_md_deliver_18 : decode prog_9_method_22_code 18 = .ok (.invokevirtual 92, 3) := by decide +kernel
theorem dd_md_deliver_21 : decode prog_9_method_22_code 21 = .ok (.ifCond .eq 5, 3) := by decide +kernel
theorem dd_md_deliver_24 : decode prog_9_method_22_code 24 = .ok (.iconst 0, 1) := by decide +kernel
theorem dd_md_deliver_25 : decode prog_9_method_22_code 25 = .ok (.ireturn, 1) := by decide +kernel
theorem dd_md_deliver_26 : decode prog_9_method_22_code 26 = .ok (.aload_n 0, 1) := by decide +kernel
theorem dd_md_deliver_27 : decode prog_9_method_22_code 27 = .ok (.iload_n 1, 1) := by decide +kernel
theorem dd_md_deliver_28 : decode prog_9_method_22_code 28 = .ok (.invokevirtual 150, 3) := by decide +kernel
theorem dd_md_deliver_31 : decode prog_9_method_22_code 31 = .ok (.ireturn, 1) := by decide +kernel
theorem dd_md_handOver_0 : decode prog_9_method_21_code 0 = .ok (.aload_n 0, 1) := by decide +kernel
theorem dd_md_handOver_1 : decode prog_9_method_21_code 1 = .ok (.getfield 96, 3) := by decide +kernel
theorem dd_md_handOver_4 : decode prog_9_method_21_code 4 = .ok (.istore_n 2, 1) := by decide +kernel
theorem dd_md_handOver_5 : decode prog_9_method_21_code 5 = .ok (.aload_n 0, 1) := by decide +kernel
theorem dd_md_handOver_6 : decode prog_9_method_21_code 6 = .ok (.iload_n 1, 1) := by decide +kernel
theorem dd_md_handOver_7 : decode prog_9_method_21_code 7 = .ok (.invokevirtual 141, 3) := by decide +kernel
theorem dd_md_handOver_10 : decode prog_9_method_21_code 10 = .ok (.aload_n 0, 1) := by decide +kernel
theorem dd_md_handOver_11 : decode prog_9_method_21_code 11 = .ok (.getfield 16, 3) := by decide +kernel
theorem dd_md_handOver_14 : decode prog_9_method_21_code 14 = .ok (.aload_n 0, 1) := by decide +kernel
theorem dd_md_handOver_15 : decode prog_9_method_21_code 15 = .ok (.getfield 77, 3) := by decide +kernel
theorem dd_md_handOver_18 : decode prog_9_method_21_code 18 = .ok (.iconst 2, 1) := by decide +kernel
theorem dd_md_handOver_19 : decode prog_9_method_21_code 19 = .ok (.iaload, 1) := by decide +kernel
theorem dd_md_handOver_20 : decode prog_9_method_21_code 20 = .ok (.baload, 1) := by decide +kernel
theorem dd_md_handOver_21 : decode prog_9_method_21_code 21 = .ok (.ifCond .eq 16, 3) := by decide +kernel
theorem dd_md_handOver_24 : decode prog_9_method_21_code 24 = .ok (.aload_n 0, 1) := by decide +kernel
theorem dd_md_handOver_25 : decode prog_9_method_21_code 25 = .ok (.dup, 1) := by decide +kernel
theorem dd_md_handOver_26 : decode prog_9_method_21_code 26 = .ok (.getfield 144, 3) := by decide +kernel
theorem dd_md_handOver_29 : decode prog_9_method_21_code 29 = .ok (.iconst 1, 1) := by decide +kernel
theorem dd_md_handOver_30 : decode prog_9_method_21_code 30 = .ok (.iadd, 1) := by decide +kernel
theorem dd_md_handOver_31 : decode prog_9_method_21_code 31 = .ok (.putfield 144, 3) := by decide +kernel
theorem dd_md_handOver_34 : decode prog_9_method_21_code 34 = .ok (.goto 7, 3) := by decide +kernel
theorem dd_md_handOver_37 : decode prog_9_method_21_code 37 = .ok (.aload_n 0, 1) := by decide +kernel
theorem dd_md_handOver_38 : decode prog_9_method_21_code 38 = .ok (.invokevirtual 147, 3) := by decide +kernel
theorem dd_md_handOver_41 : decode prog_9_method_21_code 41 = .ok (.aload_n 0, 1) := by decide +kernel
theorem dd_md_handOver_42 : decode prog_9_method_21_code 42 = .ok (.getfield 96, 3) := by decide +kernel
theorem dd_md_handOver_45 : decode prog_9_method_21_code 45 = .ok (.iload_n 2, 1) := by decide +kernel
theorem dd_md_handOver_46 : decode prog_9_method_21_code 46 = .ok (.isub, 1) := by decide +kernel
theorem dd_md_handOver_47 : decode prog_9_method_21_code 47 = .ok (.ireturn, 1) := by decide +kernel
theorem dd_md_take_0 : decode prog_9_method_10_code 0 = .ok (.iconst 0, 1) := by decide +kernel
theorem dd_md_take_1 : decode prog_9_method_10_code 1 = .ok (.istore_n 2, 1) := by decide +kernel
theorem dd_md_take_2 : decode prog_9_method_10_code 2 = .ok (.iload_n 2, 1) := by decide +kernel
theorem dd_md_take_3 : decode prog_9_method_10_code 3 = .ok (.bipush 34, 2) := by decide +kernel
theorem dd_md_take_5 : decode prog_9_method_10_code 5 = .ok (.if_icmp .ge 26, 3) := by decide +kernel
theorem dd_md_take_8 : decode prog_9_method_10_code 8 = .ok (.aload_n 0, 1) := by decide +kernel
theorem dd_md_take_9 : decode prog_9_method_10_code 9 = .ok (.getfield 77, 3) := by decide +kernel
theorem dd_md_take_12 : decode prog_9_method_10_code 12 = .ok (.iload_n 2, 1) := by decide +kernel
theorem dd_md_take_13 : decode prog_9_method_10_code 13 = .ok (.aload_n 0, 1) := by decide +kernel
theorem dd_md_take_14 : decode prog_9_method_10_code 14 = .ok (.getfield 74, 3) := by decide +kernel
theorem dd_md_take_17 : decode prog_9_method_10_code 17 = .ok (.bipush 34, 2) := by decide +kernel
theorem dd_md_take_19 : decode prog_9_method_10_code 19 = .ok (.iload_n 1, 1) := by decide +kernel
theorem dd_md_take_20 : decode prog_9_method_10_code 20 = .ok (.imul, 1) := by decide +kernel
theorem dd_md_take_21 : decode prog_9_method_10_code 21 = .ok (.iload_n 2, 1) := by decide +kernel
theorem dd_md_take_22 : decode prog_9_method_10_code 22 = .ok (.iadd, 1) := by decide +kernel
theorem dd_md_take_23 : decode prog_9_method_10_code 23 = .ok (.iaload, 1) := by decide +kernel
theorem dd_md_take_24 : decode prog_9_method_10_code 24 = .ok (.iastore, 1) := by decide +kernel
theorem dd_md_take_25 : decode prog_9_method_10_code 25 = .ok (.iinc 2 1, 3) := by decide +kernel
theorem dd_md_take_28 : decode prog_9_method_10_code 28 = .ok (.goto (-26), 3) := by decide +kernel
theorem dd_md_take_31 : decode prog_9_method_10_code 31 = .ok (.aload_n 0, 1) := by decide +kernel
theorem dd_md_take_32 : decode prog_9_method_10_code 32 = .ok (.dup, 1) := by decide +kernel
theorem dd_md_take_33 : decode prog_9_method_10_code 33 = .ok (.getfield 99, 3) := by decide +kernel
theorem dd_md_take_36 : decode prog_9_method_10_code 36 = .ok (.iconst 1, 1) := by decide +kernel
theorem dd_md_take_37 : decode prog_9_method_10_code 37 = .ok (.isub, 1) := by decide +kernel
theorem dd_md_take_38 : decode prog_9_method_10_code 38 = .ok (.putfield 99, 3) := by decide +kernel
theorem dd_md_take_41 : decode prog_9_method_10_code 41 = .ok (.bipush 34, 2) := by decide +kernel
theorem dd_md_take_43 : decode prog_9_method_10_code 43 = .ok (.iload_n 1, 1) := by decide +kernel
theorem dd_md_take_44 : decode prog_9_method_10_code 44 = .ok (.imul, 1) := by decide +kernel
theorem dd_md_take_45 : decode prog_9_method_10_code 45 = .ok (.istore_n 2, 1) := by decide +kernel
theorem dd_md_take_46 : decode prog_9_method_10_code 46 = .ok (.iload_n 2, 1) := by decide +kernel
theorem dd_md_take_47 : decode prog_9_method_10_code 47 = .ok (.bipush 34, 2) := by decide +kernel
theorem dd_md_take_49 : decode prog_9_method_10_code 49 = .ok (.aload_n 0, 1) := by decide +kernel
theorem dd_md_take_50 : decode prog_9_method_10_code 50 = .ok (.getfield 99, 3) := by decide +kernel
theorem dd_md_take_53 : decode prog_9_method_10_code 53 = .ok (.imul, 1) := by decide +kernel
theorem dd_md_take_54 : decode prog_9_method_10_code 54 = .ok (.if_icmp .ge 24, 3) := by decide +kernel
theorem dd_md_take_57 : decode prog_9_method_10_code 57 = .ok (.aload_n 0, 1) := by decide +kernel
theorem dd_md_take_58 : decode prog_9_method_10_code 58 = .ok (.getfield 74, 3) := by decide +kernel
theorem dd_md_take_61 : decode prog_9_method_10_code 61 = .ok (.iload_n 2, 1) := by decide +kernel
theorem dd_md_take_62 : decode prog_9_method_10_code 62 = .ok (.aload_n 0, 1) := by decide +kernel
theorem dd_md_take_63 : decode prog_9_method_10_code 63 = .ok (.getfield 74, 3) := by decide +kernel
theorem dd_md_take_66 : decode prog_9_method_10_code 66 = .ok (.iload_n 2, 1) := by decide +kernel
theorem dd_md_take_67 : decode prog_9_method_10_code 67 = .ok (.bipush 34, 2) := by decide +kernel
theorem dd_md_take_69 : decode prog_9_method_10_code 69 = .ok (.iadd, 1) := by decide +kernel
theorem dd_md_take_70 : decode prog_9_method_10_code 70 = .ok (.iaload, 1) := by decide +kernel
theorem dd_md_take_71 : decode prog_9_method_10_code 71 = .ok (.iastore, 1) := by decide +kernel
theorem dd_md_take_72 : decode prog_9_method_10_code 72 = .ok (.iinc 2 1, 3) := by decide +kernel
theorem dd_md_take_75 : decode prog_9_method_10_code 75 = .ok (.goto (-29), 3) := by decide +kernel
theorem dd_md_take_78 : decode prog_9_method_10_code 78 = .ok (.return_, 1) := by decide +kernel
theorem dd_md_comes_0 : decode prog_9_method_18_code 0 = .ok (.aload_n 0, 1) := by decide +kernel
theorem dd_md_comes_1 : decode prog_9_method_18_code 1 = .ok (.getfield 77, 3) := by decide +kernel
theorem dd_md_comes_4 : decode prog_9_method_18_code 4 = .ok (.iconst 0, 1) := by decide +kernel
theorem dd_md_comes_5 : decode prog_9_method_18_code 5 = .ok (.iaload, 1) := by decide +kernel
theorem dd_md_comes_6 : decode prog_9_method_18_code 6 = .ok (.istore_n 1, 1) := by decide +kernel
theorem dd_md_comes_7 : decode prog_9_method_18_code 7 = .ok (.aload_n 0, 1) := by decide +kernel
theorem dd_md_comes_8 : decode prog_9_method_18_code 8 = .ok (.getfield 77, 3) := by decide +kernel
theorem dd_md_comes_11 : decode prog_9_method_18_code 11 = .ok (.iconst 1, 1) := by decide +kernel
theorem dd_md_comes_12 : decode prog_9_method_18_code 12 = .ok (.iaload, 1) := by decide +kernel
theorem dd_md_comes_13 : decode prog_9_method_18_code 13 = .ok (.istore_n 2, 1) := by decide +kernel
theorem dd_md_comes_14 : decode prog_9_method_18_code 14 = .ok (.aload_n 0, 1) := by decide +kernel
theorem dd_md_comes_15 : decode prog_9_method_18_code 15 = .ok (.getfield 77, 3) := by decide +kernel
theorem dd_md_comes_18 : decode prog_9_method_18_code 18 = .ok (.iconst 2, 1) := by decide +kernel
theorem dd_md_comes_19 : decode prog_9_method_18_code 19 = .ok (.iaload, 1) := by decide +kernel
theorem dd_md_comes_20 : decode prog_9_method_18_code 20 = .ok (.istore_n 3, 1) := by decide +kernel
theorem dd_md_comes_21 : decode prog_9_method_18_code 21 = .ok (.aload_n 0, 1) := by decide +kernel
theorem dd_md_comes_22 : decode prog_9_method_18_code 22 = .ok (.getfield 77, 3) := by decide +kernel
theorem dd_md_comes_25 : decode prog_9_method_18_code 25 = .ok (.iconst 3, 1) := by decide +kernel
theorem dd_md_comes_26 : decode prog_9_method_18_code 26 = .ok (.iaload, 1) := by decide +kernel
theorem dd_md_comes_27 : decode prog_9_method_18_code 27 = .ok (.istore 4, 2) := by decide +kernel
theorem dd_md_comes_29 : decode prog_9_method_18_code 29 = .ok (.aload_n 0, 1) := by decide +kernel
theorem dd_md_comes_30 : decode prog_9_method_18_code 30 = .ok (.getfield 77, 3) := by decide +kernel
theorem dd_md_comes_33 : decode prog_9_method_18_code 33 = .ok (.iconst 4, 1) := by decide +kernel
theorem dd_md_comes_34 : decode prog_9_method_18_code 34 = .ok (.iaload, 1) := by decide +kernel
theorem dd_md_comes_35 : decode prog_9_method_18_code 35 = .ok (.istore 5, 2) := by decide +kernel
theorem dd_md_comes_37 : decode prog_9_method_18_code 37 = .ok (.aload_n 0, 1) := by decide +kernel
theorem dd_md_comes_38 : decode prog_9_method_18_code 38 = .ok (.getfield 77, 3) := by decide +kernel
theorem dd_md_comes_41 : decode prog_9_method_18_code 41 = .ok (.iconst 5, 1) := by decide +kernel
theorem dd_md_comes_42 : decode prog_9_method_18_code 42 = .ok (.iaload, 1) := by decide +kernel
theorem dd_md_comes_43 : decode prog_9_method_18_code 43 = .ok (.istore 6, 2) := by decide +kernel
theorem dd_md_comes_45 : decode prog_9_method_18_code 45 = .ok (.iload_n 3, 1) := by decide +kernel
theorem dd_md_comes_46 : decode prog_9_method_18_code 46 = .ok (.iload 4, 2) := by decide +kernel
theorem dd_md_comes_48 : decode prog_9_method_18_code 48 = .ok (.invokestatic 105, 3) := by decide +kernel
theorem dd_md_comes_51 : decode prog_9_method_18_code 51 = .ok (.istore 7, 2) := by decide +kernel
theorem dd_md_comes_53 : decode prog_9_method_18_code 53 = .ok (.aload_n 0, 1) := by decide +kernel
theorem dd_md_comes_54 : decode prog_9_method_18_code 54 = .ok (.getfield 20, 3) := by decide +kernel
theorem dd_md_comes_57 : decode prog_9_method_18_code 57 = .ok (.iload 7, 2) := by decide +kernel
theorem dd_md_comes_59 : decode prog_9_method_18_code 59 = .ok (.iaload, 1) := by decide +kernel
theorem dd_md_comes_60 : decode prog_9_method_18_code 60 = .ok (.aload_n 0, 1) := by decide +kernel
theorem dd_md_comes_61 : decode prog_9_method_18_code 61 = .ok (.getfield 77, 3) := by decide +kernel
theorem dd_md_comes_64 : decode prog_9_method_18_code 64 = .ok (.bipush 9, 2) := by decide +kernel
theorem dd_md_comes_66 : decode prog_9_method_18_code 66 = .ok (.iaload, 1) := by decide +kernel
theorem dd_md_comes_67 : decode prog_9_method_18_code 67 = .ok (.if_icmp .ge 46, 3) := by decide +kernel
theorem dd_md_comes_70 : decode prog_9_method_18_code 70 = .ok (.aload_n 0, 1) := by decide +kernel
theorem dd_md_comes_71 : decode prog_9_method_18_code 71 = .ok (.iload 7, 2) := by decide +kernel
theorem dd_md_comes_73 : decode prog_9_method_18_code 73 = .ok (.aload_n 0, 1) := by decide +kernel
theorem dd_md_comes_74 : decode prog_9_method_18_code 74 = .ok (.getfield 77, 3) := by decide +kernel
theorem dd_md_comes_77 : decode prog_9_method_18_code 77 = .ok (.bipush 10, 2) := by decide +kernel
theorem dd_md_comes_79 : decode prog_9_method_18_code 79 = .ok (.iconst 2, 1) := by decide +kernel
theorem dd_md_comes_80 : decode prog_9_method_18_code 80 = .ok (.aload_n 0, 1) := by decide +kernel
theorem dd_md_comes_81 : decode prog_9_method_18_code 81 = .ok (.getfield 20, 3) := by decide +kernel
theorem dd_md_comes_84 : decode prog_9_method_18_code 84 = .ok (.iload 7, 2) := by decide +kernel
theorem dd_md_comes_86 : decode prog_9_method_18_code 86 = .ok (.iaload, 1) := by decide +kernel
theorem dd_md_comes_87 : decode prog_9_method_18_code 87 = .ok (.imul, 1) := by decide +kernel
theorem dd_md_comes_88 : decode prog_9_method_18_code 88 = .ok (.iadd, 1) := by decide +kernel
theorem dd_md_comes_89 : decode prog_9_method_18_code 89 = .ok (.iaload, 1) := by decide +kernel
theorem dd_md_comes_90 : decode prog_9_method_18_code 90 = .ok (.aload_n 0, 1) := by decide +kernel
theorem dd_md_comes_91 : decode prog_9_method_18_code 91 = .ok (.getfield 77, 3) := by decide +kernel
theorem dd_md_comes_94 : decode prog_9_method_18_code 94 = .ok (.bipush 11, 2) := by decide +kernel
theorem dd_md_comes_96 : decode prog_9_method_18_code 96 = .ok (.iconst 2, 1) := by decide +kernel
theorem dd_md_comes_97 : decode prog_9_method_18_code 97 = .ok (.aload_n 0, 1) := by decide +kernel
theorem dd_md_comes_98 : decode prog_9_method_18_code 98 = .ok (.getfield 20, 3) := by decide +kernel
theorem dd_md_comes_101 : decode prog_9_method_18_code 101 = .ok (.iload 7, 2) := by decide +kernel
theorem dd_md_comes_103 : decode prog_9_method_18_code 103 = .ok (.iaload, 1) := by decide +kernel
theorem dd_md_comes_104 : decode prog_9_method_18_code 104 = .ok (.imul, 1) := by decide +kernel
theorem dd_md_comes_105 : decode prog_9_method_18_code 105 = .ok (.iadd, 1) := by decide +kernel
theorem dd_md_comes_106 : decode prog_9_method_18_code 106 = .ok (.iaload, 1) := by decide +kernel
theorem dd_md_comes_107 : decode prog_9_method_18_code 107 = .ok (.invokevirtual 124, 3) := by decide +kernel
theorem dd_md_comes_110 : decode prog_9_method_18_code 110 = .ok (.goto (-57), 3) := by decide +kernel
theorem dd_md_comes_113 : decode prog_9_method_18_code 113 = .ok (.iload_n 1, 1) := by decide +kernel
theorem dd_md_comes_114 : decode prog_9_method_18_code 114 = .ok (.iconst 1, 1) := by decide +kernel
theorem dd_md_comes_115 : decode prog_9_method_18_code 115 = .ok (.if_icmp .eq 8, 3) := by decide +kernel
theorem dd_md_comes_118 : decode prog_9_method_18_code 118 = .ok (.iload_n 1, 1) := by decide +kernel
theorem dd_md_comes_119 : decode prog_9_method_18_code 119 = .ok (.iconst 3, 1) := by decide +kernel
theorem dd_md_comes_120 : decode prog_9_method_18_code 120 = .ok (.if_icmp .ne 74, 3) := by decide +kernel
theorem dd_md_comes_123 : decode prog_9_method_18_code 123 = .ok (.iload 5, 2) := by decide +kernel
theorem dd_md_comes_125 : decode prog_9_method_18_code 125 = .ok (.aload_n 0, 1) := by decide +kernel
theorem dd_md_comes_126 : decode prog_9_method_18_code 126 = .ok (.getfield 20, 3) := by decide +kernel
theorem dd_md_comes_129 : decode prog_9_method_18_code 129 = .ok (.iload 7, 2) := by decide +kernel
theorem dd_md_comes_131 : decode prog_9_method_18_code 131 = .ok (.iaload, 1) := by decide +kernel
theorem dd_md_comes_132 : decode prog_9_method_18_code 132 = .ok (.if_icmp .gt 23, 3) := by decide +kernel
theorem dd_md_comes_135 : decode prog_9_method_18_code 135 = .ok (.aload_n 0, 1) := by decide +kernel
theorem dd_md_comes_136 : decode prog_9_method_18_code 136 = .ok (.bipush 6, 2) := by decide +kernel
theorem dd_md_comes_138 : decode prog_9_method_18_code 138 = .ok (.iload_n 3, 1) := by decide +kernel
theorem dd_md_comes_139 : decode prog_9_method_18_code 139 = .ok (.iload_n 2, 1) := by decide +kernel
theorem dd_md_comes_140 : decode prog_9_method_18_code 140 = .ok (.iload 4, 2) := by decide +kernel
theorem dd_md_comes_142 : decode prog_9_method_18_code 142 = .ok (.iload 5, 2) := by decide +kernel
theorem dd_md_comes_144 : decode prog_9_method_18_code 144 = .ok (.iload 6, 2) := by decide +kernel
theorem dd_md_comes_146 : decode prog_9_method_18_code 146 = .ok (.iconst 0, 1) := by decide +kernel
theorem dd_md_comes_147 : decode prog_9_method_18_code 147 = .ok (.iconst (-1), 1) := by decide +kernel
theorem dd_md_comes_148 : decode prog_9_method_18_code 148 = .ok (.iconst (-1), 1) := by decide +kernel
theorem dd_md_comes_149 : decode prog_9_method_18_code 149 = .ok (.invokevirtual 113, 3) := by decide +kernel
theorem dd_md_comes_152 : decode prog_9_method_18_code 152 = .ok (.goto 41, 3) := by decide +kernel
theorem dd_md_comes_155 : decode prog_9_method_18_code 155 = .ok (.iload 5, 2) := by decide +kernel
theorem dd_md_comes_157 : decode prog_9_method_18_code 157 = .ok (.aload_n 0, 1) := by decide +kernel
theorem dd_md_comes_158 : decode prog_9_method_18_code 158 = .ok (.getfield 20, 3) := by decide +kernel
theorem dd_md_comes_161 : decode prog_9_method_18_code 161 = .ok (.iload 7, 2) := by decide +kernel
theorem dd_md_comes_163 : decode prog_9_method_18_code 163 = .ok (.iaload, 1) := by decide +kernel
theorem dd_md_comes_164 : decode prog_9_method_18_code 164 = .ok (.iconst 1, 1) := by decide +kernel
theorem dd_md_comes_165 : decode prog_9_method_18_code 165 = .ok (.iadd, 1) := by decide +kernel
theorem dd_md_comes_166 : decode prog_9_method_18_code 166 = .ok (.if_icmp .ne 27, 3) := by decide +kernel
theorem dd_md_comes_169 : decode prog_9_method_18_code 169 = .ok (.aload_n 0, 1) := by decide +kernel
theorem dd_md_comes_170 : decode prog_9_method_18_code 170 = .ok (.iload 7, 2) := by decide +kernel
theorem dd_md_comes_172 : decode prog_9_method_18_code 172 = .ok (.iload_n 1, 1) := by decide +kernel
theorem dd_md_comes_173 : decode prog_9_method_18_code 173 = .ok (.iconst 3, 1) := by decide +kernel
theorem dd_md_comes_174 : decode prog_9_method_18_code 174 = .ok (.if_icmp .ne 7, 3) := by decide +kernel
theorem dd_md_comes_177 : decode prog_9_method_18_code 177 = .ok (.iconst 1, 1) := by decide +kernel
theorem dd_md_comes_178 : decode prog_9_method_18_code 178 = .ok (.goto 4, 3) := by decide +kernel
theorem dd_md_comes_181 : decode prog_9_method_18_code 181 = .ok (.iconst 0, 1) := by decide +kernel
theorem dd_md_comes_182 : decode prog_9_method_18_code 182 = .ok (.iload_n 3, 1) := by decide +kernel
theorem dd_md_comes_183 : decode prog_9_method_18_code 183 = .ok (.iload_n 2, 1) := by decide +kernel
theorem dd_md_comes_184 : decode prog_9_method_18_code 184 = .ok (.iload 4, 2) := by decide +kernel
theorem dd_md_comes_186 : decode prog_9_method_18_code 186 = .ok (.iload 5, 2) := by decide +kernel
theorem dd_md_comes_188 : decode prog_9_method_18_code 188 = .ok (.iload 6, 2) := by decide +kernel
theorem dd_md_comes_190 : decode prog_9_method_18_code 190 = .ok (.invokevirtual 128, 3) := by decide +kernel
theorem dd_md_comes_193 : decode prog_9_method_18_code 193 = .ok (.return_, 1) := by decide +kernel
theorem dd_md_comes_194 : decode prog_9_method_18_code 194 = .ok (.iload_n 1, 1) := by decide +kernel
theorem dd_md_comes_195 : decode prog_9_method_18_code 195 = .ok (.bipush 6, 2) := by decide +kernel
theorem dd_md_comes_197 : decode prog_9_method_18_code 197 = .ok (.if_icmp .eq 25, 3) := by decide +kernel
theorem dd_md_comes_200 : decode prog_9_method_18_code 200 = .ok (.aload_n 0, 1) := by decide +kernel
theorem dd_md_comes_201 : decode prog_9_method_18_code 201 = .ok (.getfield 44, 3) := by decide +kernel
theorem dd_md_comes_204 : decode prog_9_method_18_code 204 = .ok (.iload 7, 2) := by decide +kernel
theorem dd_md_comes_206 : decode prog_9_method_18_code 206 = .ok (.iaload, 1) := by decide +kernel
theorem dd_md_comes_207 : decode prog_9_method_18_code 207 = .ok (.ifCond .eq 15, 3) := by decide +kernel
theorem dd_md_comes_210 : decode prog_9_method_18_code 210 = .ok (.aload_n 0, 1) := by decide +kernel
theorem dd_md_comes_211 : decode prog_9_method_18_code 211 = .ok (.getfield 44, 3) := by decide +kernel
theorem dd_md_comes_214 : decode prog_9_method_18_code 214 = .ok (.iload 7, 2) := by decide +kernel
theorem dd_md_comes_216 : decode prog_9_method_18_code 216 = .ok (.iaload, 1) := by decide +kernel
theorem dd_md_comes_217 : decode prog_9_method_18_code 217 = .ok (.iload 5, 2) := by decide +kernel
theorem dd_md_comes_219 : decode prog_9_method_18_code 219 = .ok (.if_icmp .eq 4, 3) := by decide +kernel
theorem dd_md_comes_222 : decode prog_9_method_18_code 222 = .ok (.return_, 1) := by decide +kernel
theorem dd_md_comes_223 : decode prog_9_method_18_code 223 = .ok (.iload_n 1, 1) := by decide +kernel
theorem dd_md_comes_224 : decode prog_9_method_18_code 224 = .ok (.iconst 5, 1) := by decide +kernel
theorem dd_md_comes_225 : decode prog_9_method_18_code 225 = .ok (.if_icmp .ne 35, 3) := by decide +kernel
theorem dd_md_comes_228 : decode prog_9_method_18_code 228 = .ok (.aload_n 0, 1) := by decide +kernel
theorem dd_md_comes_229 : decode prog_9_method_18_code 229 = .ok (.getfield 77, 3) := by decide +kernel
theorem dd_md_comes_232 : decode prog_9_method_18_code 232 = .ok (.bipush 6, 2) := by decide +kernel
theorem dd_md_comes_234 : decode prog_9_method_18_code 234 = .ok (.iaload, 1) := by decide +kernel
theorem dd_md_comes_235 : decode prog_9_method_18_code 235 = .ok (.aload_n 0, 1) := by decide +kernel
theorem dd_md_comes_236 : decode prog_9_method_18_code 236 = .ok (.getfield 71, 3) := by decide +kernel
theorem dd_md_comes_239 : decode prog_9_method_18_code 239 = .ok (.iload 7, 2) := by decide +kernel
theorem dd_md_comes_241 : decode prog_9_method_18_code 241 = .ok (.iaload, 1) := by decide +kernel
theorem dd_md_comes_242 : decode prog_9_method_18_code 242 = .ok (.if_icmp .le 17, 3) := by decide +kernel
theorem dd_md_comes_245 : decode prog_9_method_18_code 245 = .ok (.aload_n 0, 1) := by decide +kernel
theorem dd_md_comes_246 : decode prog_9_method_18_code 246 = .ok (.getfield 71, 3) := by decide +kernel
theorem dd_md_comes_249 : decode prog_9_method_18_code 249 = .ok (.iload 7, 2) := by decide +kernel
theorem dd_md_comes_251 : decode prog_9_method_18_code 251 = .ok (.aload_n 0, 1) := by decide +kernel
theorem dd_md_comes_252 : decode prog_9_method_18_code 252 = .ok (.getfield 77, 3) := by decide +kernel
theorem dd_md_comes_255 : decode prog_9_method_18_code 255 = .ok (.bipush 6, 2) := by decide +kernel
theorem dd_md_comes_257 : decode prog_9_method_18_code 257 = .ok (.iaload, 1) := by decide +kernel
theorem dd_md_comes_258 : decode prog_9_method_18_code 258 = .ok (.iastore, 1) := by decide +kernel
theorem dd_md_comes_259 : decode prog_9_method_18_code 259 = .ok (.return_, 1) := by decide +kernel
theorem dd_md_comes_260 : decode prog_9_method_18_code 260 = .ok (.iload 6, 2) := by decide +kernel
theorem dd_md_comes_262 : decode prog_9_method_18_code 262 = .ok (.aload_n 0, 1) := by decide +kernel
theorem dd_md_comes_263 : decode prog_9_method_18_code 263 = .ok (.getfield 53, 3) := by decide +kernel
theorem dd_md_comes_266 : decode prog_9_method_18_code 266 = .ok (.iload 7, 2) := by decide +kernel
theorem dd_md_comes_268 : decode prog_9_method_18_code 268 = .ok (.iaload, 1) := by decide +kernel
theorem dd_md_comes_269 : decode prog_9_method_18_code 269 = .ok (.if_icmp .ne 23, 3) := by decide +kernel
theorem dd_md_comes_272 : decode prog_9_method_18_code 272 = .ok (.aload_n 0, 1) := by decide +kernel
theorem dd_md_comes_273 : decode prog_9_method_18_code 273 = .ok (.getfield 56, 3) := by decide +kernel
theorem dd_md_comes_276 : decode prog_9_method_18_code 276 = .ok (.iload 7, 2) := by decide +kernel
theorem dd_md_comes_278 : decode prog_9_method_18_code 278 = .ok (.iaload, 1) := by decide +kernel
theorem dd_md_comes_279 : decode prog_9_method_18_code 279 = .ok (.iload_n 1, 1) := by decide +kernel
theorem dd_md_comes_280 : decode prog_9_method_18_code 280 = .ok (.iconst 2, 1) := by decide +kernel
theorem dd_md_comes_281 : decode prog_9_method_18_code 281 = .ok (.if_icmp .ne 7, 3) := by decide +kernel
theorem dd_md_comes_284 : decode prog_9_method_18_code 284 = .ok (.iconst 1, 1) := by decide +kernel
theorem dd_md_comes_285 : decode prog_9_method_18_code 285 = .ok (.goto 4, 3) := by decide +kernel
theorem dd_md_comes_288 : decode prog_9_method_18_code 288 = .ok (.iconst 2, 1) := by decide +kernel
theorem dd_md_comes_289 : decode prog_9_method_18_code 289 = .ok (.if_icmp .eq 4, 3) := by decide +kernel
theorem dd_md_comes_292 : decode prog_9_method_18_code 292 = .ok (.return_, 1) := by decide +kernel
theorem dd_md_comes_293 : decode prog_9_method_18_code 293 = .ok (.aload_n 0, 1) := by decide +kernel
theorem dd_md_comes_294 : decode prog_9_method_18_code 294 = .ok (.getfield 59, 3) := by decide +kernel
theorem dd_md_comes_297 : decode prog_9_method_18_code 297 = .ok (.iload 7, 2) := by decide +kernel
theorem dd_md_comes_299 : decode prog_9_method_18_code 299 = .ok (.dup2, 1) := by decide +kernel
theorem dd_md_comes_300 : decode prog_9_method_18_code 300 = .ok (.iaload, 1) := by decide +kernel
theorem dd_md_comes_301 : decode prog_9_method_18_code 301 = .ok (.iconst 1, 1) := by decide +kernel
theorem dd_md_comes_302 : decode prog_9_method_18_code 302 = .ok (.iload_n 2, 1) := by decide +kernel
theorem dd_md_comes_303 : decode prog_9_method_18_code 303 = .ok (.ishl, 1) := by decide +kernel
theorem dd_md_comes_304 : decode prog_9_method_18_code 304 = .ok (.ior, 1) := by decide +kernel
theorem dd_md_comes_305 : decode prog_9_method_18_code 305 = .ok (.iastore, 1) := by decide +kernel
theorem dd_md_comes_306 : decode prog_9_method_18_code 306 = .ok (.iload_n 1, 1) := by decide +kernel
theorem dd_md_comes_307 : decode prog_9_method_18_code 307 = .ok (.iconst 2, 1) := by decide +kernel
theorem dd_md_comes_308 : decode prog_9_method_18_code 308 = .ok (.if_icmp .ne 19, 3) := by decide +kernel
theorem dd_md_comes_311 : decode prog_9_method_18_code 311 = .ok (.aload_n 0, 1) := by decide +kernel
theorem dd_md_comes_312 : decode prog_9_method_18_code 312 = .ok (.iload 7, 2) := by decide +kernel
theorem dd_md_comes_314 : decode prog_9_method_18_code 314 = .ok (.iload_n 3, 1) := by decide +kernel
theorem dd_md_comes_315 : decode prog_9_method_18_code 315 = .ok (.iload 4, 2) := by decide +kernel
theorem dd_md_comes_317 : decode prog_9_method_18_code 317 = .ok (.iload 5, 2) := by decide +kernel
theorem dd_md_comes_319 : decode prog_9_method_18_code 319 = .ok (.iload 6, 2) := by decide +kernel
theorem dd_md_comes_321 : decode prog_9_method_18_code 321 = .ok (.invokevirtual 131, 3) := by decide +kernel
theorem dd_md_comes_324 : decode prog_9_method_18_code 324 = .ok (.goto 37, 3) := by decide +kernel
theorem dd_md_comes_327 : decode prog_9_method_18_code 327 = .ok (.aload_n 0, 1) := by decide +kernel
theorem dd_md_comes_328 : decode prog_9_method_18_code 328 = .ok (.aload_n 0, 1) := by decide +kernel
theorem dd_md_comes_329 : decode prog_9_method_18_code 329 = .ok (.getfield 59, 3) := by decide +kernel
theorem dd_md_comes_332 : decode prog_9_method_18_code 332 = .ok (.iload 7, 2) := by decide +kernel
theorem dd_md_comes_334 : decode prog_9_method_18_code 334 = .ok (.iaload, 1) := by decide +kernel
theorem dd_md_comes_335 : decode prog_9_method_18_code 335 = .ok (.invokevirtual 135, 3) := by decide +kernel
theorem dd_md_comes_338 : decode prog_9_method_18_code 338 = .ok (.ifCond .eq 23, 3) := by decide +kernel
theorem dd_md_comes_341 : decode prog_9_method_18_code 341 = .ok (.aload_n 0, 1) := by decide +kernel
theorem dd_md_comes_342 : decode prog_9_method_18_code 342 = .ok (.iload 7, 2) := by decide +kernel
theorem dd_md_comes_344 : decode prog_9_method_18_code 344 = .ok (.aload_n 0, 1) := by decide +kernel
theorem dd_md_comes_345 : decode prog_9_method_18_code 345 = .ok (.getfield 47, 3) := by decide +kernel
theorem dd_md_comes_348 : decode prog_9_method_18_code 348 = .ok (.iload 7, 2) := by decide +kernel
theorem dd_md_comes_350 : decode prog_9_method_18_code 350 = .ok (.iaload, 1) := by decide +kernel
theorem dd_md_comes_351 : decode prog_9_method_18_code 351 = .ok (.aload_n 0, 1) := by decide +kernel
theorem dd_md_comes_352 : decode prog_9_method_18_code 352 = .ok (.getfield 50, 3) := by decide +kernel
theorem dd_md_comes_355 : decode prog_9_method_18_code 355 = .ok (.iload 7, 2) := by decide +kernel
theorem dd_md_comes_357 : decode prog_9_method_18_code 357 = .ok (.iaload, 1) := by decide +kernel
theorem dd_md_comes_358 : decode prog_9_method_18_code 358 = .ok (.invokevirtual 124, 3) := by decide +kernel
theorem dd_md_comes_361 : decode prog_9_method_18_code 361 = .ok (.return_, 1) := by decide +kernel
theorem dd_md_learn_0 : decode prog_9_method_12_code 0 = .ok (.aload_n 0, 1) := by decide +kernel
theorem dd_md_learn_1 : decode prog_9_method_12_code 1 = .ok (.getfield 38, 3) := by decide +kernel
theorem dd_md_learn_4 : decode prog_9_method_12_code 4 = .ok (.bipush 12, 2) := by decide +kernel
theorem dd_md_learn_6 : decode prog_9_method_12_code 6 = .ok (.iload_n 1, 1) := by decide +kernel
theorem dd_md_learn_7 : decode prog_9_method_12_code 7 = .ok (.imul, 1) := by decide +kernel
theorem dd_md_learn_8 : decode prog_9_method_12_code 8 = .ok (.aload_n 0, 1) := by decide +kernel
theorem dd_md_learn_9 : decode prog_9_method_12_code 9 = .ok (.getfield 20, 3) := by decide +kernel
theorem dd_md_learn_12 : decode prog_9_method_12_code 12 = .ok (.iload_n 1, 1) := by decide +kernel
theorem dd_md_learn_13 : decode prog_9_method_12_code 13 = .ok (.iaload, 1) := by decide +kernel
theorem dd_md_learn_14 : decode prog_9_method_12_code 14 = .ok (.iadd, 1) := by decide +kernel
theorem dd_md_learn_15 : decode prog_9_method_12_code 15 = .ok (.iload_n 2, 1) := by decide +kernel
theorem dd_md_learn_16 : decode prog_9_method_12_code 16 = .ok (.iastore, 1) := by decide +kernel
theorem dd_md_learn_17 : decode prog_9_method_12_code 17 = .ok (.aload_n 0, 1) := by decide +kernel
theorem dd_md_learn_18 : decode prog_9_method_12_code 18 = .ok (.getfield 41, 3) := by decide +kernel
theorem dd_md_learn_21 : decode prog_9_method_12_code 21 = .ok (.bipush 12, 2) := by decide +kernel
theorem dd_md_learn_23 : decode prog_9_method_12_code 23 = .ok (.iload_n 1, 1) := by decide +kernel
theorem dd_md_learn_24 : decode prog_9_method_12_code 24 = .ok (.imul, 1) := by decide +kernel
theorem dd_md_learn_25 : decode prog_9_method_12_code 25 = .ok (.aload_n 0, 1) := by decide +kernel
theorem dd_md_learn_26 : decode prog_9_method_12_code 26 = .ok (.getfield 20, 3) := by decide +kernel
theorem dd_md_learn_29 : decode prog_9_method_12_code 29 = .ok (.iload_n 1, 1) := by decide +kernel
theorem dd_md_learn_30 : decode prog_9_method_12_code 30 = .ok (.iaload, 1) := by decide +kernel
theorem dd_md_learn_31 : decode prog_9_method_12_code 31 = .ok (.iadd, 1) := by decide +kernel
theorem dd_md_learn_32 : decode prog_9_method_12_code 32 = .ok (.iload_n 3, 1) := by decide +kernel
theorem dd_md_learn_33 : decode prog_9_method_12_code 33 = .ok (.iastore, 1) := by decide +kernel
theorem dd_md_learn_34 : decode prog_9_method_12_code 34 = .ok (.aload_n 0, 1) := by decide +kernel
theorem dd_md_learn_35 : decode prog_9_method_12_code 35 = .ok (.getfield 20, 3) := by decide +kernel
theorem dd_md_learn_38 : decode prog_9_method_12_code 38 = .ok (.iload_n 1, 1) := by decide +kernel
theorem dd_md_learn_39 : decode prog_9_method_12_code 39 = .ok (.dup2, 1) := by decide +kernel
theorem dd_md_learn_40 : decode prog_9_method_12_code 40 = .ok (.iaload, 1) := by decide +kernel
theorem dd_md_learn_41 : decode prog_9_method_12_code 41 = .ok (.iconst 1, 1) := by decide +kernel
theorem dd_md_learn_42 : decode prog_9_method_12_code 42 = .ok (.iadd, 1) := by decide +kernel
theorem dd_md_learn_43 : decode prog_9_method_12_code 43 = .ok (.iastore, 1) := by decide +kernel
theorem dd_md_learn_44 : decode prog_9_method_12_code 44 = .ok (.aload_n 0, 1) := by decide +kernel
theorem dd_md_learn_45 : decode prog_9_method_12_code 45 = .ok (.getfield 23, 3) := by decide +kernel
theorem dd_md_learn_48 : decode prog_9_method_12_code 48 = .ok (.iload_n 1, 1) := by decide +kernel
theorem dd_md_learn_49 : decode prog_9_method_12_code 49 = .ok (.iconst 0, 1) := by decide +kernel
theorem dd_md_learn_50 : decode prog_9_method_12_code 50 = .ok (.iastore, 1) := by decide +kernel
theorem dd_md_learn_51 : decode prog_9_method_12_code 51 = .ok (.aload_n 0, 1) := by decide +kernel
theorem dd_md_learn_52 : decode prog_9_method_12_code 52 = .ok (.getfield 26, 3) := by decide +kernel
theorem dd_md_learn_55 : decode prog_9_method_12_code 55 = .ok (.iload_n 1, 1) := by decide +kernel
theorem dd_md_learn_56 : decode prog_9_method_12_code 56 = .ok (.iconst 0, 1) := by decide +kernel
theorem dd_md_learn_57 : decode prog_9_method_12_code 57 = .ok (.iastore, 1) := by decide +kernel
theorem dd_md_learn_58 : decode prog_9_method_12_code 58 = .ok (.aload_n 0, 1) := by decide +kernel
theorem dd_md_learn_59 : decode prog_9_method_12_code 59 = .ok (.getfield 44, 3) := by decide +kernel
theorem dd_md_learn_62 : decode prog_9_method_12_code 62 = .ok (.iload_n 1, 1) := by decide +kernel
theorem dd_md_learn_63 : decode prog_9_method_12_code 63 = .ok (.iaload, 1) := by decide +kernel
theorem dd_md_learn_64 : decode prog_9_method_12_code 64 = .ok (.aload_n 0, 1) := by decide +kernel
theorem dd_md_learn_65 : decode prog_9_method_12_code 65 = .ok (.getfield 20, 3) := by decide +kernel
theorem dd_md_learn_68 : decode prog_9_method_12_code 68 = .ok (.iload_n 1, 1) := by decide +kernel
theorem dd_md_learn_69 : decode prog_9_method_12_code 69 = .ok (.iaload, 1) := by decide +kernel
theorem dd_md_learn_70 : decode prog_9_method_12_code 70 = .ok (.if_icmp .ne 8, 3) := by decide +kernel
theorem dd_md_learn_73 : decode prog_9_method_12_code 73 = .ok (.aload_n 0, 1) := by decide +kernel
theorem dd_md_learn_74 : decode prog_9_method_12_code 74 = .ok (.iload_n 1, 1) := by decide +kernel
theorem dd_md_learn_75 : decode prog_9_method_12_code 75 = .ok (.invokevirtual 109, 3) := by decide +kernel
theorem dd_md_learn_78 : decode prog_9_method_12_code 78 = .ok (.return_, 1) := by decide +kernel
theorem dd_md_answers_0 : decode prog_9_method_19_code 0 = .ok (.iload 7, 2) := by decide +kernel
theorem dd_md_answers_2 : decode prog_9_method_19_code 2 = .ok (.aload_n 0, 1) := by decide +kernel
theorem dd_md_answers_3 : decode prog_9_method_19_code 3 = .ok (.getfield 23, 3) := by decide +kernel
theorem dd_md_answers_6 : decode prog_9_method_19_code 6 = .ok (.iload_n 1, 1) := by decide +kernel
theorem dd_md_answers_7 : decode prog_9_method_19_code 7 = .ok (.iaload, 1) := by decide +kernel
theorem dd_md_answers_8 : decode prog_9_method_19_code 8 = .ok (.if_icmp .ge 26, 3) := by decide +kernel
theorem dd_md_answers_11 : decode prog_9_method_19_code 11 = .ok (.aload_n 0, 1) := by decide +kernel
theorem dd_md_answers_12 : decode prog_9_method_19_code 12 = .ok (.iconst 5, 1) := by decide +kernel
theorem dd_md_answers_13 : decode prog_9_method_19_code 13 = .ok (.iload_n 3, 1) := by decide +kernel
theorem dd_md_answers_14 : decode prog_9_method_19_code 14 = .ok (.iload 4, 2) := by decide +kernel
theorem dd_md_answers_16 : decode prog_9_method_19_code 16 = .ok (.iload 5, 2) := by decide +kernel
theorem dd_md_answers_18 : decode prog_9_method_19_code 18 = .ok (.iload 6, 2) := by decide +kernel
theorem dd_md_answers_20 : decode prog_9_method_19_code 20 = .ok (.iload 7, 2) := by decide +kernel
theorem dd_md_answers_22 : decode prog_9_method_19_code 22 = .ok (.aload_n 0, 1) := by decide +kernel
theorem dd_md_answers_23 : decode prog_9_method_19_code 23 = .ok (.getfield 23, 3) := by decide +kernel
theorem dd_md_answers_26 : decode prog_9_method_19_code 26 = .ok (.iload_n 1, 1) := by decide +kernel
theorem dd_md_answers_27 : decode prog_9_method_19_code 27 = .ok (.iaload, 1) := by decide +kernel
theorem dd_md_answers_28 : decode prog_9_method_19_code 28 = .ok (.iconst (-1), 1) := by decide +kernel
theorem dd_md_answers_29 : decode prog_9_method_19_code 29 = .ok (.iconst (-1), 1) := by decide +kernel
theorem dd_md_answers_30 : decode prog_9_method_19_code 30 = .ok (.invokevirtual 113, 3) := by decide +kernel
theorem dd_md_answers_33 : decode prog_9_method_19_code 33 = .ok (.return_, 1) := by decide +kernel
theorem dd_md_answers_34 : decode prog_9_method_19_code 34 = .ok (.aload_n 0, 1) := by decide +kernel
theorem dd_md_answers_35 : decode prog_9_method_19_code 35 = .ok (.getfield 23, 3) := by decide +kernel
theorem dd_md_answers_38 : decode prog_9_method_19_code 38 = .ok (.iload_n 1, 1) := by decide +kernel
theorem dd_md_answers_39 : decode prog_9_method_19_code 39 = .ok (.iload 7, 2) := by decide +kernel
theorem dd_md_answers_41 : decode prog_9_method_19_code 41 = .ok (.iastore, 1) := by decide +kernel
theorem dd_md_answers_42 : decode prog_9_method_19_code 42 = .ok (.iload_n 2, 1) := by decide +kernel
theorem dd_md_answers_43 : decode prog_9_method_19_code 43 = .ok (.ifCond .ne 70, 3) := by decide +kernel
theorem dd_md_answers_46 : decode prog_9_method_19_code 46 = .ok (.aload_n 0, 1) := by decide +kernel
theorem dd_md_answers_47 : decode prog_9_method_19_code 47 = .ok (.getfield 26, 3) := by decide +kernel
theorem dd_md_answers_50 : decode prog_9_method_19_code 50 = .ok (.iload_n 1, 1) := by decide +kernel
theorem dd_md_answers_51 : decode prog_9_method_19_code 51 = .ok (.iaload, 1) := by decide +kernel
theorem dd_md_answers_52 : decode prog_9_method_19_code 52 = .ok (.ifCond .le 7, 3) := by decide +kernel
theorem dd_md_answers_55 : decode prog_9_method_19_code 55 = .ok (.iconst 1, 1) := by decide +kernel
theorem dd_md_answers_56 : decode prog_9_method_19_code 56 = .ok (.goto 4, 3) := by decide +kernel
theorem dd_md_answers_59 : decode prog_9_method_19_code 59 = .ok (.iconst 0, 1) := by decide +kernel
theorem dd_md_answers_60 : decode prog_9_method_19_code 60 = .ok (.istore 8, 2) := by decide +kernel
theorem dd_md_answers_62 : decode prog_9_method_19_code 62 = .ok (.aload_n 0, 1) := by decide +kernel
theorem dd_md_answers_63 : decode prog_9_method_19_code 63 = .ok (.iconst 2, 1) := by decide +kernel
theorem dd_md_answers_64 : decode prog_9_method_19_code 64 = .ok (.iload_n 3, 1) := by decide +kernel
theorem dd_md_answers_65 : decode prog_9_method_19_code 65 = .ok (.iload 4, 2) := by decide +kernel
theorem dd_md_answers_67 : decode prog_9_method_19_code 67 = .ok (.iload 5, 2) := by decide +kernel
theorem dd_md_answers_69 : decode prog_9_method_19_code 69 = .ok (.iload 6, 2) := by decide +kernel
theorem dd_md_answers_71 : decode prog_9_method_19_code 71 = .ok (.iload 7, 2) := by decide +kernel
theorem dd_md_answers_73 : decode prog_9_method_19_code 73 = .ok (.aload_n 0, 1) := by decide +kernel
theorem dd_md_answers_74 : decode prog_9_method_19_code 74 = .ok (.getfield 26, 3) := by decide +kernel
theorem dd_md_answers_77 : decode prog_9_method_19_code 77 = .ok (.iload_n 1, 1) := by decide +kernel
theorem dd_md_answers_78 : decode prog_9_method_19_code 78 = .ok (.iaload, 1) := by decide +kernel
theorem dd_md_answers_79 : decode prog_9_method_19_code 79 = .ok (.iload 8, 2) := by decide +kernel
theorem dd_md_answers_81 : decode prog_9_method_19_code 81 = .ok (.ifCond .eq 12, 3) := by decide +kernel
theorem dd_md_answers_84 : decode prog_9_method_19_code 84 = .ok (.aload_n 0, 1) := by decide +kernel
theorem dd_md_answers_85 : decode prog_9_method_19_code 85 = .ok (.getfield 29, 3) := by decide +kernel
theorem dd_md_answers_88 : decode prog_9_method_19_code 88 = .ok (.iload_n 1, 1) := by decide +kernel
theorem dd_md_answers_89 : decode prog_9_method_19_code 89 = .ok (.iaload, 1) := by decide +kernel
theorem dd_md_answers_90 : decode prog_9_method_19_code 90 = .ok (.goto 4, 3) := by decide +kernel
theorem dd_md_answers_93 : decode prog_9_method_19_code 93 = .ok (.iconst (-1), 1) := by decide +kernel
theorem dd_md_answers_94 : decode prog_9_method_19_code 94 = .ok (.iload 8, 2) := by decide +kernel
theorem dd_md_answers_96 : decode prog_9_method_19_code 96 = .ok (.ifCond .eq 12, 3) := by decide +kernel
theorem dd_md_answers_99 : decode prog_9_method_19_code 99 = .ok (.aload_n 0, 1) := by decide +kernel
theorem dd_md_answers_100 : decode prog_9_method_19_code 100 = .ok (.getfield 32, 3) := by decide +kernel
theorem dd_md_answers_103 : decode prog_9_method_19_code 103 = .ok (.iload_n 1, 1) := by decide +kernel
theorem dd_md_answers_104 : decode prog_9_method_19_code 104 = .ok (.iaload, 1) := by decide +kernel
theorem dd_md_answers_105 : decode prog_9_method_19_code 105 = .ok (.goto 4, 3) := by decide +kernel
theorem dd_md_answers_108 : decode prog_9_method_19_code 108 = .ok (.iconst (-1), 1) := by decide +kernel
theorem dd_md_answers_109 : decode prog_9_method_19_code 109 = .ok (.invokevirtual 113, 3) := by decide +kernel
theorem dd_md_answers_112 : decode prog_9_method_19_code 112 = .ok (.return_, 1) := by decide +kernel
theorem dd_md_answers_113 : decode prog_9_method_19_code 113 = .ok (.aload_n 0, 1) := by decide +kernel
theorem dd_md_answers_114 : decode prog_9_method_19_code 114 = .ok (.getfield 26, 3) := by decide +kernel
theorem dd_md_answers_117 : decode prog_9_method_19_code 117 = .ok (.iload_n 1, 1) := by decide +kernel
theorem dd_md_answers_118 : decode prog_9_method_19_code 118 = .ok (.iload 7, 2) := by decide +kernel
theorem dd_md_answers_120 : decode prog_9_method_19_code 120 = .ok (.iastore, 1) := by decide +kernel
theorem dd_md_answers_121 : decode prog_9_method_19_code 121 = .ok (.aload_n 0, 1) := by decide +kernel
theorem dd_md_answers_122 : decode prog_9_method_19_code 122 = .ok (.getfield 29, 3) := by decide +kernel
theorem dd_md_answers_125 : decode prog_9_method_19_code 125 = .ok (.iload_n 1, 1) := by decide +kernel
theorem dd_md_answers_126 : decode prog_9_method_19_code 126 = .ok (.aload_n 0, 1) := by decide +kernel
theorem dd_md_answers_127 : decode prog_9_method_19_code 127 = .ok (.getfield 77, 3) := by decide +kernel
theorem dd_md_answers_130 : decode prog_9_method_19_code 130 = .ok (.bipush 7, 2) := by decide +kernel
theorem dd_md_answers_132 : decode prog_9_method_19_code 132 = .ok (.iaload, 1) := by decide +kernel
theorem dd_md_answers_133 : decode prog_9_method_19_code 133 = .ok (.iastore, 1) := by decide +kernel
theorem dd_md_answers_134 : decode prog_9_method_19_code 134 = .ok (.aload_n 0, 1) := by decide +kernel
theorem dd_md_answers_135 : decode prog_9_method_19_code 135 = .ok (.getfield 32, 3) := by decide +kernel
theorem dd_md_answers_138 : decode prog_9_method_19_code 138 = .ok (.iload_n 1, 1) := by decide +kernel
theorem dd_md_answers_139 : decode prog_9_method_19_code 139 = .ok (.aload_n 0, 1) := by decide +kernel
theorem dd_md_answers_140 : decode prog_9_method_19_code 140 = .ok (.getfield 77, 3) := by decide +kernel
theorem dd_md_answers_143 : decode prog_9_method_19_code 143 = .ok (.bipush 8, 2) := by decide +kernel
theorem dd_md_answers_145 : decode prog_9_method_19_code 145 = .ok (.iaload, 1) := by decide +kernel
theorem dd_md_answers_146 : decode prog_9_method_19_code 146 = .ok (.iastore, 1) := by decide +kernel
theorem dd_md_answers_147 : decode prog_9_method_19_code 147 = .ok (.aload_n 0, 1) := by decide +kernel
theorem dd_md_answers_148 : decode prog_9_method_19_code 148 = .ok (.iconst 4, 1) := by decide +kernel
theorem dd_md_answers_149 : decode prog_9_method_19_code 149 = .ok (.iload_n 3, 1) := by decide +kernel
theorem dd_md_answers_150 : decode prog_9_method_19_code 150 = .ok (.iload 4, 2) := by decide +kernel
theorem dd_md_answers_152 : decode prog_9_method_19_code 152 = .ok (.iload 5, 2) := by decide +kernel
theorem dd_md_answers_154 : decode prog_9_method_19_code 154 = .ok (.iload 6, 2) := by decide +kernel
theorem dd_md_answers_156 : decode prog_9_method_19_code 156 = .ok (.iload 7, 2) := by decide +kernel
theorem dd_md_answers_158 : decode prog_9_method_19_code 158 = .ok (.iconst 0, 1) := by decide +kernel
theorem dd_md_answers_159 : decode prog_9_method_19_code 159 = .ok (.iconst (-1), 1) := by decide +kernel
theorem dd_md_answers_160 : decode prog_9_method_19_code 160 = .ok (.iconst (-1), 1) := by decide +kernel
theorem dd_md_answers_161 : decode prog_9_method_19_code 161 = .ok (.invokevirtual 113, 3) := by decide +kernel
theorem dd_md_answers_164 : decode prog_9_method_19_code 164 = .ok (.return_, 1) := by decide +kernel
theorem dd_md_promisedBy_0 : decode prog_9_method_20_code 0 = .ok (.aload_n 0, 1) := by decide +kernel
theorem dd_md_promisedBy_1 : decode prog_9_method_20_code 1 = .ok (.getfield 77, 3) := by decide +kernel
theorem dd_md_promisedBy_4 : decode prog_9_method_20_code 4 = .ok (.bipush 6, 2) := by decide +kernel
theorem dd_md_promisedBy_6 : decode prog_9_method_20_code 6 = .ok (.iaload, 1) := by decide +kernel
theorem dd_md_promisedBy_7 : decode prog_9_method_20_code 7 = .ok (.aload_n 0, 1) := by decide +kernel
theorem dd_md_promisedBy_8 : decode prog_9_method_20_code 8 = .ok (.getfield 62, 3) := by decide +kernel
theorem dd_md_promisedBy_11 : decode prog_9_method_20_code 11 = .ok (.iload_n 1, 1) := by decide +kernel
theorem dd_md_promisedBy_12 : decode prog_9_method_20_code 12 = .ok (.iaload, 1) := by decide +kernel
theorem dd_md_promisedBy_13 : decode prog_9_method_20_code 13 = .ok (.if_icmp .le 42, 3) := by decide +kernel
theorem dd_md_promisedBy_16 : decode prog_9_method_20_code 16 = .ok (.aload_n 0, 1) := by decide +kernel
theorem dd_md_promisedBy_17 : decode prog_9_method_20_code 17 = .ok (.getfield 62, 3) := by decide +kernel
theorem dd_md_promisedBy_20 : decode prog_9_method_20_code 20 = .ok (.iload_n 1, 1) := by decide +kernel
theorem dd_md_promisedBy_21 : decode prog_9_method_20_code 21 = .ok (.aload_n 0, 1) := by decide +kernel
theorem dd_md_promisedBy_22 : decode prog_9_method_20_code 22 = .ok (.getfield 77, 3) := by decide +kernel
theorem dd_md_promisedBy_25 : decode prog_9_method_20_code 25 = .ok (.bipush 6, 2) := by decide +kernel
theorem dd_md_promisedBy_27 : decode prog_9_method_20_code 27 = .ok (.iaload, 1) := by decide +kernel
theorem dd_md_promisedBy_28 : decode prog_9_method_20_code 28 = .ok (.iastore, 1) := by decide +kernel
theorem dd_md_promisedBy_29 : decode prog_9_method_20_code 29 = .ok (.aload_n 0, 1) := by decide +kernel
theorem dd_md_promisedBy_30 : decode prog_9_method_20_code 30 = .ok (.getfield 65, 3) := by decide +kernel
theorem dd_md_promisedBy_33 : decode prog_9_method_20_code 33 = .ok (.iload_n 1, 1) := by decide +kernel
theorem dd_md_promisedBy_34 : decode prog_9_method_20_code 34 = .ok (.aload_n 0, 1) := by decide +kernel
theorem dd_md_promisedBy_35 : decode prog_9_method_20_code 35 = .ok (.getfield 77, 3) := by decide +kernel
theorem dd_md_promisedBy_38 : decode prog_9_method_20_code 38 = .ok (.bipush 7, 2) := by decide +kernel
theorem dd_md_promisedBy_40 : decode prog_9_method_20_code 40 = .ok (.iaload, 1) := by decide +kernel
theorem dd_md_promisedBy_41 : decode prog_9_method_20_code 41 = .ok (.iastore, 1) := by decide +kernel
theorem dd_md_promisedBy_42 : decode prog_9_method_20_code 42 = .ok (.aload_n 0, 1) := by decide +kernel
theorem dd_md_promisedBy_43 : decode prog_9_method_20_code 43 = .ok (.getfield 68, 3) := by decide +kernel
theorem dd_md_promisedBy_46 : decode prog_9_method_20_code 46 = .ok (.iload_n 1, 1) := by decide +kernel
theorem dd_md_promisedBy_47 : decode prog_9_method_20_code 47 = .ok (.aload_n 0, 1) := by decide +kernel
theorem dd_md_promisedBy_48 : decode prog_9_method_20_code 48 = .ok (.getfield 77, 3) := by decide +kernel
theorem dd_md_promisedBy_51 : decode prog_9_method_20_code 51 = .ok (.bipush 8, 2) := by decide +kernel
theorem dd_md_promisedBy_53 : decode prog_9_method_20_code 53 = .ok (.iaload, 1) := by decide +kernel
theorem dd_md_promisedBy_54 : decode prog_9_method_20_code 54 = .ok (.iastore, 1) := by decide +kernel
theorem dd_md_promisedBy_55 : decode prog_9_method_20_code 55 = .ok (.aload_n 0, 1) := by decide +kernel
theorem dd_md_promisedBy_56 : decode prog_9_method_20_code 56 = .ok (.aload_n 0, 1) := by decide +kernel
theorem dd_md_promisedBy_57 : decode prog_9_method_20_code 57 = .ok (.getfield 59, 3) := by decide +kernel
theorem dd_md_promisedBy_60 : decode prog_9_method_20_code 60 = .ok (.iload_n 1, 1) := by decide +kernel
theorem dd_md_promisedBy_61 : decode prog_9_method_20_code 61 = .ok (.iaload, 1) := by decide +kernel
theorem dd_md_promisedBy_62 : decode prog_9_method_20_code 62 = .ok (.invokevirtual 138, 3) := by decide +kernel
theorem dd_md_promisedBy_65 : decode prog_9_method_20_code 65 = .ok (.ifCond .ne 4, 3) := by decide +kernel
theorem dd_md_promisedBy_68 : decode prog_9_method_20_code 68 = .ok (.return_, 1) := by decide +kernel
theorem dd_md_promisedBy_69 : decode prog_9_method_20_code 69 = .ok (.aload_n 0, 1) := by decide +kernel
theorem dd_md_promisedBy_70 : decode prog_9_method_20_code 70 = .ok (.getfield 56, 3) := by decide +kernel
theorem dd_md_promisedBy_73 : decode prog_9_method_20_code 73 = .ok (.iload_n 1, 1) := by decide +kernel
theorem dd_md_promisedBy_74 : decode prog_9_method_20_code 74 = .ok (.iconst 2, 1) := by decide +kernel
theorem dd_md_promisedBy_75 : decode prog_9_method_20_code 75 = .ok (.iastore, 1) := by decide +kernel
theorem dd_md_promisedBy_76 : decode prog_9_method_20_code 76 = .ok (.aload_n 0, 1) := by decide +kernel
theorem dd_md_promisedBy_77 : decode prog_9_method_20_code 77 = .ok (.getfield 59, 3) := by decide +kernel
theorem dd_md_promisedBy_80 : decode prog_9_method_20_code 80 = .ok (.iload_n 1, 1) := by decide +kernel
theorem dd_md_promisedBy_81 : decode prog_9_method_20_code 81 = .ok (.iconst 0, 1) := by decide +kernel
theorem dd_md_promisedBy_82 : decode prog_9_method_20_code 82 = .ok (.iastore, 1) := by decide +kernel
theorem dd_md_promisedBy_83 : decode prog_9_method_20_code 83 = .ok (.aload_n 0, 1) := by decide +kernel
theorem dd_md_promisedBy_84 : decode prog_9_method_20_code 84 = .ok (.getfield 62, 3) := by decide +kernel
theorem dd_md_promisedBy_87 : decode prog_9_method_20_code 87 = .ok (.iload_n 1, 1) := by decide +kernel
theorem dd_md_promisedBy_88 : decode prog_9_method_20_code 88 = .ok (.iaload, 1) := by decide +kernel
theorem dd_md_promisedBy_89 : decode prog_9_method_20_code 89 = .ok (.ifCond .le 27, 3) := by decide +kernel
theorem dd_md_promisedBy_92 : decode prog_9_method_20_code 92 = .ok (.aload_n 0, 1) := by decide +kernel
theorem dd_md_promisedBy_93 : decode prog_9_method_20_code 93 = .ok (.getfield 47, 3) := by decide +kernel
theorem dd_md_promisedBy_96 : decode prog_9_method_20_code 96 = .ok (.iload_n 1, 1) := by decide +kernel
theorem dd_md_promisedBy_97 : decode prog_9_method_20_code 97 = .ok (.aload_n 0, 1) := by decide +kernel
theorem dd_md_promisedBy_98 : decode prog_9_method_20_code 98 = .ok (.getfield 65, 3) := by decide +kernel
theorem dd_md_promisedBy_101 : decode prog_9_method_20_code 101 = .ok (.iload_n 1, 1) := by decide +kernel
theorem dd_md_promisedBy_102 : decode prog_9_method_20_code 102 = .ok (.iaload, 1) := by decide +kernel
theorem dd_md_promisedBy_103 : decode prog_9_method_20_code 103 = .ok (.iastore, 1) := by decide +kernel
theorem dd_md_promisedBy_104 : decode prog_9_method_20_code 104 = .ok (.aload_n 0, 1) := by decide +kernel
theorem dd_md_promisedBy_105 : decode prog_9_method_20_code 105 = .ok (.getfield 50, 3) := by decide +kernel
theorem dd_md_promisedBy_108 : decode prog_9_method_20_code 108 = .ok (.iload_n 1, 1) := by decide +kernel
theorem dd_md_promisedBy_109 : decode prog_9_method_20_code 109 = .ok (.aload_n 0, 1) := by decide +kernel
theorem dd_md_promisedBy_110 : decode prog_9_method_20_code 110 = .ok (.getfield 68, 3) := by decide +kernel
theorem dd_md_promisedBy_113 : decode prog_9_method_20_code 113 = .ok (.iload_n 1, 1) := by decide +kernel
theorem dd_md_promisedBy_114 : decode prog_9_method_20_code 114 = .ok (.iaload, 1) := by decide +kernel
theorem dd_md_promisedBy_115 : decode prog_9_method_20_code 115 = .ok (.iastore, 1) := by decide +kernel
theorem dd_md_promisedBy_116 : decode prog_9_method_20_code 116 = .ok (.iconst 0, 1) := by decide +kernel
theorem dd_md_promisedBy_117 : decode prog_9_method_20_code 117 = .ok (.istore 6, 2) := by decide +kernel
theorem dd_md_promisedBy_119 : decode prog_9_method_20_code 119 = .ok (.iload 6, 2) := by decide +kernel
theorem dd_md_promisedBy_121 : decode prog_9_method_20_code 121 = .ok (.bipush 25, 2) := by decide +kernel
theorem dd_md_promisedBy_123 : decode prog_9_method_20_code 123 = .ok (.if_icmp .ge 35, 3) := by decide +kernel
theorem dd_md_promisedBy_126 : decode prog_9_method_20_code 126 = .ok (.aload_n 0, 1) := by decide +kernel
theorem dd_md_promisedBy_127 : decode prog_9_method_20_code 127 = .ok (.iconst 3, 1) := by decide +kernel
theorem dd_md_promisedBy_128 : decode prog_9_method_20_code 128 = .ok (.iload_n 2, 1) := by decide +kernel
theorem dd_md_promisedBy_129 : decode prog_9_method_20_code 129 = .ok (.iload 6, 2) := by decide +kernel
theorem dd_md_promisedBy_131 : decode prog_9_method_20_code 131 = .ok (.iload_n 3, 1) := by decide +kernel
theorem dd_md_promisedBy_132 : decode prog_9_method_20_code 132 = .ok (.iload 4, 2) := by decide +kernel
theorem dd_md_promisedBy_134 : decode prog_9_method_20_code 134 = .ok (.iload 5, 2) := by decide +kernel
theorem dd_md_promisedBy_136 : decode prog_9_method_20_code 136 = .ok (.iconst 0, 1) := by decide +kernel
theorem dd_md_promisedBy_137 : decode prog_9_method_20_code 137 = .ok (.aload_n 0, 1) := by decide +kernel
theorem dd_md_promisedBy_138 : decode prog_9_method_20_code 138 = .ok (.getfield 47, 3) := by decide +kernel
theorem dd_md_promisedBy_141 : decode prog_9_method_20_code 141 = .ok (.iload_n 1, 1) := by decide +kernel
theorem dd_md_promisedBy_142 : decode prog_9_method_20_code 142 = .ok (.iaload, 1) := by decide +kernel
theorem dd_md_promisedBy_143 : decode prog_9_method_20_code 143 = .ok (.aload_n 0, 1) := by decide +kernel
theorem dd_md_promisedBy_144 : decode prog_9_method_20_code 144 = .ok (.getfield 50, 3) := by decide +kernel
theorem dd_md_promisedBy_147 : decode prog_9_method_20_code 147 = .ok (.iload_n 1, 1) := by decide +kernel
theorem dd_md_promisedBy_148 : decode prog_9_method_20_code 148 = .ok (.iaload, 1) := by decide +kernel
theorem dd_md_promisedBy_149 : decode prog_9_method_20_code 149 = .ok (.invokevirtual 113, 3) := by decide +kernel
theorem dd_md_promisedBy_152 : decode prog_9_method_20_code 152 = .ok (.iinc 6 1, 3) := by decide +kernel
theorem dd_md_promisedBy_155 : decode prog_9_method_20_code 155 = .ok (.goto (-36), 3) := by decide +kernel
theorem dd_md_promisedBy_158 : decode prog_9_method_20_code 158 = .ok (.return_, 1) := by decide +kernel
theorem dd_md_hasEachColumn_0 : decode prog_9_method_16_code 0 = .ok (.iconst 0, 1) := by decide +kernel
theorem dd_md_hasEachColumn_1 : decode prog_9_method_16_code 1 = .ok (.istore_n 2, 1) := by decide +kernel
theorem dd_md_hasEachColumn_2 : decode prog_9_method_16_code 2 = .ok (.iload_n 2, 1) := by decide +kernel
theorem dd_md_hasEachColumn_3 : decode prog_9_method_16_code 3 = .ok (.iconst 5, 1) := by decide +kernel
theorem dd_md_hasEachColumn_4 : decode prog_9_method_16_code 4 = .ok (.if_icmp .ge 56, 3) := by decide +kernel
theorem dd_md_hasEachColumn_7 : decode prog_9_method_16_code 7 = .ok (.iconst 0, 1) := by decide +kernel
theorem dd_md_hasEachColumn_8 : decode prog_9_method_16_code 8 = .ok (.istore_n 3, 1) := by decide +kernel
theorem dd_md_hasEachColumn_9 : decode prog_9_method_16_code 9 = .ok (.iconst 0, 1) := by decide +kernel
theorem dd_md_hasEachColumn_10 : decode prog_9_method_16_code 10 = .ok (.istore 4, 2) := by decide +kernel
theorem dd_md_hasEachColumn_12 : decode prog_9_method_16_code 12 = .ok (.iload 4, 2) := by decide +kernel
theorem dd_md_hasEachColumn_14 : decode prog_9_method_16_code 14 = .ok (.iconst 5, 1) := by decide +kernel
theorem dd_md_hasEachColumn_15 : decode prog_9_method_16_code 15 = .ok (.if_icmp .ge 33, 3) := by decide +kernel
theorem dd_md_hasEachColumn_18 : decode prog_9_method_16_code 18 = .ok (.iload_n 3, 1) := by decide +kernel
theorem dd_md_hasEachColumn_19 : decode prog_9_method_16_code 19 = .ok (.ifCond .ne 17, 3) := by decide +kernel
theorem dd_md_hasEachColumn_22 : decode prog_9_method_16_code 22 = .ok (.iload_n 1, 1) := by decide +kernel
theorem dd_md_hasEachColumn_23 : decode prog_9_method_16_code 23 = .ok (.iconst 5, 1) := by decide +kernel
theorem dd_md_hasEachColumn_24 : decode prog_9_method_16_code 24 = .ok (.iload 4, 2) := by decide +kernel
theorem dd_md_hasEachColumn_26 : decode prog_9_method_16_code 26 = .ok (.imul, 1) := by decide +kernel
theorem dd_md_hasEachColumn_27 : decode prog_9_method_16_code 27 = .ok (.iload_n 2, 1) := by decide +kernel
theorem dd_md_hasEachColumn_28 : decode prog_9_method_16_code 28 = .ok (.iadd, 1) := by decide +kernel
theorem dd_md_hasEachColumn_29 : decode prog_9_method_16_code 29 = .ok (.ishr, 1) := by decide +kernel
theorem dd_md_hasEachColumn_30 : decode prog_9_method_16_code 30 = .ok (.iconst 1, 1) := by decide +kernel
theorem dd_md_hasEachColumn_31 : decode prog_9_method_16_code 31 = .ok (.iand, 1) := by decide +kernel
theorem dd_md_hasEachColumn_32 : decode prog_9_method_16_code 32 = .ok (.iconst 1, 1) := by decide +kernel
theorem dd_md_hasEachColumn_33 : decode prog_9_method_16_code 33 = .ok (.if_icmp .ne 7, 3) := by decide +kernel
theorem dd_md_hasEachColumn_36 : decode prog_9_method_16_code 36 = .ok (.iconst 1, 1) := by decide +kernel
theorem dd_md_hasEachColumn_37 : decode prog_9_method_16_code 37 = .ok (.goto 4, 3) := by decide +kernel
theorem dd_md_hasEachColumn_40 : decode prog_9_method_16_code 40 = .ok (.iconst 0, 1) := by decide +kernel
theorem dd_md_hasEachColumn_41 : decode prog_9_method_16_code 41 = .ok (.istore_n 3, 1) := by decide +kernel
theorem dd_md_hasEachColumn_42 : decode prog_9_method_16_code 42 = .ok (.iinc 4 1, 3) := by decide +kernel
theorem dd_md_hasEachColumn_45 : decode prog_9_method_16_code 45 = .ok (.goto (-33), 3) := by decide +kernel
theorem dd_md_hasEachColumn_48 : decode prog_9_method_16_code 48 = .ok (.iload_n 3, 1) := by decide +kernel
theorem dd_md_hasEachColumn_49 : decode prog_9_method_16_code 49 = .ok (.ifCond .ne 5, 3) := by decide +kernel
theorem dd_md_hasEachColumn_52 : decode prog_9_method_16_code 52 = .ok (.iconst 0, 1) := by decide +kernel
theorem dd_md_hasEachColumn_53 : decode prog_9_method_16_code 53 = .ok (.ireturn, 1) := by decide +kernel
theorem dd_md_hasEachColumn_54 : decode prog_9_method_16_code 54 = .ok (.iinc 2 1, 3) := by decide +kernel
theorem dd_md_hasEachColumn_57 : decode prog_9_method_16_code 57 = .ok (.goto (-55), 3) := by decide +kernel
theorem dd_md_hasEachColumn_60 : decode prog_9_method_16_code 60 = .ok (.iconst 1, 1) := by decide +kernel
theorem dd_md_hasEachColumn_61 : decode prog_9_method_16_code 61 = .ok (.ireturn, 1) := by decide +kernel
theorem dd_md_hasWholeColumn_0 : decode prog_9_method_17_code 0 = .ok (.iconst 0, 1) := by decide +kernel
theorem dd_md_hasWholeColumn_1 : decode prog_9_method_17_code 1 = .ok (.istore_n 2, 1) := by decide +kernel
theorem dd_md_hasWholeColumn_2 : decode prog_9_method_17_code 2 = .ok (.iload_n 2, 1) := by decide +kernel
theorem dd_md_hasWholeColumn_3 : decode prog_9_method_17_code 3 = .ok (.iconst 5, 1) := by decide +kernel
theorem dd_md_hasWholeColumn_4 : decode prog_9_method_17_code 4 = .ok (.if_icmp .ge 56, 3) := by decide +kernel
theorem dd_md_hasWholeColumn_7 : decode prog_9_method_17_code 7 = .ok (.iconst 1, 1) := by decide +kernel
theorem dd_md_hasWholeColumn_8 : decode prog_9_method_17_code 8 = .ok (.istore_n 3, 1) := by decide +kernel
theorem dd_md_hasWholeColumn_9 : decode prog_9_method_17_code 9 = .ok (.iconst 0, 1) := by decide +kernel
theorem dd_md_hasWholeColumn_10 : decode prog_9_method_17_code 10 = .ok (.istore 4, 2) := by decide +kernel
theorem dd_md_hasWholeColumn_12 : decode prog_9_method_17_code 12 = .ok (.iload 4, 2) := by decide +kernel
theorem dd_md_hasWholeColumn_14 : decode prog_9_method_17_code 14 = .ok (.iconst 5, 1) := by decide +kernel
theorem dd_md_hasWholeColumn_15 : decode prog_9_method_17_code 15 = .ok (.if_icmp .ge 33, 3) := by decide +kernel
theorem dd_md_hasWholeColumn_18 : decode prog_9_method_17_code 18 = .ok (.iload_n 3, 1) := by decide +kernel
theorem dd_md_hasWholeColumn_19 : decode prog_9_method_17_code 19 = .ok (.ifCond .eq 21, 3) := by decide +kernel
theorem dd_md_hasWholeColumn_22 : decode prog_9_method_17_code 22 = .ok (.iload_n 1, 1) := by decide +kernel
theorem dd_md_hasWholeColumn_23 : decode prog_9_method_17_code 23 = .ok (.iconst 5, 1) := by decide +kernel
theorem dd_md_hasWholeColumn_24 : decode prog_9_method_17_code 24 = .ok (.iload 4, 2) := by decide +kernel
theorem dd_md_hasWholeColumn_26 : decode prog_9_method_17_code 26 = .ok (.imul, 1) := by decide +kernel
theorem dd_md_hasWholeColumn_27 : decode prog_9_method_17_code 27 = .ok (.iload_n 2, 1) := by decide +kernel
theorem dd_md_hasWholeColumn_28 : decode prog_9_method_17_code 28 = .ok (.iadd, 1) := by decide +kernel
theorem dd_md_hasWholeColumn_29 : decode prog_9_method_17_code 29 = .ok (.ishr, 1) := by decide +kernel
theorem dd_md_hasWholeColumn_30 : decode prog_9_method_17_code 30 = .ok (.iconst 1, 1) := by decide +kernel
theorem dd_md_hasWholeColumn_31 : decode prog_9_method_17_code 31 = .ok (.iand, 1) := by decide +kernel
theorem dd_md_hasWholeColumn_32 : decode prog_9_method_17_code 32 = .ok (.iconst 1, 1) := by decide +kernel
theorem dd_md_hasWholeColumn_33 : decode prog_9_method_17_code 33 = .ok (.if_icmp .ne 7, 3) := by decide +kernel
theorem dd_md_hasWholeColumn_36 : decode prog_9_method_17_code 36 = .ok (.iconst 1, 1) := by decide +kernel
theorem dd_md_hasWholeColumn_37 : decode prog_9_method_17_code 37 = .ok (.goto 4, 3) := by decide +kernel
theorem dd_md_hasWholeColumn_40 : decode prog_9_method_17_code 40 = .ok (.iconst 0, 1) := by decide +kernel
theorem dd_md_hasWholeColumn_41 : decode prog_9_method_17_code 41 = .ok (.istore_n 3, 1) := by decide +kernel
theorem dd_md_hasWholeColumn_42 : decode prog_9_method_17_code 42 = .ok (.iinc 4 1, 3) := by decide +kernel
theorem dd_md_hasWholeColumn_45 : decode prog_9_method_17_code 45 = .ok (.goto (-33), 3) := by decide +kernel
theorem dd_md_hasWholeColumn_48 : decode prog_9_method_17_code 48 = .ok (.iload_n 3, 1) := by decide +kernel
theorem dd_md_hasWholeColumn_49 : decode prog_9_method_17_code 49 = .ok (.ifCond .eq 5, 3) := by decide +kernel
theorem dd_md_hasWholeColumn_52 : decode prog_9_method_17_code 52 = .ok (.iconst 1, 1) := by decide +kernel
theorem dd_md_hasWholeColumn_53 : decode prog_9_method_17_code 53 = .ok (.ireturn, 1) := by decide +kernel
theorem dd_md_hasWholeColumn_54 : decode prog_9_method_17_code 54 = .ok (.iinc 2 1, 3) := by decide +kernel
theorem dd_md_hasWholeColumn_57 : decode prog_9_method_17_code 57 = .ok (.goto (-55), 3) := by decide +kernel
theorem dd_md_hasWholeColumn_60 : decode prog_9_method_17_code 60 = .ok (.iconst 0, 1) := by decide +kernel
theorem dd_md_hasWholeColumn_61 : decode prog_9_method_17_code 61 = .ok (.ireturn, 1) := by decide +kernel
theorem dd_md_drop_0 : decode prog_9_method_23_code 0 = .ok (.aload_n 0, 1) := by decide +kernel
theorem dd_md_drop_1 : decode prog_9_method_23_code 1 = .ok (.iload_n 1, 1) := by decide +kernel
theorem dd_md_drop_2 : decode prog_9_method_23_code 2 = .ok (.aload_n 0, 1) := by decide +kernel
theorem dd_md_drop_3 : decode prog_9_method_23_code 3 = .ok (.getfield 99, 3) := by decide +kernel
theorem dd_md_drop_6 : decode prog_9_method_23_code 6 = .ok (.invokestatic 84, 3) := by decide +kernel
theorem dd_md_drop_9 : decode prog_9_method_23_code 9 = .ok (.ifCond .ne 7, 3) := by decide +kernel
theorem dd_md_drop_12 : decode prog_9_method_23_code 12 = .ok (.iconst 1, 1) := by decide +kernel
theorem dd_md_drop_13 : decode prog_9_method_23_code 13 = .ok (.goto 4, 3) := by decide +kernel
theorem dd_md_drop_16 : decode prog_9_method_23_code 16 = .ok (.iconst 0, 1) := by decide +kernel
theorem dd_md_drop_17 : decode prog_9_method_23_code 17 = .ok (.iconst 1, 1) := by decide +kernel
theorem dd_md_drop_18 : decode prog_9_method_23_code 18 = .ok (.invokevirtual 92, 3) := by decide +kernel
theorem dd_md_drop_21 : decode prog_9_method_23_code 21 = .ok (.ifCond .eq 5, 3) := by decide +kernel
theorem dd_md_drop_24 : decode prog_9_method_23_code 24 = .ok (.iconst 0, 1) := by decide +kernel
theorem dd_md_drop_25 : decode prog_9_method_23_code 25 = .ok (.ireturn, 1) := by decide +kernel
theorem dd_md_drop_26 : decode prog_9_method_23_code 26 = .ok (.aload_n 0, 1) := by decide +kernel
theorem dd_md_drop_27 : decode prog_9_method_23_code 27 = .ok (.iload_n 1, 1) := by decide +kernel
theorem dd_md_drop_28 : decode prog_9_method_23_code 28 = .ok (.invokevirtual 141, 3) := by decide +kernel
theorem dd_md_drop_31 : decode prog_9_method_23_code 31 = .ok (.aload_n 0, 1) := by decide +kernel
theorem dd_md_drop_32 : decode prog_9_method_23_code 32 = .ok (.getfield 77, 3) := by decide +kernel
theorem dd_md_drop_35 : decode prog_9_method_23_code 35 = .ok (.iconst 0, 1) := by decide +kernel
theorem dd_md_drop_36 : decode prog_9_method_23_code 36 = .ok (.iaload, 1) := by decide +kernel
theorem dd_md_drop_37 : decode prog_9_method_23_code 37 = .ok (.ireturn, 1) := by decide +kernel
theorem dd_md_copy_0 : decode prog_9_method_24_code 0 = .ok (.aload_n 0, 1) := by decide +kernel
theorem dd_md_copy_1 : decode prog_9_method_24_code 1 = .ok (.iload_n 1, 1) := by decide +kernel
theorem dd_md_copy_2 : decode prog_9_method_24_code 2 = .ok (.aload_n 0, 1) := by decide +kernel
theorem dd_md_copy_3 : decode prog_9_method_24_code 3 = .ok (.getfield 99, 3) := by decide +kernel
theorem dd_md_copy_6 : decode prog_9_method_24_code 6 = .ok (.invokestatic 84, 3) := by decide +kernel
theorem dd_md_copy_9 : decode prog_9_method_24_code 9 = .ok (.ifCond .ne 7, 3) := by decide +kernel
theorem dd_md_copy_12 : decode prog_9_method_24_code 12 = .ok (.iconst 1, 1) := by decide +kernel
theorem dd_md_copy_13 : decode prog_9_method_24_code 13 = .ok (.goto 4, 3) := by decide +kernel
theorem dd_md_copy_16 : decode prog_9_method_24_code 16 = .ok (.iconst 0, 1) := by decide +kernel
theorem dd_md_copy_17 : decode prog_9_method_24_code 17 = .ok (.iconst 1, 1) := by decide +kernel
theorem dd_md_copy_18 : decode prog_9_method_24_code 18 = .ok (.invokevirtual 92, 3) := by decide +kernel
theorem dd_md_copy_21 : decode prog_9_method_24_code 21 = .ok (.ifCond .ne 12, 3) := by decide +kernel
theorem dd_md_copy_24 : decode prog_9_method_24_code 24 = .ok (.aload_n 0, 1) := by decide +kernel
theorem dd_md_copy_25 : decode prog_9_method_24_code 25 = .ok (.getfield 99, 3) := by decide +kernel
theorem dd_md_copy_28 : decode prog_9_method_24_code 28 = .ok (.bipush 100, 2) := by decide +kernel
theorem dd_md_copy_30 : decode prog_9_method_24_code 30 = .ok (.if_icmp .ne 5, 3) := by decide +kernel
theorem dd_md_copy_33 : decode prog_9_method_24_code 33 = .ok (.iconst 0, 1) := by decide +kernel
theorem dd_md_copy_34 : decode prog_9_method_24_code 34 = .ok (.ireturn, 1) := by decide +kernel
theorem dd_md_copy_35 : decode prog_9_method_24_code 35 = .ok (.iconst 0, 1) := by decide +kernel
theorem dd_md_copy_36 : decode prog_9_method_24_code 36 = .ok (.istore_n 2, 1) := by decide +kernel
theorem dd_md_copy_37 : decode prog_9_method_24_code 37 = .ok (.iload_n 2, 1) := by decide +kernel
theorem dd_md_copy_38 : decode prog_9_method_24_code 38 = .ok (.bipush 34, 2) := by decide +kernel
theorem dd_md_copy_40 : decode prog_9_method_24_code 40 = .ok (.if_icmp .ge 34, 3) := by decide +kernel
theorem dd_md_copy_43 : decode prog_9_method_24_code 43 = .ok (.aload_n 0, 1) := by decide +kernel
theorem dd_md_copy_44 : decode prog_9_method_24_code 44 = .ok (.getfield 74, 3) := by decide +kernel
theorem dd_md_copy_47 : decode prog_9_method_24_code 47 = .ok (.bipush 34, 2) := by decide +kernel
theorem dd_md_copy_49 : decode prog_9_method_24_code 49 = .ok (.aload_n 0, 1) := by decide +kernel
theorem dd_md_copy_50 : decode prog_9_method_24_code 50 = .ok (.getfield 99, 3) := by decide +kernel
theorem dd_md_copy_53 : decode prog_9_method_24_code 53 = .ok (.imul, 1) := by decide +kernel
theorem dd_md_copy_54 : decode prog_9_method_24_code 54 = .ok (.iload_n 2, 1) := by decide +kernel
theorem dd_md_copy_55 : decode prog_9_method_24_code 55 = .ok (.iadd, 1) := by decide +kernel
theorem dd_md_copy_56 : decode prog_9_method_24_code 56 = .ok (.aload_n 0, 1) := by decide +kernel
theorem dd_md_copy_57 : decode prog_9_method_24_code 57 = .ok (.getfield 74, 3) := by decide +kernel
theorem dd_md_copy_60 : decode prog_9_method_24_code 60 = .ok (.bipush 34, 2) := by decide +kernel
theorem dd_md_copy_62 : decode prog_9_method_24_code 62 = .ok (.iload_n 1, 1) := by decide +kernel
theorem dd_md_copy_63 : decode prog_9_method_24_code 63 = .ok (.imul, 1) := by decide +kernel
theorem dd_md_copy_64 : decode prog_9_method_24_code 64 = .ok (.iload_n 2, 1) := by decide +kernel
theorem dd_md_copy_65 : decode prog_9_method_24_code 65 = .ok (.iadd, 1) := by decide +kernel
theorem dd_md_copy_66 : decode prog_9_method_24_code 66 = .ok (.iaload, 1) := by decide +kernel
theorem dd_md_copy_67 : decode prog_9_method_24_code 67 = .ok (.iastore, 1) := by decide +kernel
theorem dd_md_copy_68 : decode prog_9_method_24_code 68 = .ok (.iinc 2 1, 3) := by decide +kernel
theorem dd_md_copy_71 : decode prog_9_method_24_code 71 = .ok (.goto (-34), 3) := by decide +kernel
theorem dd_md_copy_74 : decode prog_9_method_24_code 74 = .ok (.aload_n 0, 1) := by decide +kernel
theorem dd_md_copy_75 : decode prog_9_method_24_code 75 = .ok (.dup, 1) := by decide +kernel
theorem dd_md_copy_76 : decode prog_9_method_24_code 76 = .ok (.getfield 99, 3) := by decide +kernel
theorem dd_md_copy_79 : decode prog_9_method_24_code 79 = .ok (.iconst 1, 1) := by decide +kernel
theorem dd_md_copy_80 : decode prog_9_method_24_code 80 = .ok (.iadd, 1) := by decide +kernel
theorem dd_md_copy_81 : decode prog_9_method_24_code 81 = .ok (.putfield 99, 3) := by decide +kernel
theorem dd_md_copy_84 : decode prog_9_method_24_code 84 = .ok (.iconst 1, 1) := by decide +kernel
theorem dd_md_copy_85 : decode prog_9_method_24_code 85 = .ok (.ireturn, 1) := by decide +kernel
theorem dd_md_deliverAll_0 : decode prog_9_method_25_code 0 = .ok (.aload_n 0, 1) := by decide +kernel
theorem dd_md_deliverAll_1 : decode prog_9_method_25_code 1 = .ok (.iload_n 1, 1) := by decide +kernel
theorem dd_md_deliverAll_2 : decode prog_9_method_25_code 2 = .ok (.sipush 2001, 3) := by decide +kernel
theorem dd_md_deliverAll_5 : decode prog_9_method_25_code 5 = .ok (.invokestatic 84, 3) := by decide +kernel
theorem dd_md_deliverAll_8 : decode prog_9_method_25_code 8 = .ok (.ifCond .ne 7, 3) := by decide +kernel
theorem dd_md_deliverAll_11 : decode prog_9_method_25_code 11 = .ok (.iconst 1, 1) := by decide +kernel
theorem dd_md_deliverAll_12 : decode prog_9_method_25_code 12 = .ok (.goto 4, 3) := by decide +kernel
theorem dd_md_deliverAll_15 : decode prog_9_method_25_code 15 = .ok (.iconst 0, 1) := by decide +kernel
theorem dd_md_deliverAll_16 : decode prog_9_method_25_code 16 = .ok (.iconst 1, 1) := by decide +kernel
theorem dd_md_deliverAll_17 : decode prog_9_method_25_code 17 = .ok (.invokevirtual 92, 3) := by decide +kernel
theorem dd_md_deliverAll_20 : decode prog_9_method_25_code 20 = .ok (.ifCond .eq 5, 3) := by decide +kernel
theorem dd_md_deliverAll_23 : decode prog_9_method_25_code 23 = .ok (.iconst 0, 1) := by decide +kernel
theorem dd_md_deliverAll_24 : decode prog_9_method_25_code 24 = .ok (.ireturn, 1) := by decide +kernel
theorem dd_md_deliverAll_25 : decode prog_9_method_25_code 25 = .ok (.iconst 0, 1) := by decide +kernel
theorem dd_md_deliverAll_26 : decode prog_9_method_25_code 26 = .ok (.istore_n 2, 1) := by decide +kernel
theorem dd_md_deliverAll_27 : decode prog_9_method_25_code 27 = .ok (.iload_n 2, 1) := by decide +kernel
theorem dd_md_deliverAll_28 : decode prog_9_method_25_code 28 = .ok (.iload_n 1, 1) := by decide +kernel
theorem dd_md_deliverAll_29 : decode prog_9_method_25_code 29 = .ok (.if_icmp .ge 22, 3) := by decide +kernel
theorem dd_md_deliverAll_32 : decode prog_9_method_25_code 32 = .ok (.aload_n 0, 1) := by decide +kernel
theorem dd_md_deliverAll_33 : decode prog_9_method_25_code 33 = .ok (.getfield 99, 3) := by decide +kernel
theorem dd_md_deliverAll_36 : decode prog_9_method_25_code 36 = .ok (.ifCond .le 15, 3) := by decide +kernel
theorem dd_md_deliverAll_39 : decode prog_9_method_25_code 39 = .ok (.aload_n 0, 1) := by decide +kernel
theorem dd_md_deliverAll_40 : decode prog_9_method_25_code 40 = .ok (.iconst 0, 1) := by decide +kernel
theorem dd_md_deliverAll_41 : decode prog_9_method_25_code 41 = .ok (.invokevirtual 150, 3) := by decide +kernel
theorem dd_md_deliverAll_44 : decode prog_9_method_25_code 44 = .ok (.pop, 1) := by decide +kernel
theorem dd_md_deliverAll_45 : decode prog_9_method_25_code 45 = .ok (.iinc 2 1, 3) := by decide +kernel
theorem dd_md_deliverAll_48 : decode prog_9_method_25_code 48 = .ok (.goto (-21), 3) := by decide +kernel
theorem dd_md_deliverAll_51 : decode prog_9_method_25_code 51 = .ok (.iload_n 2, 1) := by decide +kernel
theorem dd_md_deliverAll_52 : decode prog_9_method_25_code 52 = .ok (.ireturn, 1) := by decide +kernel
theorem dd_md_up_0 : decode prog_9_method_26_code 0 = .ok (.aload_n 0, 1) := by decide +kernel
theorem dd_md_up_1 : decode prog_9_method_26_code 1 = .ok (.iload_n 1, 1) := by decide +kernel
theorem dd_md_up_2 : decode prog_9_method_26_code 2 = .ok (.invokestatic 117, 3) := by decide +kernel
theorem dd_md_up_5 : decode prog_9_method_26_code 5 = .ok (.ifCond .ne 7, 3) := by decide +kernel
theorem dd_md_up_8 : decode prog_9_method_26_code 8 = .ok (.iconst 1, 1) := by decide +kernel
theorem dd_md_up_9 : decode prog_9_method_26_code 9 = .ok (.goto 4, 3) := by decide +kernel
theorem dd_md_up_12 : decode prog_9_method_26_code 12 = .ok (.iconst 0, 1) := by decide +kernel
theorem dd_md_up_13 : decode prog_9_method_26_code 13 = .ok (.iconst 1, 1) := by decide +kernel
theorem dd_md_up_14 : decode prog_9_method_26_code 14 = .ok (.invokevirtual 92, 3) := by decide +kernel
theorem dd_md_up_17 : decode prog_9_method_26_code 17 = .ok (.ifCond .eq 5, 3) := by decide +kernel
theorem dd_md_up_20 : decode prog_9_method_26_code 20 = .ok (.iconst 0, 1) := by decide +kernel
theorem dd_md_up_21 : decode prog_9_method_26_code 21 = .ok (.ireturn, 1) := by decide +kernel
theorem dd_md_up_22 : decode prog_9_method_26_code 22 = .ok (.aload_n 0, 1) := by decide +kernel
theorem dd_md_up_23 : decode prog_9_method_26_code 23 = .ok (.getfield 16, 3) := by decide +kernel
theorem dd_md_up_26 : decode prog_9_method_26_code 26 = .ok (.iload_n 1, 1) := by decide +kernel
theorem dd_md_up_27 : decode prog_9_method_26_code 27 = .ok (.baload, 1) := by decide +kernel
theorem dd_md_up_28 : decode prog_9_method_26_code 28 = .ok (.iload_n 2, 1) := by decide +kernel
theorem dd_md_up_29 : decode prog_9_method_26_code 29 = .ok (.if_icmp .ne 7, 3) := by decide +kernel
theorem dd_md_up_32 : decode prog_9_method_26_code 32 = .ok (.iconst 1, 1) := by decide +kernel
theorem dd_md_up_33 : decode prog_9_method_26_code 33 = .ok (.goto 4, 3) := by decide +kernel
theorem dd_md_up_36 : decode prog_9_method_26_code 36 = .ok (.iconst 0, 1) := by decide +kernel
theorem dd_md_up_37 : decode prog_9_method_26_code 37 = .ok (.istore_n 3, 1) := by decide +kernel
theorem dd_md_up_38 : decode prog_9_method_26_code 38 = .ok (.aload_n 0, 1) := by decide +kernel
theorem dd_md_up_39 : decode prog_9_method_26_code 39 = .ok (.getfield 16, 3) := by decide +kernel
theorem dd_md_up_42 : decode prog_9_method_26_code 42 = .ok (.iload_n 1, 1) := by decide +kernel
theorem dd_md_up_43 : decode prog_9_method_26_code 43 = .ok (.iload_n 2, 1) := by decide +kernel
theorem dd_md_up_44 : decode prog_9_method_26_code 44 = .ok (.ifCond .ne 7, 3) := by decide +kernel
theorem dd_md_up_47 : decode prog_9_method_26_code 47 = .ok (.iconst 1, 1) := by decide +kernel
theorem dd_md_up_48 : decode prog_9_method_26_code 48 = .ok (.goto 4, 3) := by decide +kernel
theorem dd_md_up_51 : decode prog_9_method_26_code 51 = .ok (.iconst 0, 1) := by decide +kernel
theorem dd_md_up_52 : decode prog_9_method_26_code 52 = .ok (.bastore, 1) := by decide +kernel
theorem dd_md_up_53 : decode prog_9_method_26_code 53 = .ok (.iconst 0, 1) := by decide +kernel
theorem dd_md_up_54 : decode prog_9_method_26_code 54 = .ok (.istore 4, 2) := by decide +kernel
theorem dd_md_up_56 : decode prog_9_method_26_code 56 = .ok (.iload 4, 2) := by decide +kernel
theorem dd_md_up_58 : decode prog_9_method_26_code 58 = .ok (.bipush 20, 2) := by decide +kernel
theorem dd_md_up_60 : decode prog_9_method_26_code 60 = .ok (.if_icmp .ge 23, 3) := by decide +kernel
theorem dd_md_up_63 : decode prog_9_method_26_code 63 = .ok (.iload_n 2, 1) := by decide +kernel
theorem dd_md_up_64 : decode prog_9_method_26_code 64 = .ok (.ifCond .ne 19, 3) := by decide +kernel
theorem dd_md_up_67 : decode prog_9_method_26_code 67 = .ok (.aload_n 0, 1) := by decide +kernel
theorem dd_md_up_68 : decode prog_9_method_26_code 68 = .ok (.iload_n 1, 1) := by decide +kernel
theorem dd_md_up_69 : decode prog_9_method_26_code 69 = .ok (.iload 4, 2) := by decide +kernel
theorem dd_md_up_71 : decode prog_9_method_26_code 71 = .ok (.invokestatic 105, 3) := by decide +kernel
theorem dd_md_up_74 : decode prog_9_method_26_code 74 = .ok (.invokevirtual 109, 3) := by decide +kernel
theorem dd_md_up_77 : decode prog_9_method_26_code 77 = .ok (.iinc 4 1, 3) := by decide +kernel
theorem dd_md_up_80 : decode prog_9_method_26_code 80 = .ok (.goto (-24), 3) := by decide +kernel
theorem dd_md_up_83 : decode prog_9_method_26_code 83 = .ok (.iload_n 3, 1) := by decide +kernel
theorem dd_md_up_84 : decode prog_9_method_26_code 84 = .ok (.ireturn, 1) := by decide +kernel
theorem dd_md_teach_0 : decode prog_9_method_27_code 0 = .ok (.aload_n 0, 1) := by decide +kernel
theorem dd_md_teach_1 : decode prog_9_method_27_code 1 = .ok (.iload_n 1, 1) := by decide +kernel
theorem dd_md_teach_2 : decode prog_9_method_27_code 2 = .ok (.invokestatic 117, 3) := by decide +kernel
theorem dd_md_teach_5 : decode prog_9_method_27_code 5 = .ok (.ifCond .eq 17, 3) := by decide +kernel
theorem dd_md_teach_8 : decode prog_9_method_27_code 8 = .ok (.iload_n 2, 1) := by decide +kernel
theorem dd_md_teach_9 : decode prog_9_method_27_code 9 = .ok (.invokestatic 117, 3) := by decide +kernel
theorem dd_md_teach_12 : decode prog_9_method_27_code 12 = .ok (.ifCond .eq 10, 3) := by decide +kernel
theorem dd_md_teach_15 : decode prog_9_method_27_code 15 = .ok (.iload_n 3, 1) := by decide +kernel
theorem dd_md_teach_16 : decode prog_9_method_27_code 16 = .ok (.invokestatic 88, 3) := by decide +kernel
theorem dd_md_teach_19 : decode prog_9_method_27_code 19 = .ok (.ifCond .ne 7, 3) := by decide +kernel
theorem dd_md_teach_22 : decode prog_9_method_27_code 22 = .ok (.iconst 1, 1) := by decide +kernel
theorem dd_md_teach_23 : decode prog_9_method_27_code 23 = .ok (.goto 4, 3) := by decide +kernel
theorem dd_md_teach_26 : decode prog_9_method_27_code 26 = .ok (.iconst 0, 1) := by decide +kernel
theorem dd_md_teach_27 : decode prog_9_method_27_code 27 = .ok (.iconst 1, 1) := by decide +kernel
theorem dd_md_teach_28 : decode prog_9_method_27_code 28 = .ok (.invokevirtual 92, 3) := by decide +kernel
theorem dd_md_teach_31 : decode prog_9_method_27_code 31 = .ok (.ifCond .ne 17, 3) := by decide +kernel
theorem dd_md_teach_34 : decode prog_9_method_27_code 34 = .ok (.aload_n 0, 1) := by decide +kernel
theorem dd_md_teach_35 : decode prog_9_method_27_code 35 = .ok (.aload_n 0, 1) := by decide +kernel
theorem dd_md_teach_36 : decode prog_9_method_27_code 36 = .ok (.getfield 16, 3) := by decide +kernel
theorem dd_md_teach_39 : decode prog_9_method_27_code 39 = .ok (.iload_n 1, 1) := by decide +kernel
theorem dd_md_teach_40 : decode prog_9_method_27_code 40 = .ok (.baload, 1) := by decide +kernel
theorem dd_md_teach_41 : decode prog_9_method_27_code 41 = .ok (.iconst 2, 1) := by decide +kernel
theorem dd_md_teach_42 : decode prog_9_method_27_code 42 = .ok (.invokevirtual 92, 3) := by decide +kernel
theorem dd_md_teach_45 : decode prog_9_method_27_code 45 = .ok (.ifCond .eq 5, 3) := by decide +kernel
theorem dd_md_teach_48 : decode prog_9_method_27_code 48 = .ok (.iconst 0, 1) := by decide +kernel
theorem dd_md_teach_49 : decode prog_9_method_27_code 49 = .ok (.ireturn, 1) := by decide +kernel
theorem dd_md_teach_50 : decode prog_9_method_27_code 50 = .ok (.aload_n 0, 1) := by decide +kernel
theorem dd_md_teach_51 : decode prog_9_method_27_code 51 = .ok (.getfield 99, 3) := by decide +kernel
theorem dd_md_teach_54 : decode prog_9_method_27_code 54 = .ok (.bipush 100, 2) := by decide +kernel
theorem dd_md_teach_56 : decode prog_9_method_27_code 56 = .ok (.if_icmp .ge 7, 3) := by decide +kernel
theorem dd_md_teach_59 : decode prog_9_method_27_code 59 = .ok (.iconst 1, 1) := by decide +kernel
theorem dd_md_teach_60 : decode prog_9_method_27_code 60 = .ok (.goto 4, 3) := by decide +kernel
theorem dd_md_teach_63 : decode prog_9_method_27_code 63 = .ok (.iconst 0, 1) := by decide +kernel
theorem dd_md_teach_64 : decode prog_9_method_27_code 64 = .ok (.istore 4, 2) := by decide +kernel
theorem dd_md_teach_66 : decode prog_9_method_27_code 66 = .ok (.aload_n 0, 1) := by decide +kernel
theorem dd_md_teach_67 : decode prog_9_method_27_code 67 = .ok (.bipush 6, 2) := by decide +kernel
theorem dd_md_teach_69 : decode prog_9_method_27_code 69 = .ok (.iload_n 1, 1) := by decide +kernel
theorem dd_md_teach_70 : decode prog_9_method_27_code 70 = .ok (.iload_n 2, 1) := by decide +kernel
theorem dd_md_teach_71 : decode prog_9_method_27_code 71 = .ok (.iload_n 3, 1) := by decide +kernel
theorem dd_md_teach_72 : decode prog_9_method_27_code 72 = .ok (.iconst 0, 1) := by decide +kernel
theorem dd_md_teach_73 : decode prog_9_method_27_code 73 = .ok (.iconst 0, 1) := by decide +kernel
theorem dd_md_teach_74 : decode prog_9_method_27_code 74 = .ok (.iconst 0, 1) := by decide +kernel
theorem dd_md_teach_75 : decode prog_9_method_27_code 75 = .ok (.iconst (-1), 1) := by decide +kernel
theorem dd_md_teach_76 : decode prog_9_method_27_code 76 = .ok (.iconst (-1), 1) := by decide +kernel
theorem dd_md_teach_77 : decode prog_9_method_27_code 77 = .ok (.invokevirtual 113, 3) := by decide +kernel
theorem dd_md_teach_80 : decode prog_9_method_27_code 80 = .ok (.iload 4, 2) := by decide +kernel
theorem dd_md_teach_82 : decode prog_9_method_27_code 82 = .ok (.ireturn, 1) := by decide +kernel
theorem dd_md_pool_0 : decode prog_9_method_28_code 0 = .ok (.aload_n 0, 1) := by decide +kernel
theorem dd_md_pool_1 : decode prog_9_method_28_code 1 = .ok (.iconst 0, 1) := by decide +kernel
theorem dd_md_pool_2 : decode prog_9_method_28_code 2 = .ok (.putfield 80, 3) := by decide +kernel
theorem dd_md_pool_5 : decode prog_9_method_28_code 5 = .ok (.aload_n 0, 1) := by decide +kernel
theorem dd_md_pool_6 : decode prog_9_method_28_code 6 = .ok (.getfield 99, 3) := by decide +kernel
theorem dd_md_pool_9 : decode prog_9_method_28_code 9 = .ok (.ireturn, 1) := by decide +kernel
theorem dd_md_letter_0 : decode prog_9_method_29_code 0 = .ok (.aload_n 0, 1) := by decide +kernel
theorem dd_md_letter_1 : decode prog_9_method_29_code 1 = .ok (.iload_n 1, 1) := by decide +kernel
theorem dd_md_letter_2 : decode prog_9_method_29_code 2 = .ok (.aload_n 0, 1) := by decide +kernel
theorem dd_md_letter_3 : decode prog_9_method_29_code 3 = .ok (.getfield 99, 3) := by decide +kernel
theorem dd_md_letter_6 : decode prog_9_method_29_code 6 = .ok (.invokestatic 84, 3) := by decide +kernel
theorem dd_md_letter_9 : decode prog_9_method_29_code 9 = .ok (.ifCond .eq 12, 3) := by decide +kernel
theorem dd_md_letter_12 : decode prog_9_method_29_code 12 = .ok (.iload_n 2, 1) := by decide +kernel
theorem dd_md_letter_13 : decode prog_9_method_29_code 13 = .ok (.bipush 10, 2) := by decide +kernel
theorem dd_md_letter_15 : decode prog_9_method_29_code 15 = .ok (.invokestatic 84, 3) := by decide +kernel
theorem dd_md_letter_18 : decode prog_9_method_29_code 18 = .ok (.ifCond .ne 7, 3) := by decide +kernel
theorem dd_md_letter_21 : decode prog_9_method_29_code 21 = .ok (.iconst 1, 1) := by decide +kernel
theorem dd_md_letter_22 : decode prog_9_method_29_code 22 = .ok (.goto 4, 3) := by decide +kernel
theorem dd_md_letter_25 : decode prog_9_method_29_code 25 = .ok (.iconst 0, 1) := by decide +kernel
theorem dd_md_letter_26 : decode prog_9_method_29_code 26 = .ok (.iconst 1, 1) := by decide +kernel
theorem dd_md_letter_27 : decode prog_9_method_29_code 27 = .ok (.invokevirtual 92, 3) := by decide +kernel
theorem dd_md_letter_30 : decode prog_9_method_29_code 30 = .ok (.ifCond .eq 5, 3) := by decide +kernel
theorem dd_md_letter_33 : decode prog_9_method_29_code 33 = .ok (.iconst 0, 1) := by decide +kernel
theorem dd_md_letter_34 : decode prog_9_method_29_code 34 = .ok (.ireturn, 1) := by decide +kernel
theorem dd_md_letter_35 : decode prog_9_method_29_code 35 = .ok (.aload_n 0, 1) := by decide +kernel
theorem dd_md_letter_36 : decode prog_9_method_29_code 36 = .ok (.getfield 74, 3) := by decide +kernel
theorem dd_md_letter_39 : decode prog_9_method_29_code 39 = .ok (.bipush 34, 2) := by decide +kernel
theorem dd_md_letter_41 : decode prog_9_method_29_code 41 = .ok (.iload_n 1, 1) := by decide +kernel
theorem dd_md_letter_42 : decode prog_9_method_29_code 42 = .ok (.imul, 1) := by decide +kernel
theorem dd_md_letter_43 : decode prog_9_method_29_code 43 = .ok (.iload_n 2, 1) := by decide +kernel
theorem dd_md_letter_44 : decode prog_9_method_29_code 44 = .ok (.iadd, 1) := by decide +kernel
theorem dd_md_letter_45 : decode prog_9_method_29_code 45 = .ok (.iaload, 1) := by decide +kernel
theorem dd_md_letter_46 : decode prog_9_method_29_code 46 = .ok (.ireturn, 1) := by decide +kernel
theorem dd_md_state_0 : decode prog_9_method_30_code 0 = .ok (.aload_n 0, 1) := by decide +kernel
theorem dd_md_state_1 : decode prog_9_method_30_code 1 = .ok (.iload_n 1, 1) := by decide +kernel
theorem dd_md_state_2 : decode prog_9_method_30_code 2 = .ok (.invokestatic 117, 3) := by decide +kernel
theorem dd_md_state_5 : decode prog_9_method_30_code 5 = .ok (.ifCond .eq 10, 3) := by decide +kernel
theorem dd_md_state_8 : decode prog_9_method_30_code 8 = .ok (.iload_n 2, 1) := by decide +kernel
theorem dd_md_state_9 : decode prog_9_method_30_code 9 = .ok (.invokestatic 88, 3) := by decide +kernel
theorem dd_md_state_12 : decode prog_9_method_30_code 12 = .ok (.ifCond .ne 7, 3) := by decide +kernel
theorem dd_md_state_15 : decode prog_9_method_30_code 15 = .ok (.iconst 1, 1) := by decide +kernel
theorem dd_md_state_16 : decode prog_9_method_30_code 16 = .ok (.goto 4, 3) := by decide +kernel
theorem dd_md_state_19 : decode prog_9_method_30_code 19 = .ok (.iconst 0, 1) := by decide +kernel
theorem dd_md_state_20 : decode prog_9_method_30_code 20 = .ok (.iconst 1, 1) := by decide +kernel
theorem dd_md_state_21 : decode prog_9_method_30_code 21 = .ok (.invokevirtual 92, 3) := by decide +kernel
theorem dd_md_state_24 : decode prog_9_method_30_code 24 = .ok (.ifCond .eq 5, 3) := by decide +kernel
theorem dd_md_state_27 : decode prog_9_method_30_code 27 = .ok (.iconst 0, 1) := by decide +kernel
theorem dd_md_state_28 : decode prog_9_method_30_code 28 = .ok (.ireturn, 1) := by decide +kernel
theorem dd_md_state_29 : decode prog_9_method_30_code 29 = .ok (.iload_n 1, 1) := by decide +kernel
theorem dd_md_state_30 : decode prog_9_method_30_code 30 = .ok (.iload_n 2, 1) := by decide +kernel
theorem dd_md_state_31 : decode prog_9_method_30_code 31 = .ok (.invokestatic 105, 3) := by decide +kernel
theorem dd_md_state_34 : decode prog_9_method_30_code 34 = .ok (.istore_n 3, 1) := by decide +kernel
theorem dd_md_state_35 : decode prog_9_method_30_code 35 = .ok (.aload_n 0, 1) := by decide +kernel
theorem dd_md_state_36 : decode prog_9_method_30_code 36 = .ok (.getfield 44, 3) := by decide +kernel
theorem dd_md_state_39 : decode prog_9_method_30_code 39 = .ok (.iload_n 3, 1) := by decide +kernel
theorem dd_md_state_40 : decode prog_9_method_30_code 40 = .ok (.iaload, 1) := by decide +kernel
theorem dd_md_state_41 : decode prog_9_method_30_code 41 = .ok (.ifCond .le 5, 3) := by decide +kernel
theorem dd_md_state_44 : decode prog_9_method_30_code 44 = .ok (.iconst 1, 1) := by decide +kernel
theorem dd_md_state_45 : decode prog_9_method_30_code 45 = .ok (.ireturn, 1) := by decide +kernel
theorem dd_md_state_46 : decode prog_9_method_30_code 46 = .ok (.aload_n 0, 1) := by decide +kernel
theorem dd_md_state_47 : decode prog_9_method_30_code 47 = .ok (.getfield 20, 3) := by decide +kernel
theorem dd_md_state_50 : decode prog_9_method_30_code 50 = .ok (.iload_n 3, 1) := by decide +kernel
theorem dd_md_state_51 : decode prog_9_method_30_code 51 = .ok (.iaload, 1) := by decide +kernel
theorem dd_md_state_52 : decode prog_9_method_30_code 52 = .ok (.ifCond .ne 7, 3) := by decide +kernel
theorem dd_md_state_55 : decode prog_9_method_30_code 55 = .ok (.iconst 0, 1) := by decide +kernel
theorem dd_md_state_56 : decode prog_9_method_30_code 56 = .ok (.goto 30, 3) := by decide +kernel
theorem dd_md_state_59 : decode prog_9_method_30_code 59 = .ok (.aload_n 0, 1) := by decide +kernel
theorem dd_md_state_60 : decode prog_9_method_30_code 60 = .ok (.getfield 38, 3) := by decide +kernel
theorem dd_md_state_63 : decode prog_9_method_30_code 63 = .ok (.bipush 12, 2) := by decide +kernel
theorem dd_md_state_65 : decode prog_9_method_30_code 65 = .ok (.iload_n 3, 1) := by decide +kernel
theorem dd_md_state_66 : decode prog_9_method_30_code 66 = .ok (.imul, 1) := by decide +kernel
theorem dd_md_state_67 : decode prog_9_method_30_code 67 = .ok (.aload_n 0, 1) := by decide +kernel
theorem dd_md_state_68 : decode prog_9_method_30_code 68 = .ok (.getfield 20, 3) := by decide +kernel
theorem dd_md_state_71 : decode prog_9_method_30_code 71 = .ok (.iload_n 3, 1) := by decide +kernel
theorem dd_md_state_72 : decode prog_9_method_30_code 72 = .ok (.iaload, 1) := by decide +kernel
theorem dd_md_state_73 : decode prog_9_method_30_code 73 = .ok (.iadd, 1) := by decide +kernel
theorem dd_md_state_74 : decode prog_9_method_30_code 74 = .ok (.iconst 1, 1) := by decide +kernel
theorem dd_md_state_75 : decode prog_9_method_30_code 75 = .ok (.isub, 1) := by decide +kernel
theorem dd_md_state_76 : decode prog_9_method_30_code 76 = .ok (.iaload, 1) := by decide +kernel
theorem dd_md_state_77 : decode prog_9_method_30_code 77 = .ok (.iload_n 1, 1) := by decide +kernel
theorem dd_md_state_78 : decode prog_9_method_30_code 78 = .ok (.if_icmp .ne 7, 3) := by decide +kernel
theorem dd_md_state_81 : decode prog_9_method_30_code 81 = .ok (.iconst 2, 1) := by decide +kernel
theorem dd_md_state_82 : decode prog_9_method_30_code 82 = .ok (.goto 4, 3) := by decide +kernel
theorem dd_md_state_85 : decode prog_9_method_30_code 85 = .ok (.iconst 3, 1) := by decide +kernel
theorem dd_md_state_86 : decode prog_9_method_30_code 86 = .ok (.ireturn, 1) := by decide +kernel
theorem dd_md_granted_0 : decode prog_9_method_31_code 0 = .ok (.aload_n 0, 1) := by decide +kernel
theorem dd_md_granted_1 : decode prog_9_method_31_code 1 = .ok (.iload_n 1, 1) := by decide +kernel
theorem dd_md_granted_2 : decode prog_9_method_31_code 2 = .ok (.invokestatic 117, 3) := by decide +kernel
theorem dd_md_granted_5 : decode prog_9_method_31_code 5 = .ok (.ifCond .eq 21, 3) := by decide +kernel
theorem dd_md_granted_8 : decode prog_9_method_31_code 8 = .ok (.iload_n 2, 1) := by decide +kernel
theorem dd_md_granted_9 : decode prog_9_method_31_code 9 = .ok (.invokestatic 88, 3) := by decide +kernel
theorem dd_md_granted_12 : decode prog_9_method_31_code 12 = .ok (.ifCond .eq 14, 3) := by decide +kernel
theorem dd_md_granted_15 : decode prog_9_method_31_code 15 = .ok (.iload_n 3, 1) := by decide +kernel
theorem dd_md_granted_16 : decode prog_9_method_31_code 16 = .ok (.iconst 1, 1) := by decide +kernel
theorem dd_md_granted_17 : decode prog_9_method_31_code 17 = .ok (.isub, 1) := by decide +kernel
theorem dd_md_granted_18 : decode prog_9_method_31_code 18 = .ok (.bipush 12, 2) := by decide +kernel
theorem dd_md_granted_20 : decode prog_9_method_31_code 20 = .ok (.invokestatic 84, 3) := by decide +kernel
theorem dd_md_granted_23 : decode prog_9_method_31_code 23 = .ok (.ifCond .ne 7, 3) := by decide +kernel
theorem dd_md_granted_26 : decode prog_9_method_31_code 26 = .ok (.iconst 1, 1) := by decide +kernel
theorem dd_md_granted_27 : decode prog_9_method_31_code 27 = .ok (.goto 4, 3) := by decide +kernel
theorem dd_md_granted_30 : decode prog_9_method_31_code 30 = .ok (.iconst 0, 1) := by decide +kernel
theorem dd_md_granted_31 : decode prog_9_method_31_code 31 = .ok (.iconst 1, 1) := by decide +kernel
theorem dd_md_granted_32 : decode prog_9_method_31_code 32 = .ok (.invokevirtual 92, 3) := by decide +kernel
theorem dd_md_granted_35 : decode prog_9_method_31_code 35 = .ok (.ifCond .eq 5, 3) := by decide +kernel
theorem dd_md_granted_38 : decode prog_9_method_31_code 38 = .ok (.iconst 0, 1) := by decide +kernel
theorem dd_md_granted_39 : decode prog_9_method_31_code 39 = .ok (.ireturn, 1) := by decide +kernel
theorem dd_md_granted_40 : decode prog_9_method_31_code 40 = .ok (.iload_n 1, 1) := by decide +kernel
theorem dd_md_granted_41 : decode prog_9_method_31_code 41 = .ok (.iload_n 2, 1) := by decide +kernel
theorem dd_md_granted_42 : decode prog_9_method_31_code 42 = .ok (.invokestatic 105, 3) := by decide +kernel
theorem dd_md_granted_45 : decode prog_9_method_31_code 45 = .ok (.istore 5, 2) := by decide +kernel
theorem dd_md_granted_47 : decode prog_9_method_31_code 47 = .ok (.iload_n 3, 1) := by decide +kernel
theorem dd_md_granted_48 : decode prog_9_method_31_code 48 = .ok (.aload_n 0, 1) := by decide +kernel
theorem dd_md_granted_49 : decode prog_9_method_31_code 49 = .ok (.getfield 20, 3) := by decide +kernel
theorem dd_md_granted_52 : decode prog_9_method_31_code 52 = .ok (.iload 5, 2) := by decide +kernel
theorem dd_md_granted_54 : decode prog_9_method_31_code 54 = .ok (.iaload, 1) := by decide +kernel
theorem dd_md_granted_55 : decode prog_9_method_31_code 55 = .ok (.if_icmp .le 7, 3) := by decide +kernel
theorem dd_md_granted_58 : decode prog_9_method_31_code 58 = .ok (.iconst (-1), 1) := by decide +kernel
theorem dd_md_granted_59 : decode prog_9_method_31_code 59 = .ok (.goto 39, 3) := by decide +kernel
theorem dd_md_granted_62 : decode prog_9_method_31_code 62 = .ok (.iload 4, 2) := by decide +kernel
theorem dd_md_granted_64 : decode prog_9_method_31_code 64 = .ok (.ifCond .eq 20, 3) := by decide +kernel
theorem dd_md_granted_67 : decode prog_9_method_31_code 67 = .ok (.aload_n 0, 1) := by decide +kernel
theorem dd_md_granted_68 : decode prog_9_method_31_code 68 = .ok (.getfield 41, 3) := by decide +kernel
theorem dd_md_granted_71 : decode prog_9_method_31_code 71 = .ok (.bipush 12, 2) := by decide +kernel
theorem dd_md_granted_73 : decode prog_9_method_31_code 73 = .ok (.iload 5, 2) := by decide +kernel
theorem dd_md_granted_75 : decode prog_9_method_31_code 75 = .ok (.imul, 1) := by decide +kernel
theorem dd_md_granted_76 : decode prog_9_method_31_code 76 = .ok (.iload_n 3, 1) := by decide +kernel
theorem dd_md_granted_77 : decode prog_9_method_31_code 77 = .ok (.iadd, 1) := by decide +kernel
theorem dd_md_granted_78 : decode prog_9_method_31_code 78 = .ok (.iconst 1, 1) := by decide +kernel
theorem dd_md_granted_79 : decode prog_9_method_31_code 79 = .ok (.isub, 1) := by decide +kernel
theorem dd_md_granted_80 : decode prog_9_method_31_code 80 = .ok (.iaload, 1) := by decide +kernel
theorem dd_md_granted_81 : decode prog_9_method_31_code 81 = .ok (.goto 17, 3) := by decide +kernel
theorem dd_md_granted_84 : decode prog_9_method_31_code 84 = .ok (.aload_n 0, 1) := by decide +kernel
theorem dd_md_granted_85 : decode prog_9_method_31_code 85 = .ok (.getfield 38, 3) := by decide +kernel
theorem dd_md_granted_88 : decode prog_9_method_31_code 88 = .ok (.bipush 12, 2) := by decide +kernel
theorem dd_md_granted_90 : decode prog_9_method_31_code 90 = .ok (.iload 5, 2) := by decide +kernel
theorem dd_md_granted_92 : decode prog_9_method_31_code 92 = .ok (.imul, 1) := by decide +kernel
theorem dd_md_granted_93 : decode prog_9_method_31_code 93 = .ok (.iload_n 3, 1) := by decide +kernel
theorem dd_md_granted_94 : decode prog_9_method_31_code 94 = .ok (.iadd, 1) := by decide +kernel
theorem dd_md_granted_95 : decode prog_9_method_31_code 95 = .ok (.iconst 1, 1) := by decide +kernel
theorem dd_md_granted_96 : decode prog_9_method_31_code 96 = .ok (.isub, 1) := by decide +kernel
theorem dd_md_granted_97 : decode prog_9_method_31_code 97 = .ok (.iaload, 1) := by decide +kernel
theorem dd_md_granted_98 : decode prog_9_method_31_code 98 = .ok (.ireturn, 1) := by decide +kernel
theorem dd_md_kept_0 : decode prog_9_method_32_code 0 = .ok (.aload_n 0, 1) := by decide +kernel
theorem dd_md_kept_1 : decode prog_9_method_32_code 1 = .ok (.iload_n 1, 1) := by decide +kernel
theorem dd_md_kept_2 : decode prog_9_method_32_code 2 = .ok (.invokestatic 117, 3) := by decide +kernel
theorem dd_md_kept_5 : decode prog_9_method_32_code 5 = .ok (.ifCond .eq 19, 3) := by decide +kernel
theorem dd_md_kept_8 : decode prog_9_method_32_code 8 = .ok (.iload_n 2, 1) := by decide +kernel
theorem dd_md_kept_9 : decode prog_9_method_32_code 9 = .ok (.invokestatic 88, 3) := by decide +kernel
theorem dd_md_kept_12 : decode prog_9_method_32_code 12 = .ok (.ifCond .eq 12, 3) := by decide +kernel
theorem dd_md_kept_15 : decode prog_9_method_32_code 15 = .ok (.iload_n 3, 1) := by decide +kernel
theorem dd_md_kept_16 : decode prog_9_method_32_code 16 = .ok (.bipush 9, 2) := by decide +kernel
theorem dd_md_kept_18 : decode prog_9_method_32_code 18 = .ok (.invokestatic 84, 3) := by decide +kernel
theorem dd_md_kept_21 : decode prog_9_method_32_code 21 = .ok (.ifCond .ne 7, 3) := by decide +kernel
theorem dd_md_kept_24 : decode prog_9_method_32_code 24 = .ok (.iconst 1, 1) := by decide +kernel
theorem dd_md_kept_25 : decode prog_9_method_32_code 25 = .ok (.goto 4, 3) := by decide +kernel
theorem dd_md_kept_28 : decode prog_9_method_32_code 28 = .ok (.iconst 0, 1) := by decide +kernel
theorem dd_md_kept_29 : decode prog_9_method_32_code 29 = .ok (.iconst 1, 1) := by decide +kernel
theorem dd_md_kept_30 : decode prog_9_method_32_code 30 = .ok (.invokevirtual 92, 3) := by decide +kernel
theorem dd_md_kept_33 : decode prog_9_method_32_code 33 = .ok (.ifCond .eq 5, 3) := by decide +kernel
theorem dd_md_kept_36 : decode prog_9_method_32_code 36 = .ok (.iconst 0, 1) := by decide +kernel
theorem dd_md_kept_37 : decode prog_9_method_32_code 37 = .ok (.ireturn, 1) := by decide +kernel
theorem dd_md_kept_38 : decode prog_9_method_32_code 38 = .ok (.iload_n 1, 1) := by decide +kernel
theorem dd_md_kept_39 : decode prog_9_method_32_code 39 = .ok (.iload_n 2, 1) := by decide +kernel
theorem dd_md_kept_40 : decode prog_9_method_32_code 40 = .ok (.invokestatic 105, 3) := by decide +kernel
theorem dd_md_kept_43 : decode prog_9_method_32_code 43 = .ok (.istore 4, 2) := by decide +kernel
theorem dd_md_kept_45 : decode prog_9_method_32_code 45 = .ok (.iconst 0, 1) := by decide +kernel
theorem dd_md_kept_46 : decode prog_9_method_32_code 46 = .ok (.istore 5, 2) := by decide +kernel
theorem dd_md_kept_48 : decode prog_9_method_32_code 48 = .ok (.iconst 0, 1) := by decide +kernel
theorem dd_md_kept_49 : decode prog_9_method_32_code 49 = .ok (.istore 6, 2) := by decide +kernel
theorem dd_md_kept_51 : decode prog_9_method_32_code 51 = .ok (.iload 6, 2) := by decide +kernel
theorem dd_md_kept_53 : decode prog_9_method_32_code 53 = .ok (.bipush 25, 2) := by decide +kernel
theorem dd_md_kept_55 : decode prog_9_method_32_code 55 = .ok (.if_icmp .ge 26, 3) := by decide +kernel
theorem dd_md_kept_58 : decode prog_9_method_32_code 58 = .ok (.iload 5, 2) := by decide +kernel
theorem dd_md_kept_60 : decode prog_9_method_32_code 60 = .ok (.aload_n 0, 1) := by decide +kernel
theorem dd_md_kept_61 : decode prog_9_method_32_code 61 = .ok (.getfield 59, 3) := by decide +kernel
theorem dd_md_kept_64 : decode prog_9_method_32_code 64 = .ok (.iload 4, 2) := by decide +kernel
theorem dd_md_kept_66 : decode prog_9_method_32_code 66 = .ok (.iaload, 1) := by decide +kernel
theorem dd_md_kept_67 : decode prog_9_method_32_code 67 = .ok (.iload 6, 2) := by decide +kernel
theorem dd_md_kept_69 : decode prog_9_method_32_code 69 = .ok (.ishr, 1) := by decide +kernel
theorem dd_md_kept_70 : decode prog_9_method_32_code 70 = .ok (.iconst 1, 1) := by decide +kernel
theorem dd_md_kept_71 : decode prog_9_method_32_code 71 = .ok (.iand, 1) := by decide +kernel
theorem dd_md_kept_72 : decode prog_9_method_32_code 72 = .ok (.iadd, 1) := by decide +kernel
theorem dd_md_kept_73 : decode prog_9_method_32_code 73 = .ok (.istore 5, 2) := by decide +kernel
theorem dd_md_kept_75 : decode prog_9_method_32_code 75 = .ok (.iinc 6 1, 3) := by decide +kernel
theorem dd_md_kept_78 : decode prog_9_method_32_code 78 = .ok (.goto (-27), 3) := by decide +kernel
theorem dd_md_kept_81 : decode prog_9_method_32_code 81 = .ok (.iload_n 3, 1) := by decide +kernel
theorem dd_md_kept_82 : decode prog_9_method_32_code 82 = .ok (.tableswitch 138 0 7 #[46, 54, 62, 84, 106, 114, 122, 130], 46) := by decide +kernel
theorem dd_md_kept_128 : decode prog_9_method_32_code 128 = .ok (.aload_n 0, 1) := by decide +kernel
theorem dd_md_kept_129 : decode prog_9_method_32_code 129 = .ok (.getfield 23, 3) := by decide +kernel
theorem dd_md_kept_132 : decode prog_9_method_32_code 132 = .ok (.iload 4, 2) := by decide +kernel
theorem dd_md_kept_134 : decode prog_9_method_32_code 134 = .ok (.iaload, 1) := by decide +kernel
theorem dd_md_kept_135 : decode prog_9_method_32_code 135 = .ok (.ireturn, 1) := by decide +kernel
theorem dd_md_kept_136 : decode prog_9_method_32_code 136 = .ok (.aload_n 0, 1) := by decide +kernel
theorem dd_md_kept_137 : decode prog_9_method_32_code 137 = .ok (.getfield 26, 3) := by decide +kernel
theorem dd_md_kept_140 : decode prog_9_method_32_code 140 = .ok (.iload 4, 2) := by decide +kernel
theorem dd_md_kept_142 : decode prog_9_method_32_code 142 = .ok (.iaload, 1) := by decide +kernel
theorem dd_md_kept_143 : decode prog_9_method_32_code 143 = .ok (.ireturn, 1) := by decide +kernel
theorem dd_md_kept_144 : decode prog_9_method_32_code 144 = .ok (.aload_n 0, 1) := by decide +kernel
theorem dd_md_kept_145 : decode prog_9_method_32_code 145 = .ok (.getfield 26, 3) := by decide +kernel
theorem dd_md_kept_148 : decode prog_9_method_32_code 148 = .ok (.iload 4, 2) := by decide +kernel
theorem dd_md_kept_150 : decode prog_9_method_32_code 150 = .ok (.iaload, 1) := by decide +kernel
theorem dd_md_kept_151 : decode prog_9_method_32_code 151 = .ok (.ifCond .le 13, 3) := by decide +kernel
theorem dd_md_kept_154 : decode prog_9_method_32_code 154 = .ok (.aload_n 0, 1) := by decide +kernel
theorem dd_md_kept_155 : decode prog_9_method_32_code 155 = .ok (.getfield 29, 3) := by decide +kernel
theorem dd_md_kept_158 : decode prog_9_method_32_code 158 = .ok (.iload 4, 2) := by decide +kernel
theorem dd_md_kept_160 : decode prog_9_method_32_code 160 = .ok (.iaload, 1) := by decide +kernel
theorem dd_md_kept_161 : decode prog_9_method_32_code 161 = .ok (.goto 4, 3) := by decide +kernel
theorem dd_md_kept_164 : decode prog_9_method_32_code 164 = .ok (.iconst (-1), 1) := by decide +kernel
theorem dd_md_kept_165 : decode prog_9_method_32_code 165 = .ok (.ireturn, 1) := by decide +kernel
theorem dd_md_kept_166 : decode prog_9_method_32_code 166 = .ok (.aload_n 0, 1) := by decide +kernel
theorem dd_md_kept_167 : decode prog_9_method_32_code 167 = .ok (.getfield 26, 3) := by decide +kernel
theorem dd_md_kept_170 : decode prog_9_method_32_code 170 = .ok (.iload 4, 2) := by decide +kernel
theorem dd_md_kept_172 : decode prog_9_method_32_code 172 = .ok (.iaload, 1) := by decide +kernel
theorem dd_md_kept_173 : decode prog_9_method_32_code 173 = .ok (.ifCond .le 13, 3) := by decide +kernel
theorem dd_md_kept_176 : decode prog_9_method_32_code 176 = .ok (.aload_n 0, 1) := by decide +kernel
theorem dd_md_kept_177 : decode prog_9_method_32_code 177 = .ok (.getfield 32, 3) := by decide +kernel
theorem dd_md_kept_180 : decode prog_9_method_32_code 180 = .ok (.iload 4, 2) := by decide +kernel
theorem dd_md_kept_182 : decode prog_9_method_32_code 182 = .ok (.iaload, 1) := by decide +kernel
theorem dd_md_kept_183 : decode prog_9_method_32_code 183 = .ok (.goto 4, 3) := by decide +kernel
theorem dd_md_kept_186 : decode prog_9_method_32_code 186 = .ok (.iconst (-1), 1) := by decide +kernel
theorem dd_md_kept_187 : decode prog_9_method_32_code 187 = .ok (.ireturn, 1) := by decide +kernel
theorem dd_md_kept_188 : decode prog_9_method_32_code 188 = .ok (.aload_n 0, 1) := by decide +kernel
theorem dd_md_kept_189 : decode prog_9_method_32_code 189 = .ok (.getfield 35, 3) := by decide +kernel
theorem dd_md_kept_192 : decode prog_9_method_32_code 192 = .ok (.iload 4, 2) := by decide +kernel
theorem dd_md_kept_194 : decode prog_9_method_32_code 194 = .ok (.iaload, 1) := by decide +kernel
theorem dd_md_kept_195 : decode prog_9_method_32_code 195 = .ok (.ireturn, 1) := by decide +kernel
theorem dd_md_kept_196 : decode prog_9_method_32_code 196 = .ok (.aload_n 0, 1) := by decide +kernel
theorem dd_md_kept_197 : decode prog_9_method_32_code 197 = .ok (.getfield 20, 3) := by decide +kernel
theorem dd_md_kept_200 : decode prog_9_method_32_code 200 = .ok (.iload 4, 2) := by decide +kernel
theorem dd_md_kept_202 : decode prog_9_method_32_code 202 = .ok (.iaload, 1) := by decide +kernel
theorem dd_md_kept_203 : decode prog_9_method_32_code 203 = .ok (.ireturn, 1) := by decide +kernel
theorem dd_md_kept_204 : decode prog_9_method_32_code 204 = .ok (.aload_n 0, 1) := by decide +kernel
theorem dd_md_kept_205 : decode prog_9_method_32_code 205 = .ok (.getfield 53, 3) := by decide +kernel
theorem dd_md_kept_208 : decode prog_9_method_32_code 208 = .ok (.iload 4, 2) := by decide +kernel
theorem dd_md_kept_210 : decode prog_9_method_32_code 210 = .ok (.iaload, 1) := by decide +kernel
theorem dd_md_kept_211 : decode prog_9_method_32_code 211 = .ok (.ireturn, 1) := by decide +kernel
theorem dd_md_kept_212 : decode prog_9_method_32_code 212 = .ok (.aload_n 0, 1) := by decide +kernel
theorem dd_md_kept_213 : decode prog_9_method_32_code 213 = .ok (.getfield 56, 3) := by decide +kernel
theorem dd_md_kept_216 : decode prog_9_method_32_code 216 = .ok (.iload 4, 2) := by decide +kernel
theorem dd_md_kept_218 : decode prog_9_method_32_code 218 = .ok (.iaload, 1) := by decide +kernel
theorem dd_md_kept_219 : decode prog_9_method_32_code 219 = .ok (.ireturn, 1) := by decide +kernel
theorem dd_md_kept_220 : decode prog_9_method_32_code 220 = .ok (.iload 5, 2) := by decide +kernel
theorem dd_md_kept_222 : decode prog_9_method_32_code 222 = .ok (.ireturn, 1) := by decide +kernel
theorem dd_md_live_0 : decode prog_9_method_33_code 0 = .ok (.aload_n 0, 1) := by decide +kernel
theorem dd_md_live_1 : decode prog_9_method_33_code 1 = .ok (.iconst 0, 1) := by decide +kernel
theorem dd_md_live_2 : decode prog_9_method_33_code 2 = .ok (.putfield 80, 3) := by decide +kernel
theorem dd_md_live_5 : decode prog_9_method_33_code 5 = .ok (.iconst 0, 1) := by decide +kernel
theorem dd_md_live_6 : decode prog_9_method_33_code 6 = .ok (.istore_n 1, 1) := by decide +kernel
theorem dd_md_live_7 : decode prog_9_method_33_code 7 = .ok (.iconst 0, 1) := by decide +kernel
theorem dd_md_live_8 : decode prog_9_method_33_code 8 = .ok (.istore_n 2, 1) := by decide +kernel
theorem dd_md_live_9 : decode prog_9_method_33_code 9 = .ok (.iload_n 2, 1) := by decide +kernel
theorem dd_md_live_10 : decode prog_9_method_33_code 10 = .ok (.bipush 25, 2) := by decide +kernel
theorem dd_md_live_12 : decode prog_9_method_33_code 12 = .ok (.if_icmp .ge 28, 3) := by decide +kernel
theorem dd_md_live_15 : decode prog_9_method_33_code 15 = .ok (.iload_n 1, 1) := by decide +kernel
theorem dd_md_live_16 : decode prog_9_method_33_code 16 = .ok (.aload_n 0, 1) := by decide +kernel
theorem dd_md_live_17 : decode prog_9_method_33_code 17 = .ok (.getfield 16, 3) := by decide +kernel
theorem dd_md_live_20 : decode prog_9_method_33_code 20 = .ok (.iload_n 2, 1) := by decide +kernel
theorem dd_md_live_21 : decode prog_9_method_33_code 21 = .ok (.baload, 1) := by decide +kernel
theorem dd_md_live_22 : decode prog_9_method_33_code 22 = .ok (.ifCond .eq 7, 3) := by decide +kernel
theorem dd_md_live_25 : decode prog_9_method_33_code 25 = .ok (.iconst 0, 1) := by decide +kernel
theorem dd_md_live_26 : decode prog_9_method_33_code 26 = .ok (.goto 6, 3) := by decide +kernel
theorem dd_md_live_29 : decode prog_9_method_33_code 29 = .ok (.iconst 1, 1) := by decide +kernel
theorem dd_md_live_30 : decode prog_9_method_33_code 30 = .ok (.iload_n 2, 1) := by decide +kernel
theorem dd_md_live_31 : decode prog_9_method_33_code 31 = .ok (.ishl, 1) := by decide +kernel
theorem dd_md_live_32 : decode prog_9_method_33_code 32 = .ok (.ior, 1) := by decide +kernel
theorem dd_md_live_33 : decode prog_9_method_33_code 33 = .ok (.istore_n 1, 1) := by decide +kernel
theorem dd_md_live_34 : decode prog_9_method_33_code 34 = .ok (.iinc 2 1, 3) := by decide +kernel
theorem dd_md_live_37 : decode prog_9_method_33_code 37 = .ok (.goto (-28), 3) := by decide +kernel
theorem dd_md_live_40 : decode prog_9_method_33_code 40 = .ok (.aload_n 0, 1) := by decide +kernel
theorem dd_md_live_41 : decode prog_9_method_33_code 41 = .ok (.iload_n 1, 1) := by decide +kernel
theorem dd_md_live_42 : decode prog_9_method_33_code 42 = .ok (.invokevirtual 138, 3) := by decide +kernel
theorem dd_md_live_45 : decode prog_9_method_33_code 45 = .ok (.ifCond .eq 7, 3) := by decide +kernel
theorem dd_md_live_48 : decode prog_9_method_33_code 48 = .ok (.iconst 1, 1) := by decide +kernel
theorem dd_md_live_49 : decode prog_9_method_33_code 49 = .ok (.goto 4, 3) := by decide +kernel
theorem dd_md_live_52 : decode prog_9_method_33_code 52 = .ok (.iconst 0, 1) := by decide +kernel
theorem dd_md_live_53 : decode prog_9_method_33_code 53 = .ok (.aload_n 0, 1) := by decide +kernel
theorem dd_md_live_54 : decode prog_9_method_33_code 54 = .ok (.iload_n 1, 1) := by decide +kernel
theorem dd_md_live_55 : decode prog_9_method_33_code 55 = .ok (.invokevirtual 135, 3) := by decide +kernel
theorem dd_md_live_58 : decode prog_9_method_33_code 58 = .ok (.ifCond .eq 7, 3) := by decide +kernel
theorem dd_md_live_61 : decode prog_9_method_33_code 61 = .ok (.iconst 2, 1) := by decide +kernel
theorem dd_md_live_62 : decode prog_9_method_33_code 62 = .ok (.goto 4, 3) := by decide +kernel
theorem dd_md_live_65 : decode prog_9_method_33_code 65 = .ok (.iconst 0, 1) := by decide +kernel
theorem dd_md_live_66 : decode prog_9_method_33_code 66 = .ok (.iadd, 1) := by decide +kernel
theorem dd_md_live_67 : decode prog_9_method_33_code 67 = .ok (.ireturn, 1) := by decide +kernel
theorem dd_md_total_0 : decode prog_9_method_34_code 0 = .ok (.aload_n 0, 1) := by decide +kernel
theorem dd_md_total_1 : decode prog_9_method_34_code 1 = .ok (.iload_n 1, 1) := by decide +kernel
theorem dd_md_total_2 : decode prog_9_method_34_code 2 = .ok (.iconst 3, 1) := by decide +kernel
theorem dd_md_total_3 : decode prog_9_method_34_code 3 = .ok (.invokestatic 84, 3) := by decide +kernel
theorem dd_md_total_6 : decode prog_9_method_34_code 6 = .ok (.ifCond .ne 7, 3) := by decide +kernel
theorem dd_md_total_9 : decode prog_9_method_34_code 9 = .ok (.iconst 1, 1) := by decide +kernel
theorem dd_md_total_10 : decode prog_9_method_34_code 10 = .ok (.goto 4, 3) := by decide +kernel
theorem dd_md_total_13 : decode prog_9_method_34_code 13 = .ok (.iconst 0, 1) := by decide +kernel
theorem dd_md_total_14 : decode prog_9_method_34_code 14 = .ok (.iconst 1, 1) := by decide +kernel
theorem dd_md_total_15 : decode prog_9_method_34_code 15 = .ok (.invokevirtual 92, 3) := by decide +kernel
theorem dd_md_total_18 : decode prog_9_method_34_code 18 = .ok (.ifCond .eq 5, 3) := by decide +kernel
theorem dd_md_total_21 : decode prog_9_method_34_code 21 = .ok (.iconst 0, 1) := by decide +kernel
theorem dd_md_total_22 : decode prog_9_method_34_code 22 = .ok (.ireturn, 1) := by decide +kernel
theorem dd_md_total_23 : decode prog_9_method_34_code 23 = .ok (.iload_n 1, 1) := by decide +kernel
theorem dd_md_total_24 : decode prog_9_method_34_code 24 = .ok (.ifCond .ne 10, 3) := by decide +kernel
theorem dd_md_total_27 : decode prog_9_method_34_code 27 = .ok (.aload_n 0, 1) := by decide +kernel
theorem dd_md_total_28 : decode prog_9_method_34_code 28 = .ok (.getfield 102, 3) := by decide +kernel
theorem dd_md_total_31 : decode prog_9_method_34_code 31 = .ok (.goto 19, 3) := by decide +kernel
theorem dd_md_total_34 : decode prog_9_method_34_code 34 = .ok (.iload_n 1, 1) := by decide +kernel
theorem dd_md_total_35 : decode prog_9_method_34_code 35 = .ok (.iconst 1, 1) := by decide +kernel
theorem dd_md_total_36 : decode prog_9_method_34_code 36 = .ok (.if_icmp .ne 10, 3) := by decide +kernel
theorem dd_md_total_39 : decode prog_9_method_34_code 39 = .ok (.aload_n 0, 1) := by decide +kernel
theorem dd_md_total_40 : decode prog_9_method_34_code 40 = .ok (.getfield 144, 3) := by decide +kernel
theorem dd_md_total_43 : decode prog_9_method_34_code 43 = .ok (.goto 7, 3) := by decide +kernel
theorem dd_md_total_46 : decode prog_9_method_34_code 46 = .ok (.aload_n 0, 1) := by decide +kernel
theorem dd_md_total_47 : decode prog_9_method_34_code 47 = .ok (.getfield 96, 3) := by decide +kernel
theorem dd_md_total_50 : decode prog_9_method_34_code 50 = .ok (.ireturn, 1) := by decide +kernel
