theorem dL_acts_165 : decode cL_acts 165 = .ok (.iload 5, 2) := by decide +kernel
theorem dL_acts_167 : decode cL_acts 167 = .ok (.invokevirtual 43, 3) := by decide +kernel
theorem dL_acts_170 : decode cL_acts 170 = .ok (.istore 8, 2) := by decide +kernel
theorem dL_acts_172 : decode cL_acts 172 = .ok (.goto 80, 3) := by decide +kernel
theorem dL_acts_175 : decode cL_acts 175 = .ok (.aload_n 0, 1) := by decide +kernel
theorem dL_acts_176 : decode cL_acts 176 = .ok (.iload 6, 2) := by decide +kernel
theorem dL_acts_178 : decode cL_acts 178 = .ok (.iload 7, 2) := by decide +kernel
theorem dL_acts_180 : decode cL_acts 180 = .ok (.bipush 6, 2) := by decide +kernel
theorem dL_acts_182 : decode cL_acts 182 = .ok (.irem, 1) := by decide +kernel
theorem dL_acts_183 : decode cL_acts 183 = .ok (.iload 7, 2) := by decide +kernel
theorem dL_acts_185 : decode cL_acts 185 = .ok (.bipush 6, 2) := by decide +kernel
theorem dL_acts_187 : decode cL_acts 187 = .ok (.idiv, 1) := by decide +kernel
theorem dL_acts_188 : decode cL_acts 188 = .ok (.invokevirtual 46, 3) := by decide +kernel
theorem dL_acts_191 : decode cL_acts 191 = .ok (.istore 8, 2) := by decide +kernel
theorem dL_acts_193 : decode cL_acts 193 = .ok (.goto 59, 3) := by decide +kernel
theorem dL_acts_196 : decode cL_acts 196 = .ok (.aload_n 0, 1) := by decide +kernel
theorem dL_acts_197 : decode cL_acts 197 = .ok (.iload 6, 2) := by decide +kernel
theorem dL_acts_199 : decode cL_acts 199 = .ok (.iload 7, 2) := by decide +kernel
theorem dL_acts_201 : decode cL_acts 201 = .ok (.iconst 2, 1) := by decide +kernel
theorem dL_acts_202 : decode cL_acts 202 = .ok (.irem, 1) := by decide +kernel
theorem dL_acts_203 : decode cL_acts 203 = .ok (.invokevirtual 49, 3) := by decide +kernel
theorem dL_acts_206 : decode cL_acts 206 = .ok (.istore 8, 2) := by decide +kernel
theorem dL_acts_208 : decode cL_acts 208 = .ok (.goto 44, 3) := by decide +kernel
theorem dL_acts_211 : decode cL_acts 211 = .ok (.aload_n 0, 1) := by decide +kernel
theorem dL_acts_212 : decode cL_acts 212 = .ok (.iload 6, 2) := by decide +kernel
theorem dL_acts_214 : decode cL_acts 214 = .ok (.invokevirtual 53, 3) := by decide +kernel
theorem dL_acts_217 : decode cL_acts 217 = .ok (.istore 8, 2) := by decide +kernel
theorem dL_acts_219 : decode cL_acts 219 = .ok (.goto 33, 3) := by decide +kernel
theorem dL_acts_222 : decode cL_acts 222 = .ok (.aload_n 0, 1) := by decide +kernel
theorem dL_acts_223 : decode cL_acts 223 = .ok (.iload 5, 2) := by decide +kernel
theorem dL_acts_225 : decode cL_acts 225 = .ok (.iload 6, 2) := by decide +kernel
theorem dL_acts_227 : decode cL_acts 227 = .ok (.bipush 6, 2) := by decide +kernel
theorem dL_acts_229 : decode cL_acts 229 = .ok (.invokevirtual 33, 3) := by decide +kernel
theorem dL_acts_232 : decode cL_acts 232 = .ok (.istore 8, 2) := by decide +kernel
theorem dL_acts_234 : decode cL_acts 234 = .ok (.goto 18, 3) := by decide +kernel
theorem dL_acts_237 : decode cL_acts 237 = .ok (.aload_n 0, 1) := by decide +kernel
theorem dL_acts_238 : decode cL_acts 238 = .ok (.iload 5, 2) := by decide +kernel
theorem dL_acts_240 : decode cL_acts 240 = .ok (.iload 6, 2) := by decide +kernel
theorem dL_acts_242 : decode cL_acts 242 = .ok (.iload 7, 2) := by decide +kernel
theorem dL_acts_244 : decode cL_acts 244 = .ok (.bipush 6, 2) := by decide +kernel
theorem dL_acts_246 : decode cL_acts 246 = .ok (.irem, 1) := by decide +kernel
theorem dL_acts_247 : decode cL_acts 247 = .ok (.invokevirtual 33, 3) := by decide +kernel
theorem dL_acts_250 : decode cL_acts 250 = .ok (.istore 8, 2) := by decide +kernel
theorem dL_acts_252 : decode cL_acts 252 = .ok (.return_, 1) := by decide +kernel
theorem dL_tenths_0 : decode cL_tenths 0 = .ok (.iconst 0, 1) := by decide +kernel
theorem dL_tenths_1 : decode cL_tenths 1 = .ok (.istore_n 3, 1) := by decide +kernel
theorem dL_tenths_2 : decode cL_tenths 2 = .ok (.iconst 0, 1) := by decide +kernel
theorem dL_tenths_3 : decode cL_tenths 3 = .ok (.istore 4, 2) := by decide +kernel
theorem dL_tenths_5 : decode cL_tenths 5 = .ok (.iload 4, 2) := by decide +kernel
theorem dL_tenths_7 : decode cL_tenths 7 = .ok (.aload_n 0, 1) := by decide +kernel
theorem dL_tenths_8 : decode cL_tenths 8 = .ok (.iconst 0, 1) := by decide +kernel
theorem dL_tenths_9 : decode cL_tenths 9 = .ok (.invokevirtual 40, 3) := by decide +kernel
theorem dL_tenths_12 : decode cL_tenths 12 = .ok (.if_icmp .ge 71, 3) := by decide +kernel
theorem dL_tenths_15 : decode cL_tenths 15 = .ok (.aload_n 0, 1) := by decide +kernel
theorem dL_tenths_16 : decode cL_tenths 16 = .ok (.iload 4, 2) := by decide +kernel
theorem dL_tenths_18 : decode cL_tenths 18 = .ok (.iconst 2, 1) := by decide +kernel
theorem dL_tenths_19 : decode cL_tenths 19 = .ok (.invokevirtual 56, 3) := by decide +kernel
theorem dL_tenths_22 : decode cL_tenths 22 = .ok (.iload_n 1, 1) := by decide +kernel
theorem dL_tenths_23 : decode cL_tenths 23 = .ok (.if_icmp .eq 6, 3) := by decide +kernel
theorem dL_tenths_26 : decode cL_tenths 26 = .ok (.goto 51, 3) := by decide +kernel
theorem dL_tenths_29 : decode cL_tenths 29 = .ok (.aload_n 0, 1) := by decide +kernel
theorem dL_tenths_30 : decode cL_tenths 30 = .ok (.iload 4, 2) := by decide +kernel
theorem dL_tenths_32 : decode cL_tenths 32 = .ok (.iconst 3, 1) := by decide +kernel
theorem dL_tenths_33 : decode cL_tenths 33 = .ok (.invokevirtual 56, 3) := by decide +kernel
theorem dL_tenths_36 : decode cL_tenths 36 = .ok (.istore 5, 2) := by decide +kernel
theorem dL_tenths_38 : decode cL_tenths 38 = .ok (.iload_n 3, 1) := by decide +kernel
theorem dL_tenths_39 : decode cL_tenths 39 = .ok (.aload_n 0, 1) := by decide +kernel
theorem dL_tenths_40 : decode cL_tenths 40 = .ok (.iload 4, 2) := by decide +kernel
theorem dL_tenths_42 : decode cL_tenths 42 = .ok (.iconst 1, 1) := by decide +kernel
theorem dL_tenths_43 : decode cL_tenths 43 = .ok (.invokevirtual 56, 3) := by decide +kernel
theorem dL_tenths_46 : decode cL_tenths 46 = .ok (.iload 5, 2) := by decide +kernel
theorem dL_tenths_48 : decode cL_tenths 48 = .ok (.bipush 6, 2) := by decide +kernel
theorem dL_tenths_50 : decode cL_tenths 50 = .ok (.if_icmp .ne 7, 3) := by decide +kernel
theorem dL_tenths_53 : decode cL_tenths 53 = .ok (.iconst 5, 1) := by decide +kernel
theorem dL_tenths_54 : decode cL_tenths 54 = .ok (.goto 20, 3) := by decide +kernel
theorem dL_tenths_57 : decode cL_tenths 57 = .ok (.iload_n 2, 1) := by decide +kernel
theorem dL_tenths_58 : decode cL_tenths 58 = .ok (.ifCond .eq 10, 3) := by decide +kernel
theorem dL_tenths_61 : decode cL_tenths 61 = .ok (.iconst 2, 1) := by decide +kernel
theorem dL_tenths_62 : decode cL_tenths 62 = .ok (.iload 5, 2) := by decide +kernel
theorem dL_tenths_64 : decode cL_tenths 64 = .ok (.imul, 1) := by decide +kernel
theorem dL_tenths_65 : decode cL_tenths 65 = .ok (.goto 9, 3) := by decide +kernel
theorem dL_tenths_68 : decode cL_tenths 68 = .ok (.iconst 2, 1) := by decide +kernel
theorem dL_tenths_69 : decode cL_tenths 69 = .ok (.iconst 5, 1) := by decide +kernel
theorem dL_tenths_70 : decode cL_tenths 70 = .ok (.iload 5, 2) := by decide +kernel
theorem dL_tenths_72 : decode cL_tenths 72 = .ok (.isub, 1) := by decide +kernel
theorem dL_tenths_73 : decode cL_tenths 73 = .ok (.imul, 1) := by decide +kernel
theorem dL_tenths_74 : decode cL_tenths 74 = .ok (.imul, 1) := by decide +kernel
theorem dL_tenths_75 : decode cL_tenths 75 = .ok (.iadd, 1) := by decide +kernel
theorem dL_tenths_76 : decode cL_tenths 76 = .ok (.istore_n 3, 1) := by decide +kernel
theorem dL_tenths_77 : decode cL_tenths 77 = .ok (.iinc 4 1, 3) := by decide +kernel
theorem dL_tenths_80 : decode cL_tenths 80 = .ok (.goto (-75), 3) := by decide +kernel
theorem dL_tenths_83 : decode cL_tenths 83 = .ok (.iload_n 3, 1) := by decide +kernel
theorem dL_tenths_84 : decode cL_tenths 84 = .ok (.ireturn, 1) := by decide +kernel
theorem dL_premises_0 : decode cL_premises 0 = .ok (.iconst 0, 1) := by decide +kernel
theorem dL_premises_1 : decode cL_premises 1 = .ok (.istore_n 3, 1) := by decide +kernel
theorem dL_premises_2 : decode cL_premises 2 = .ok (.iconst 0, 1) := by decide +kernel
theorem dL_premises_3 : decode cL_premises 3 = .ok (.istore 4, 2) := by decide +kernel
theorem dL_premises_5 : decode cL_premises 5 = .ok (.iload 4, 2) := by decide +kernel
theorem dL_premises_7 : decode cL_premises 7 = .ok (.bipush 6, 2) := by decide +kernel
theorem dL_premises_9 : decode cL_premises 9 = .ok (.if_icmp .ge 46, 3) := by decide +kernel
theorem dL_premises_12 : decode cL_premises 12 = .ok (.iload_n 3, 1) := by decide +kernel
theorem dL_premises_13 : decode cL_premises 13 = .ok (.aload_n 0, 1) := by decide +kernel
theorem dL_premises_14 : decode cL_premises 14 = .ok (.iload_n 1, 1) := by decide +kernel
theorem dL_premises_15 : decode cL_premises 15 = .ok (.iload 4, 2) := by decide +kernel
theorem dL_premises_17 : decode cL_premises 17 = .ok (.invokevirtual 59, 3) := by decide +kernel
theorem dL_premises_20 : decode cL_premises 20 = .ok (.ifCond .ge 7, 3) := by decide +kernel
theorem dL_premises_23 : decode cL_premises 23 = .ok (.iconst 0, 1) := by decide +kernel
theorem dL_premises_24 : decode cL_premises 24 = .ok (.goto 23, 3) := by decide +kernel
theorem dL_premises_27 : decode cL_premises 27 = .ok (.iload_n 2, 1) := by decide +kernel
theorem dL_premises_28 : decode cL_premises 28 = .ok (.ifCond .eq 18, 3) := by decide +kernel
theorem dL_premises_31 : decode cL_premises 31 = .ok (.aload_n 0, 1) := by decide +kernel
theorem dL_premises_32 : decode cL_premises 32 = .ok (.aload_n 0, 1) := by decide +kernel
theorem dL_premises_33 : decode cL_premises 33 = .ok (.iload_n 1, 1) := by decide +kernel
theorem dL_premises_34 : decode cL_premises 34 = .ok (.iload 4, 2) := by decide +kernel
theorem dL_premises_36 : decode cL_premises 36 = .ok (.invokevirtual 59, 3) := by decide +kernel
theorem dL_premises_39 : decode cL_premises 39 = .ok (.iconst 1, 1) := by decide +kernel
theorem dL_premises_40 : decode cL_premises 40 = .ok (.invokevirtual 56, 3) := by decide +kernel
theorem dL_premises_43 : decode cL_premises 43 = .ok (.goto 4, 3) := by decide +kernel
theorem dL_premises_46 : decode cL_premises 46 = .ok (.iconst 1, 1) := by decide +kernel
theorem dL_premises_47 : decode cL_premises 47 = .ok (.iadd, 1) := by decide +kernel
theorem dL_premises_48 : decode cL_premises 48 = .ok (.istore_n 3, 1) := by decide +kernel
theorem dL_premises_49 : decode cL_premises 49 = .ok (.iinc 4 1, 3) := by decide +kernel
theorem dL_premises_52 : decode cL_premises 52 = .ok (.goto (-47), 3) := by decide +kernel
theorem dL_premises_55 : decode cL_premises 55 = .ok (.iload_n 3, 1) := by decide +kernel
theorem dL_premises_56 : decode cL_premises 56 = .ok (.ireturn, 1) := by decide +kernel
theorem dL_top_0 : decode cL_top 0 = .ok (.aload_n 0, 1) := by decide +kernel
theorem dL_top_1 : decode cL_top 1 = .ok (.iload_n 1, 1) := by decide +kernel
theorem dL_top_2 : decode cL_top 2 = .ok (.bipush 6, 2) := by decide +kernel
theorem dL_top_4 : decode cL_top 4 = .ok (.invokevirtual 59, 3) := by decide +kernel
theorem dL_top_7 : decode cL_top 7 = .ok (.ifCond .ge 7, 3) := by decide +kernel
theorem dL_top_10 : decode cL_top 10 = .ok (.iconst 0, 1) := by decide +kernel
theorem dL_top_11 : decode cL_top 11 = .ok (.goto 15, 3) := by decide +kernel
theorem dL_top_14 : decode cL_top 14 = .ok (.aload_n 0, 1) := by decide +kernel
theorem dL_top_15 : decode cL_top 15 = .ok (.aload_n 0, 1) := by decide +kernel
theorem dL_top_16 : decode cL_top 16 = .ok (.iload_n 1, 1) := by decide +kernel
theorem dL_top_17 : decode cL_top 17 = .ok (.bipush 6, 2) := by decide +kernel
theorem dL_top_19 : decode cL_top 19 = .ok (.invokevirtual 59, 3) := by decide +kernel
theorem dL_top_22 : decode cL_top 22 = .ok (.iconst 1, 1) := by decide +kernel
theorem dL_top_23 : decode cL_top 23 = .ok (.invokevirtual 56, 3) := by decide +kernel
theorem dL_top_26 : decode cL_top 26 = .ok (.ireturn, 1) := by decide +kernel
theorem dL_least_0 : decode cL_least 0 = .ok (.iload_n 1, 1) := by decide +kernel
theorem dL_least_1 : decode cL_least 1 = .ok (.aload_n 0, 1) := by decide +kernel
theorem dL_least_2 : decode cL_least 2 = .ok (.arraylength, 1) := by decide +kernel
theorem dL_least_3 : decode cL_least 3 = .ok (.if_icmp .ne 8, 3) := by decide +kernel
theorem dL_least_6 : decode cL_least 6 = .ok (.iload_n 3, 1) := by decide +kernel
theorem dL_least_7 : decode cL_least 7 = .ok (.invokestatic 62, 3) := by decide +kernel
theorem dL_least_10 : decode cL_least 10 = .ok (.ireturn, 1) := by decide +kernel
theorem dL_least_11 : decode cL_least 11 = .ok (.ldc 67, 2) := by decide +kernel
theorem dL_least_13 : decode cL_least 13 = .ok (.istore 4, 2) := by decide +kernel
theorem dL_least_15 : decode cL_least 15 = .ok (.iconst 0, 1) := by decide +kernel
theorem dL_least_16 : decode cL_least 16 = .ok (.istore 5, 2) := by decide +kernel
theorem dL_least_18 : decode cL_least 18 = .ok (.iload 5, 2) := by decide +kernel
theorem dL_least_20 : decode cL_least 20 = .ok (.bipush 6, 2) := by decide +kernel
theorem dL_least_22 : decode cL_least 22 = .ok (.if_icmp .ge 51, 3) := by decide +kernel
theorem dL_least_25 : decode cL_least 25 = .ok (.iload_n 2, 1) := by decide +kernel
theorem dL_least_26 : decode cL_least 26 = .ok (.iload 5, 2) := by decide +kernel
theorem dL_least_28 : decode cL_least 28 = .ok (.ishr, 1) := by decide +kernel
theorem dL_least_29 : decode cL_least 29 = .ok (.iconst 1, 1) := by decide +kernel
theorem dL_least_30 : decode cL_least 30 = .ok (.iand, 1) := by decide +kernel
theorem dL_least_31 : decode cL_least 31 = .ok (.ifCond .ne 36, 3) := by decide +kernel
theorem dL_least_34 : decode cL_least 34 = .ok (.iload 4, 2) := by decide +kernel
theorem dL_least_36 : decode cL_least 36 = .ok (.aload_n 0, 1) := by decide +kernel
theorem dL_least_37 : decode cL_least 37 = .ok (.iload_n 1, 1) := by decide +kernel
theorem dL_least_38 : decode cL_least 38 = .ok (.iconst 1, 1) := by decide +kernel
theorem dL_least_39 : decode cL_least 39 = .ok (.iadd, 1) := by decide +kernel
theorem dL_least_40 : decode cL_least 40 = .ok (.iload_n 2, 1) := by decide +kernel
theorem dL_least_41 : decode cL_least 41 = .ok (.iconst 1, 1) := by decide +kernel
theorem dL_least_42 : decode cL_least 42 = .ok (.iload 5, 2) := by decide +kernel
theorem dL_least_44 : decode cL_least 44 = .ok (.ishl, 1) := by decide +kernel
theorem dL_least_45 : decode cL_least 45 = .ok (.ior, 1) := by decide +kernel
theorem dL_least_46 : decode cL_least 46 = .ok (.iload_n 3, 1) := by decide +kernel
theorem dL_least_47 : decode cL_least 47 = .ok (.aload_n 0, 1) := by decide +kernel
theorem dL_least_48 : decode cL_least 48 = .ok (.iload_n 1, 1) := by decide +kernel
theorem dL_least_49 : decode cL_least 49 = .ok (.iaload, 1) := by decide +kernel
theorem dL_least_50 : decode cL_least 50 = .ok (.bipush 10, 2) := by decide +kernel
theorem dL_least_52 : decode cL_least 52 = .ok (.iconst 4, 1) := by decide +kernel
theorem dL_least_53 : decode cL_least 53 = .ok (.iload 5, 2) := by decide +kernel
theorem dL_least_55 : decode cL_least 55 = .ok (.imul, 1) := by decide +kernel
theorem dL_least_56 : decode cL_least 56 = .ok (.isub, 1) := by decide +kernel
theorem dL_least_57 : decode cL_least 57 = .ok (.imul, 1) := by decide +kernel
theorem dL_least_58 : decode cL_least 58 = .ok (.iadd, 1) := by decide +kernel
theorem dL_least_59 : decode cL_least 59 = .ok (.invokestatic 68, 3) := by decide +kernel
theorem dL_least_62 : decode cL_least 62 = .ok (.invokestatic 72, 3) := by decide +kernel
theorem dL_least_65 : decode cL_least 65 = .ok (.istore 4, 2) := by decide +kernel
theorem dL_least_67 : decode cL_least 67 = .ok (.iinc 5 1, 3) := by decide +kernel
theorem dL_least_70 : decode cL_least 70 = .ok (.goto (-52), 3) := by decide +kernel
theorem dL_least_73 : decode cL_least 73 = .ok (.iload 4, 2) := by decide +kernel
theorem dL_least_75 : decode cL_least 75 = .ok (.ireturn, 1) := by decide +kernel
theorem dL_isLine_0 : decode cL_isLine 0 = .ok (.iload_n 1, 1) := by decide +kernel
theorem dL_isLine_1 : decode cL_isLine 1 = .ok (.aload_n 2, 1) := by decide +kernel
theorem dL_isLine_2 : decode cL_isLine 2 = .ok (.invokevirtual 75, 3) := by decide +kernel
theorem dL_isLine_5 : decode cL_isLine 5 = .ok (.if_icmp .eq 5, 3) := by decide +kernel
theorem dL_isLine_8 : decode cL_isLine 8 = .ok (.iconst 0, 1) := by decide +kernel
theorem dL_isLine_9 : decode cL_isLine 9 = .ok (.ireturn, 1) := by decide +kernel
theorem dL_isLine_10 : decode cL_isLine 10 = .ok (.iconst 0, 1) := by decide +kernel
theorem dL_isLine_11 : decode cL_isLine 11 = .ok (.istore_n 3, 1) := by decide +kernel
theorem dL_isLine_12 : decode cL_isLine 12 = .ok (.iload_n 3, 1) := by decide +kernel
theorem dL_isLine_13 : decode cL_isLine 13 = .ok (.iload_n 1, 1) := by decide +kernel
theorem dL_isLine_14 : decode cL_isLine 14 = .ok (.if_icmp .ge 24, 3) := by decide +kernel
theorem dL_isLine_17 : decode cL_isLine 17 = .ok (.aload_n 0, 1) := by decide +kernel
theorem dL_isLine_18 : decode cL_isLine 18 = .ok (.iload_n 3, 1) := by decide +kernel
theorem dL_isLine_19 : decode cL_isLine 19 = .ok (.invokevirtual 81, 3) := by decide +kernel
theorem dL_isLine_22 : decode cL_isLine 22 = .ok (.aload_n 2, 1) := by decide +kernel
theorem dL_isLine_23 : decode cL_isLine 23 = .ok (.iload_n 3, 1) := by decide +kernel
theorem dL_isLine_24 : decode cL_isLine 24 = .ok (.invokevirtual 84, 3) := by decide +kernel
theorem dL_isLine_27 : decode cL_isLine 27 = .ok (.if_icmp .eq 5, 3) := by decide +kernel
theorem dL_isLine_30 : decode cL_isLine 30 = .ok (.iconst 0, 1) := by decide +kernel
theorem dL_isLine_31 : decode cL_isLine 31 = .ok (.ireturn, 1) := by decide +kernel
theorem dL_isLine_32 : decode cL_isLine 32 = .ok (.iinc 3 1, 3) := by decide +kernel
theorem dL_isLine_35 : decode cL_isLine 35 = .ok (.goto (-23), 3) := by decide +kernel
theorem dL_isLine_38 : decode cL_isLine 38 = .ok (.iconst 1, 1) := by decide +kernel
theorem dL_isLine_39 : decode cL_isLine 39 = .ok (.ireturn, 1) := by decide +kernel
theorem dL_law_0 : decode cL_law 0 = .ok (.new 18, 3) := by decide +kernel
theorem dL_law_3 : decode cL_law 3 = .ok (.dup, 1) := by decide +kernel
theorem dL_law_4 : decode cL_law 4 = .ok (.invokespecial 88, 3) := by decide +kernel
theorem dL_law_7 : decode cL_law 7 = .ok (.astore_n 1, 1) := by decide +kernel
theorem dL_law_8 : decode cL_law 8 = .ok (.aload_n 1, 1) := by decide +kernel
theorem dL_law_9 : decode cL_law 9 = .ok (.aload_n 0, 1) := by decide +kernel
theorem dL_law_10 : decode cL_law 10 = .ok (.invokestatic 89, 3) := by decide +kernel
theorem dL_law_13 : decode cL_law 13 = .ok (.iconst 0, 1) := by decide +kernel
theorem dL_law_14 : decode cL_law 14 = .ok (.istore_n 2, 1) := by decide +kernel
theorem dL_law_15 : decode cL_law 15 = .ok (.iload_n 2, 1) := by decide +kernel
theorem dL_law_16 : decode cL_law 16 = .ok (.iconst 3, 1) := by decide +kernel
theorem dL_law_17 : decode cL_law 17 = .ok (.if_icmp .ge 1494, 3) := by decide +kernel
theorem dL_law_20 : decode cL_law 20 = .ok (.aload_n 1, 1) := by decide +kernel
theorem dL_law_21 : decode cL_law 21 = .ok (.iconst 0, 1) := by decide +kernel
theorem dL_law_22 : decode cL_law 22 = .ok (.invokevirtual 40, 3) := by decide +kernel
theorem dL_law_25 : decode cL_law 25 = .ok (.istore_n 3, 1) := by decide +kernel
theorem dL_law_26 : decode cL_law 26 = .ok (.aload_n 1, 1) := by decide +kernel
theorem dL_law_27 : decode cL_law 27 = .ok (.iconst 4, 1) := by decide +kernel
theorem dL_law_28 : decode cL_law 28 = .ok (.invokevirtual 40, 3) := by decide +kernel
theorem dL_law_31 : decode cL_law 31 = .ok (.istore 4, 2) := by decide +kernel
theorem dL_law_33 : decode cL_law 33 = .ok (.iconst 0, 1) := by decide +kernel
theorem dL_law_34 : decode cL_law 34 = .ok (.istore 5, 2) := by decide +kernel
theorem dL_law_36 : decode cL_law 36 = .ok (.iconst 0, 1) := by decide +kernel
theorem dL_law_37 : decode cL_law 37 = .ok (.istore 6, 2) := by decide +kernel
theorem dL_law_39 : decode cL_law 39 = .ok (.iconst 0, 1) := by decide +kernel
theorem dL_law_40 : decode cL_law 40 = .ok (.istore 7, 2) := by decide +kernel
theorem dL_law_42 : decode cL_law 42 = .ok (.iconst 0, 1) := by decide +kernel
theorem dL_law_43 : decode cL_law 43 = .ok (.istore 8, 2) := by decide +kernel
theorem dL_law_45 : decode cL_law 45 = .ok (.iconst 0, 1) := by decide +kernel
theorem dL_law_46 : decode cL_law 46 = .ok (.istore 9, 2) := by decide +kernel
theorem dL_law_48 : decode cL_law 48 = .ok (.iconst 0, 1) := by decide +kernel
theorem dL_law_49 : decode cL_law 49 = .ok (.istore 10, 2) := by decide +kernel
theorem dL_law_51 : decode cL_law 51 = .ok (.iconst 0, 1) := by decide +kernel
theorem dL_law_52 : decode cL_law 52 = .ok (.istore 11, 2) := by decide +kernel
theorem dL_law_54 : decode cL_law 54 = .ok (.iconst 0, 1) := by decide +kernel
theorem dL_law_55 : decode cL_law 55 = .ok (.istore 12, 2) := by decide +kernel
theorem dL_law_57 : decode cL_law 57 = .ok (.iload 12, 2) := by decide +kernel
theorem dL_law_59 : decode cL_law 59 = .ok (.iload_n 3, 1) := by decide +kernel
theorem dL_law_60 : decode cL_law 60 = .ok (.if_icmp .ge 129, 3) := by decide +kernel
theorem dL_law_63 : decode cL_law 63 = .ok (.aload_n 1, 1) := by decide +kernel
theorem dL_law_64 : decode cL_law 64 = .ok (.iload 12, 2) := by decide +kernel
theorem dL_law_66 : decode cL_law 66 = .ok (.iconst 2, 1) := by decide +kernel
theorem dL_law_67 : decode cL_law 67 = .ok (.invokevirtual 56, 3) := by decide +kernel
theorem dL_law_70 : decode cL_law 70 = .ok (.istore 13, 2) := by decide +kernel
theorem dL_law_72 : decode cL_law 72 = .ok (.aload_n 1, 1) := by decide +kernel
theorem dL_law_73 : decode cL_law 73 = .ok (.iload 12, 2) := by decide +kernel
theorem dL_law_75 : decode cL_law 75 = .ok (.iconst 3, 1) := by decide +kernel
theorem dL_law_76 : decode cL_law 76 = .ok (.invokevirtual 56, 3) := by decide +kernel
theorem dL_law_79 : decode cL_law 79 = .ok (.istore 14, 2) := by decide +kernel
theorem dL_law_81 : decode cL_law 81 = .ok (.iload 5, 2) := by decide +kernel
theorem dL_law_83 : decode cL_law 83 = .ok (.iconst 1, 1) := by decide +kernel
theorem dL_law_84 : decode cL_law 84 = .ok (.aload_n 1, 1) := by decide +kernel
theorem dL_law_85 : decode cL_law 85 = .ok (.iload 12, 2) := by decide +kernel
theorem dL_law_87 : decode cL_law 87 = .ok (.iconst 0, 1) := by decide +kernel
theorem dL_law_88 : decode cL_law 88 = .ok (.invokevirtual 56, 3) := by decide +kernel
theorem dL_law_91 : decode cL_law 91 = .ok (.isub, 1) := by decide +kernel
theorem dL_law_92 : decode cL_law 92 = .ok (.iadd, 1) := by decide +kernel
theorem dL_law_93 : decode cL_law 93 = .ok (.istore 5, 2) := by decide +kernel
theorem dL_law_95 : decode cL_law 95 = .ok (.iload 8, 2) := by decide +kernel
theorem dL_law_97 : decode cL_law 97 = .ok (.aload_n 1, 1) := by decide +kernel
theorem dL_law_98 : decode cL_law 98 = .ok (.iload 12, 2) := by decide +kernel
theorem dL_law_100 : decode cL_law 100 = .ok (.iconst 1, 1) := by decide +kernel
theorem dL_law_101 : decode cL_law 101 = .ok (.invokevirtual 56, 3) := by decide +kernel
theorem dL_law_104 : decode cL_law 104 = .ok (.iadd, 1) := by decide +kernel
theorem dL_law_105 : decode cL_law 105 = .ok (.istore 8, 2) := by decide +kernel
theorem dL_law_107 : decode cL_law 107 = .ok (.iload 6, 2) := by decide +kernel
theorem dL_law_109 : decode cL_law 109 = .ok (.iload 13, 2) := by decide +kernel
theorem dL_law_111 : decode cL_law 111 = .ok (.ifCond .lt 7, 3) := by decide +kernel
theorem dL_law_114 : decode cL_law 114 = .ok (.iconst 1, 1) := by decide +kernel
theorem dL_law_115 : decode cL_law 115 = .ok (.goto 4, 3) := by decide +kernel
theorem dL_law_118 : decode cL_law 118 = .ok (.iconst 0, 1) := by decide +kernel
theorem dL_law_119 : decode cL_law 119 = .ok (.iadd, 1) := by decide +kernel
theorem dL_law_120 : decode cL_law 120 = .ok (.istore 6, 2) := by decide +kernel
theorem dL_law_122 : decode cL_law 122 = .ok (.iload 13, 2) := by decide +kernel
theorem dL_law_124 : decode cL_law 124 = .ok (.ifCond .ge 13, 3) := by decide +kernel
theorem dL_law_127 : decode cL_law 127 = .ok (.iload 14, 2) := by decide +kernel
theorem dL_law_129 : decode cL_law 129 = .ok (.bipush (-4), 2) := by decide +kernel
theorem dL_law_131 : decode cL_law 131 = .ok (.if_icmp .eq 52, 3) := by decide +kernel
theorem dL_law_134 : decode cL_law 134 = .ok (.goto 47, 3) := by decide +kernel
theorem dL_law_137 : decode cL_law 137 = .ok (.aload_n 1, 1) := by decide +kernel
theorem dL_law_138 : decode cL_law 138 = .ok (.iload 13, 2) := by decide +kernel
theorem dL_law_140 : decode cL_law 140 = .ok (.iload 14, 2) := by decide +kernel
theorem dL_law_142 : decode cL_law 142 = .ok (.invokevirtual 59, 3) := by decide +kernel
theorem dL_law_145 : decode cL_law 145 = .ok (.iload 12, 2) := by decide +kernel
theorem dL_law_147 : decode cL_law 147 = .ok (.if_icmp .ne 34, 3) := by decide +kernel
theorem dL_law_150 : decode cL_law 150 = .ok (.iload 14, 2) := by decide +kernel
theorem dL_law_152 : decode cL_law 152 = .ok (.bipush 6, 2) := by decide +kernel
theorem dL_law_154 : decode cL_law 154 = .ok (.if_icmp .ne 7, 3) := by decide +kernel
theorem dL_law_157 : decode cL_law 157 = .ok (.iconst 1, 1) := by decide +kernel
theorem dL_law_158 : decode cL_law 158 = .ok (.goto 4, 3) := by decide +kernel
theorem dL_law_161 : decode cL_law 161 = .ok (.iconst 0, 1) := by decide +kernel
theorem dL_law_162 : decode cL_law 162 = .ok (.aload_n 1, 1) := by decide +kernel
theorem dL_law_163 : decode cL_law 163 = .ok (.iload 12, 2) := by decide +kernel
theorem dL_law_165 : decode cL_law 165 = .ok (.iconst 0, 1) := by decide +kernel
theorem dL_law_166 : decode cL_law 166 = .ok (.invokevirtual 56, 3) := by decide +kernel
theorem dL_law_169 : decode cL_law 169 = .ok (.iconst 1, 1) := by decide +kernel
theorem dL_law_170 : decode cL_law 170 = .ok (.if_icmp .ne 7, 3) := by decide +kernel
theorem dL_law_173 : decode cL_law 173 = .ok (.iconst 1, 1) := by decide +kernel
theorem dL_law_174 : decode cL_law 174 = .ok (.goto 4, 3) := by decide +kernel
theorem dL_law_177 : decode cL_law 177 = .ok (.iconst 0, 1) := by decide +kernel
theorem dL_law_178 : decode cL_law 178 = .ok (.if_icmp .eq 5, 3) := by decide +kernel
theorem dL_law_181 : decode cL_law 181 = .ok (.iconst 0, 1) := by decide +kernel
theorem dL_law_182 : decode cL_law 182 = .ok (.ireturn, 1) := by decide +kernel
theorem dL_law_183 : decode cL_law 183 = .ok (.iinc 12 1, 3) := by decide +kernel
theorem dL_law_186 : decode cL_law 186 = .ok (.goto (-129), 3) := by decide +kernel
theorem dL_law_189 : decode cL_law 189 = .ok (.iconst 0, 1) := by decide +kernel
theorem dL_law_190 : decode cL_law 190 = .ok (.istore 12, 2) := by decide +kernel
theorem dL_law_192 : decode cL_law 192 = .ok (.iload 12, 2) := by decide +kernel
theorem dL_law_194 : decode cL_law 194 = .ok (.iload 4, 2) := by decide +kernel
theorem dL_law_196 : decode cL_law 196 = .ok (.if_icmp .ge 803, 3) := by decide +kernel
theorem dL_law_199 : decode cL_law 199 = .ok (.aload_n 1, 1) := by decide +kernel
theorem dL_law_200 : decode cL_law 200 = .ok (.iload 12, 2) := by decide +kernel
theorem dL_law_202 : decode cL_law 202 = .ok (.iconst 0, 1) := by decide +kernel
theorem dL_law_203 : decode cL_law 203 = .ok (.invokestatic 93, 3) := by decide +kernel
theorem dL_law_206 : decode cL_law 206 = .ok (.istore 13, 2) := by decide +kernel
theorem dL_law_208 : decode cL_law 208 = .ok (.aload_n 1, 1) := by decide +kernel
theorem dL_law_209 : decode cL_law 209 = .ok (.iload 12, 2) := by decide +kernel
theorem dL_law_211 : decode cL_law 211 = .ok (.iconst 1, 1) := by decide +kernel
theorem dL_law_212 : decode cL_law 212 = .ok (.invokestatic 93, 3) := by decide +kernel
theorem dL_law_215 : decode cL_law 215 = .ok (.istore 14, 2) := by decide +kernel
theorem dL_law_217 : decode cL_law 217 = .ok (.aload_n 1, 1) := by decide +kernel
theorem dL_law_218 : decode cL_law 218 = .ok (.iload 12, 2) := by decide +kernel
theorem dL_law_220 : decode cL_law 220 = .ok (.iconst 0, 1) := by decide +kernel
theorem dL_law_221 : decode cL_law 221 = .ok (.invokestatic 97, 3) := by decide +kernel
theorem dL_law_224 : decode cL_law 224 = .ok (.istore 15, 2) := by decide +kernel
theorem dL_law_226 : decode cL_law 226 = .ok (.aload_n 1, 1) := by decide +kernel
theorem dL_law_227 : decode cL_law 227 = .ok (.iload 12, 2) := by decide +kernel
theorem dL_law_229 : decode cL_law 229 = .ok (.iconst 1, 1) := by decide +kernel
theorem dL_law_230 : decode cL_law 230 = .ok (.invokestatic 97, 3) := by decide +kernel
theorem dL_law_233 : decode cL_law 233 = .ok (.istore 16, 2) := by decide +kernel
theorem dL_law_235 : decode cL_law 235 = .ok (.iload 16, 2) := by decide +kernel
theorem dL_law_237 : decode cL_law 237 = .ok (.aload_n 1, 1) := by decide +kernel
theorem dL_law_238 : decode cL_law 238 = .ok (.iload 12, 2) := by decide +kernel
theorem dL_law_240 : decode cL_law 240 = .ok (.invokestatic 100, 3) := by decide +kernel
theorem dL_law_243 : decode cL_law 243 = .ok (.iadd, 1) := by decide +kernel
theorem dL_law_244 : decode cL_law 244 = .ok (.istore 17, 2) := by decide +kernel
theorem dL_law_246 : decode cL_law 246 = .ok (.iconst 0, 1) := by decide +kernel
theorem dL_law_247 : decode cL_law 247 = .ok (.istore 18, 2) := by decide +kernel
theorem dL_law_249 : decode cL_law 249 = .ok (.bipush (-4), 2) := by decide +kernel
theorem dL_law_251 : decode cL_law 251 = .ok (.istore 19, 2) := by decide +kernel
theorem dL_law_253 : decode cL_law 253 = .ok (.iload 15, 2) := by decide +kernel
theorem dL_law_255 : decode cL_law 255 = .ok (.newarray .int, 2) := by decide +kernel
theorem dL_law_257 : decode cL_law 257 = .ok (.astore 20, 2) := by decide +kernel
theorem dL_law_259 : decode cL_law 259 = .ok (.new 104, 3) := by decide +kernel
theorem dL_law_262 : decode cL_law 262 = .ok (.dup, 1) := by decide +kernel
theorem dL_law_263 : decode cL_law 263 = .ok (.invokespecial 106, 3) := by decide +kernel
theorem dL_law_266 : decode cL_law 266 = .ok (.iload 12, 2) := by decide +kernel
theorem dL_law_268 : decode cL_law 268 = .ok (.invokevirtual 107, 3) := by decide +kernel
theorem dL_law_271 : decode cL_law 271 = .ok (.ldc 111, 2) := by decide +kernel
theorem dL_law_273 : decode cL_law 273 = .ok (.invokevirtual 113, 3) := by decide +kernel
theorem dL_law_276 : decode cL_law 276 = .ok (.invokevirtual 116, 3) := by decide +kernel
theorem dL_law_279 : decode cL_law 279 = .ok (.astore 21, 2) := by decide +kernel
theorem dL_law_281 : decode cL_law 281 = .ok (.iconst 0, 1) := by decide +kernel
theorem dL_law_282 : decode cL_law 282 = .ok (.istore 22, 2) := by decide +kernel
theorem dL_law_284 : decode cL_law 284 = .ok (.iconst 0, 1) := by decide +kernel
theorem dL_law_285 : decode cL_law 285 = .ok (.istore 23, 2) := by decide +kernel
theorem dL_law_287 : decode cL_law 287 = .ok (.iload 23, 2) := by decide +kernel
theorem dL_law_289 : decode cL_law 289 = .ok (.bipush 6, 2) := by decide +kernel
theorem dL_law_291 : decode cL_law 291 = .ok (.if_icmp .ge 104, 3) := by decide +kernel
theorem dL_law_294 : decode cL_law 294 = .ok (.aload_n 1, 1) := by decide +kernel
theorem dL_law_295 : decode cL_law 295 = .ok (.iload 12, 2) := by decide +kernel
theorem dL_law_297 : decode cL_law 297 = .ok (.iload 23, 2) := by decide +kernel
theorem dL_law_299 : decode cL_law 299 = .ok (.invokevirtual 59, 3) := by decide +kernel
theorem dL_law_302 : decode cL_law 302 = .ok (.istore 24, 2) := by decide +kernel
theorem dL_law_304 : decode cL_law 304 = .ok (.new 104, 3) := by decide +kernel
theorem dL_law_307 : decode cL_law 307 = .ok (.dup, 1) := by decide +kernel
theorem dL_law_308 : decode cL_law 308 = .ok (.invokespecial 106, 3) := by decide +kernel
theorem dL_law_311 : decode cL_law 311 = .ok (.aload 21, 2) := by decide +kernel
theorem dL_law_313 : decode cL_law 313 = .ok (.invokevirtual 113, 3) := by decide +kernel
theorem dL_law_316 : decode cL_law 316 = .ok (.iload 23, 2) := by decide +kernel
theorem dL_law_318 : decode cL_law 318 = .ok (.ifCond .le 8, 3) := by decide +kernel
theorem dL_law_321 : decode cL_law 321 = .ok (.ldc 120, 2) := by decide +kernel
theorem dL_law_323 : decode cL_law 323 = .ok (.goto 5, 3) := by decide +kernel
theorem dL_law_326 : decode cL_law 326 = .ok (.ldc 122, 2) := by decide +kernel
theorem dL_law_328 : decode cL_law 328 = .ok (.invokevirtual 113, 3) := by decide +kernel
theorem dL_law_331 : decode cL_law 331 = .ok (.iload 24, 2) := by decide +kernel
theorem dL_law_333 : decode cL_law 333 = .ok (.ifCond .ge 8, 3) := by decide +kernel
theorem dL_law_336 : decode cL_law 336 = .ok (.ldc 124, 2) := by decide +kernel
theorem dL_law_338 : decode cL_law 338 = .ok (.goto 23, 3) := by decide +kernel
theorem dL_law_341 : decode cL_law 341 = .ok (.new 104, 3) := by decide +kernel
theorem dL_law_344 : decode cL_law 344 = .ok (.dup, 1) := by decide +kernel
theorem dL_law_345 : decode cL_law 345 = .ok (.invokespecial 106, 3) := by decide +kernel
theorem dL_law_348 : decode cL_law 348 = .ok (.ldc 122, 2) := by decide +kernel
theorem dL_law_350 : decode cL_law 350 = .ok (.invokevirtual 113, 3) := by decide +kernel
theorem dL_law_353 : decode cL_law 353 = .ok (.iload 24, 2) := by decide +kernel
theorem dL_law_355 : decode cL_law 355 = .ok (.invokevirtual 107, 3) := by decide +kernel
theorem dL_law_358 : decode cL_law 358 = .ok (.invokevirtual 116, 3) := by decide +kernel
theorem dL_law_361 : decode cL_law 361 = .ok (.invokevirtual 113, 3) := by decide +kernel
theorem dL_law_364 : decode cL_law 364 = .ok (.invokevirtual 116, 3) := by decide +kernel
theorem dL_law_367 : decode cL_law 367 = .ok (.astore 21, 2) := by decide +kernel
theorem dL_law_369 : decode cL_law 369 = .ok (.iload 24, 2) := by decide +kernel
theorem dL_law_371 : decode cL_law 371 = .ok (.ifCond .lt 18, 3) := by decide +kernel
theorem dL_law_374 : decode cL_law 374 = .ok (.aload 20, 2) := by decide +kernel
theorem dL_law_376 : decode cL_law 376 = .ok (.iload 22, 2) := by decide +kernel
theorem dL_law_378 : decode cL_law 378 = .ok (.iinc 22 1, 3) := by decide +kernel
theorem dL_law_381 : decode cL_law 381 = .ok (.aload_n 1, 1) := by decide +kernel
theorem dL_law_382 : decode cL_law 382 = .ok (.iload 24, 2) := by decide +kernel
theorem dL_law_384 : decode cL_law 384 = .ok (.iconst 1, 1) := by decide +kernel
theorem dL_law_385 : decode cL_law 385 = .ok (.invokevirtual 56, 3) := by decide +kernel
theorem dL_law_388 : decode cL_law 388 = .ok (.iastore, 1) := by decide +kernel
theorem dL_law_389 : decode cL_law 389 = .ok (.iinc 23 1, 3) := by decide +kernel
theorem dL_law_392 : decode cL_law 392 = .ok (.goto (-105), 3) := by decide +kernel
theorem dL_law_395 : decode cL_law 395 = .ok (.new 104, 3) := by decide +kernel
theorem dL_law_398 : decode cL_law 398 = .ok (.dup, 1) := by decide +kernel
theorem dL_law_399 : decode cL_law 399 = .ok (.invokespecial 106, 3) := by decide +kernel
theorem dL_law_402 : decode cL_law 402 = .ok (.aload 21, 2) := by decide +kernel
theorem dL_law_404 : decode cL_law 404 = .ok (.invokevirtual 113, 3) := by decide +kernel
theorem dL_law_407 : decode cL_law 407 = .ok (.ldc 126, 2) := by decide +kernel
theorem dL_law_409 : decode cL_law 409 = .ok (.invokevirtual 113, 3) := by decide +kernel
theorem dL_law_412 : decode cL_law 412 = .ok (.aload_n 1, 1) := by decide +kernel
theorem dL_law_413 : decode cL_law 413 = .ok (.iload 12, 2) := by decide +kernel
theorem dL_law_415 : decode cL_law 415 = .ok (.bipush 6, 2) := by decide +kernel
theorem dL_law_417 : decode cL_law 417 = .ok (.invokevirtual 59, 3) := by decide +kernel
theorem dL_law_420 : decode cL_law 420 = .ok (.ifCond .ge 8, 3) := by decide +kernel
theorem dL_law_423 : decode cL_law 423 = .ok (.ldc 122, 2) := by decide +kernel
theorem dL_law_425 : decode cL_law 425 = .ok (.goto 29, 3) := by decide +kernel
theorem dL_law_428 : decode cL_law 428 = .ok (.new 104, 3) := by decide +kernel
theorem dL_law_431 : decode cL_law 431 = .ok (.dup, 1) := by decide +kernel
theorem dL_law_432 : decode cL_law 432 = .ok (.invokespecial 106, 3) := by decide +kernel
theorem dL_law_435 : decode cL_law 435 = .ok (.ldc 128, 2) := by decide +kernel
theorem dL_law_437 : decode cL_law 437 = .ok (.invokevirtual 113, 3) := by decide +kernel
theorem dL_law_440 : decode cL_law 440 = .ok (.aload_n 1, 1) := by decide +kernel
theorem dL_law_441 : decode cL_law 441 = .ok (.iload 12, 2) := by decide +kernel
theorem dL_law_443 : decode cL_law 443 = .ok (.bipush 6, 2) := by decide +kernel
theorem dL_law_445 : decode cL_law 445 = .ok (.invokevirtual 59, 3) := by decide +kernel
theorem dL_law_448 : decode cL_law 448 = .ok (.invokevirtual 107, 3) := by decide +kernel
theorem dL_law_451 : decode cL_law 451 = .ok (.invokevirtual 116, 3) := by decide +kernel
theorem dL_law_454 : decode cL_law 454 = .ok (.invokevirtual 113, 3) := by decide +kernel
theorem dL_law_457 : decode cL_law 457 = .ok (.invokevirtual 116, 3) := by decide +kernel
theorem dL_law_460 : decode cL_law 460 = .ok (.astore 21, 2) := by decide +kernel
theorem dL_law_462 : decode cL_law 462 = .ok (.iload 13, 2) := by decide +kernel
theorem dL_law_464 : decode cL_law 464 = .ok (.i2f, 1) := by decide +kernel
theorem dL_law_465 : decode cL_law 465 = .ok (.ldc 130, 2) := by decide +kernel
theorem dL_law_467 : decode cL_law 467 = .ok (.fdiv, 1) := by decide +kernel
theorem dL_law_468 : decode cL_law 468 = .ok (.aload_n 1, 1) := by decide +kernel
theorem dL_law_469 : decode cL_law 469 = .ok (.iload 12, 2) := by decide +kernel
theorem dL_law_471 : decode cL_law 471 = .ok (.iconst 0, 1) := by decide +kernel
theorem dL_law_472 : decode cL_law 472 = .ok (.invokevirtual 131, 3) := by decide +kernel
theorem dL_law_475 : decode cL_law 475 = .ok (.i2f, 1) := by decide +kernel
theorem dL_law_476 : decode cL_law 476 = .ok (.fcmp .l, 1) := by decide +kernel
theorem dL_law_477 : decode cL_law 477 = .ok (.ifCond .le 7, 3) := by decide +kernel
theorem dL_law_480 : decode cL_law 480 = .ok (.iconst 1, 1) := by decide +kernel
theorem dL_law_481 : decode cL_law 481 = .ok (.goto 4, 3) := by decide +kernel
theorem dL_law_484 : decode cL_law 484 = .ok (.iconst 0, 1) := by decide +kernel
theorem dL_law_485 : decode cL_law 485 = .ok (.istore 23, 2) := by decide +kernel
theorem dL_law_487 : decode cL_law 487 = .ok (.iload 14, 2) := by decide +kernel
theorem dL_law_489 : decode cL_law 489 = .ok (.i2f, 1) := by decide +kernel
theorem dL_law_490 : decode cL_law 490 = .ok (.ldc 130, 2) := by decide +kernel
theorem dL_law_492 : decode cL_law 492 = .ok (.fdiv, 1) := by decide +kernel
theorem dL_law_493 : decode cL_law 493 = .ok (.aload_n 1, 1) := by decide +kernel
theorem dL_law_494 : decode cL_law 494 = .ok (.iload 12, 2) := by decide +kernel
theorem dL_law_496 : decode cL_law 496 = .ok (.iconst 0, 1) := by decide +kernel
theorem dL_law_497 : decode cL_law 497 = .ok (.invokevirtual 131, 3) := by decide +kernel
theorem dL_law_500 : decode cL_law 500 = .ok (.i2f, 1) := by decide +kernel
theorem dL_law_501 : decode cL_law 501 = .ok (.fcmp .l, 1) := by decide +kernel
theorem dL_law_502 : decode cL_law 502 = .ok (.ifCond .le 7, 3) := by decide +kernel
theorem dL_law_505 : decode cL_law 505 = .ok (.iconst 1, 1) := by decide +kernel
theorem dL_law_506 : decode cL_law 506 = .ok (.goto 4, 3) := by decide +kernel
theorem dL_law_509 : decode cL_law 509 = .ok (.iconst 0, 1) := by decide +kernel
theorem dL_law_510 : decode cL_law 510 = .ok (.istore 24, 2) := by decide +kernel
theorem dL_law_512 : decode cL_law 512 = .ok (.iconst 0, 1) := by decide +kernel
theorem dL_law_513 : decode cL_law 513 = .ok (.istore 25, 2) := by decide +kernel
theorem dL_law_515 : decode cL_law 515 = .ok (.iload 25, 2) := by decide +kernel
theorem dL_law_517 : decode cL_law 517 = .ok (.aload_n 1, 1) := by decide +kernel
theorem dL_law_518 : decode cL_law 518 = .ok (.iconst 5, 1) := by decide +kernel
theorem dL_law_519 : decode cL_law 519 = .ok (.invokevirtual 40, 3) := by decide +kernel
theorem dL_law_522 : decode cL_law 522 = .ok (.if_icmp .ge 104, 3) := by decide +kernel
theorem dL_law_525 : decode cL_law 525 = .ok (.iload 17, 2) := by decide +kernel
theorem dL_law_527 : decode cL_law 527 = .ok (.aload_n 1, 1) := by decide +kernel
theorem dL_law_528 : decode cL_law 528 = .ok (.iload 25, 2) := by decide +kernel
theorem dL_law_530 : decode cL_law 530 = .ok (.iconst 0, 1) := by decide +kernel
theorem dL_law_531 : decode cL_law 531 = .ok (.invokevirtual 134, 3) := by decide +kernel
theorem dL_law_534 : decode cL_law 534 = .ok (.if_icmp .le 6, 3) := by decide +kernel
theorem dL_law_537 : decode cL_law 537 = .ok (.goto 83, 3) := by decide +kernel
theorem dL_law_540 : decode cL_law 540 = .ok (.iload 18, 2) := by decide +kernel
theorem dL_law_542 : decode cL_law 542 = .ok (.iconst 1, 1) := by decide +kernel
theorem dL_law_543 : decode cL_law 543 = .ok (.iload 25, 2) := by decide +kernel
theorem dL_law_545 : decode cL_law 545 = .ok (.ishl, 1) := by decide +kernel
theorem dL_law_546 : decode cL_law 546 = .ok (.ior, 1) := by decide +kernel
theorem dL_law_547 : decode cL_law 547 = .ok (.istore 18, 2) := by decide +kernel
theorem dL_law_549 : decode cL_law 549 = .ok (.aload_n 1, 1) := by decide +kernel
theorem dL_law_550 : decode cL_law 550 = .ok (.iload 12, 2) := by decide +kernel
theorem dL_law_552 : decode cL_law 552 = .ok (.bipush 6, 2) := by decide +kernel
theorem dL_law_554 : decode cL_law 554 = .ok (.invokevirtual 59, 3) := by decide +kernel
theorem dL_law_557 : decode cL_law 557 = .ok (.ifCond .ge 6, 3) := by decide +kernel
theorem dL_law_560 : decode cL_law 560 = .ok (.goto 60, 3) := by decide +kernel
theorem dL_law_563 : decode cL_law 563 = .ok (.iload 19, 2) := by decide +kernel
theorem dL_law_565 : decode cL_law 565 = .ok (.ifCond .ge 7, 3) := by decide +kernel
theorem dL_law_568 : decode cL_law 568 = .ok (.iconst (-1), 1) := by decide +kernel
theorem dL_law_569 : decode cL_law 569 = .ok (.goto 18, 3) := by decide +kernel
theorem dL_law_572 : decode cL_law 572 = .ok (.aload_n 1, 1) := by decide +kernel
theorem dL_law_573 : decode cL_law 573 = .ok (.iload 25, 2) := by decide +kernel
theorem dL_law_575 : decode cL_law 575 = .ok (.iconst 2, 1) := by decide +kernel
theorem dL_law_576 : decode cL_law 576 = .ok (.invokevirtual 134, 3) := by decide +kernel
theorem dL_law_579 : decode cL_law 579 = .ok (.aload_n 1, 1) := by decide +kernel
theorem dL_law_580 : decode cL_law 580 = .ok (.iload 19, 2) := by decide +kernel
theorem dL_law_582 : decode cL_law 582 = .ok (.iconst 2, 1) := by decide +kernel
theorem dL_law_583 : decode cL_law 583 = .ok (.invokevirtual 134, 3) := by decide +kernel
theorem dL_law_586 : decode cL_law 586 = .ok (.isub, 1) := by decide +kernel
theorem dL_law_587 : decode cL_law 587 = .ok (.istore 26, 2) := by decide +kernel
theorem dL_law_589 : decode cL_law 589 = .ok (.iload 26, 2) := by decide +kernel
theorem dL_law_591 : decode cL_law 591 = .ok (.ifCond .lt 25, 3) := by decide +kernel
theorem dL_law_594 : decode cL_law 594 = .ok (.iload 26, 2) := by decide +kernel
theorem dL_law_596 : decode cL_law 596 = .ok (.ifCond .ne 24, 3) := by decide +kernel
theorem dL_law_599 : decode cL_law 599 = .ok (.aload_n 1, 1) := by decide +kernel
theorem dL_law_600 : decode cL_law 600 = .ok (.iload 25, 2) := by decide +kernel
theorem dL_law_602 : decode cL_law 602 = .ok (.iconst 1, 1) := by decide +kernel
theorem dL_law_603 : decode cL_law 603 = .ok (.invokevirtual 134, 3) := by decide +kernel
theorem dL_law_606 : decode cL_law 606 = .ok (.aload_n 1, 1) := by decide +kernel
theorem dL_law_607 : decode cL_law 607 = .ok (.iload 19, 2) := by decide +kernel
theorem dL_law_609 : decode cL_law 609 = .ok (.iconst 1, 1) := by decide +kernel
theorem dL_law_610 : decode cL_law 610 = .ok (.invokevirtual 134, 3) := by decide +kernel
theorem dL_law_613 : decode cL_law 613 = .ok (.if_icmp .ge 7, 3) := by decide +kernel
theorem dL_law_616 : decode cL_law 616 = .ok (.iload 25, 2) := by decide +kernel
theorem dL_law_618 : decode cL_law 618 = .ok (.istore 19, 2) := by decide +kernel
theorem dL_law_620 : decode cL_law 620 = .ok (.iinc 25 1, 3) := by decide +kernel
theorem dL_law_623 : decode cL_law 623 = .ok (.goto (-108), 3) := by decide +kernel
theorem dL_law_626 : decode cL_law 626 = .ok (.aload 20, 2) := by decide +kernel
theorem dL_law_628 : decode cL_law 628 = .ok (.iconst 0, 1) := by decide +kernel
theorem dL_law_629 : decode cL_law 629 = .ok (.iconst 0, 1) := by decide +kernel
theorem dL_law_630 : decode cL_law 630 = .ok (.iconst 0, 1) := by decide +kernel
theorem dL_law_631 : decode cL_law 631 = .ok (.invokestatic 68, 3) := by decide +kernel
theorem dL_law_634 : decode cL_law 634 = .ok (.istore 25, 2) := by decide +kernel
theorem dL_law_636 : decode cL_law 636 = .ok (.aload_n 1, 1) := by decide +kernel
theorem dL_law_637 : decode cL_law 637 = .ok (.aload_n 1, 1) := by decide +kernel
theorem dL_law_638 : decode cL_law 638 = .ok (.iload 12, 2) := by decide +kernel
theorem dL_law_640 : decode cL_law 640 = .ok (.invokevirtual 137, 3) := by decide +kernel
theorem dL_law_643 : decode cL_law 643 = .ok (.aload 21, 2) := by decide +kernel
theorem dL_law_645 : decode cL_law 645 = .ok (.invokestatic 140, 3) := by decide +kernel
theorem dL_law_648 : decode cL_law 648 = .ok (.ifCond .eq 271, 3) := by decide +kernel
theorem dL_law_651 : decode cL_law 651 = .ok (.aload_n 1, 1) := by decide +kernel
theorem dL_law_652 : decode cL_law 652 = .ok (.iload 12, 2) := by decide +kernel
theorem dL_law_654 : decode cL_law 654 = .ok (.invokestatic 100, 3) := by decide +kernel
theorem dL_law_657 : decode cL_law 657 = .ok (.iload 16, 2) := by decide +kernel
theorem dL_law_659 : decode cL_law 659 = .ok (.if_icmp .gt 260, 3) := by decide +kernel
theorem dL_law_662 : decode cL_law 662 = .ok (.aload_n 1, 1) := by decide +kernel
theorem dL_law_663 : decode cL_law 663 = .ok (.iload 12, 2) := by decide +kernel
theorem dL_law_665 : decode cL_law 665 = .ok (.iconst 1, 1) := by decide +kernel
theorem dL_law_666 : decode cL_law 666 = .ok (.invokevirtual 131, 3) := by decide +kernel
theorem dL_law_669 : decode cL_law 669 = .ok (.iload 15, 2) := by decide +kernel
theorem dL_law_671 : decode cL_law 671 = .ok (.if_icmp .ne 248, 3) := by decide +kernel
theorem dL_law_674 : decode cL_law 674 = .ok (.aload_n 1, 1) := by decide +kernel
theorem dL_law_675 : decode cL_law 675 = .ok (.iload 12, 2) := by decide +kernel
theorem dL_law_677 : decode cL_law 677 = .ok (.iconst 2, 1) := by decide +kernel
theorem dL_law_678 : decode cL_law 678 = .ok (.invokevirtual 131, 3) := by decide +kernel
theorem dL_law_681 : decode cL_law 681 = .ok (.iload 16, 2) := by decide +kernel
theorem dL_law_683 : decode cL_law 683 = .ok (.if_icmp .ne 236, 3) := by decide +kernel
theorem dL_law_686 : decode cL_law 686 = .ok (.aload_n 1, 1) := by decide +kernel
theorem dL_law_687 : decode cL_law 687 = .ok (.iload 12, 2) := by decide +kernel
theorem dL_law_689 : decode cL_law 689 = .ok (.iconst 3, 1) := by decide +kernel
theorem dL_law_690 : decode cL_law 690 = .ok (.invokevirtual 131, 3) := by decide +kernel
theorem dL_law_693 : decode cL_law 693 = .ok (.aload_n 1, 1) := by decide +kernel
theorem dL_law_694 : decode cL_law 694 = .ok (.iload 12, 2) := by decide +kernel
theorem dL_law_696 : decode cL_law 696 = .ok (.bipush 6, 2) := by decide +kernel
theorem dL_law_698 : decode cL_law 698 = .ok (.invokevirtual 59, 3) := by decide +kernel
theorem dL_law_701 : decode cL_law 701 = .ok (.if_icmp .ne 218, 3) := by decide +kernel
theorem dL_law_704 : decode cL_law 704 = .ok (.aload_n 1, 1) := by decide +kernel
theorem dL_law_705 : decode cL_law 705 = .ok (.iload 12, 2) := by decide +kernel
theorem dL_law_707 : decode cL_law 707 = .ok (.iconst 4, 1) := by decide +kernel
theorem dL_law_708 : decode cL_law 708 = .ok (.invokevirtual 131, 3) := by decide +kernel
theorem dL_law_711 : decode cL_law 711 = .ok (.iload 17, 2) := by decide +kernel
theorem dL_law_713 : decode cL_law 713 = .ok (.if_icmp .ne 206, 3) := by decide +kernel
theorem dL_law_716 : decode cL_law 716 = .ok (.aload_n 1, 1) := by decide +kernel
theorem dL_law_717 : decode cL_law 717 = .ok (.iload 12, 2) := by decide +kernel
theorem dL_law_719 : decode cL_law 719 = .ok (.bipush 6, 2) := by decide +kernel
theorem dL_law_721 : decode cL_law 721 = .ok (.invokevirtual 131, 3) := by decide +kernel
theorem dL_law_724 : decode cL_law 724 = .ok (.iload 13, 2) := by decide +kernel
theorem dL_law_726 : decode cL_law 726 = .ok (.iload 14, 2) := by decide +kernel
theorem dL_law_728 : decode cL_law 728 = .ok (.isub, 1) := by decide +kernel
theorem dL_law_729 : decode cL_law 729 = .ok (.invokestatic 62, 3) := by decide +kernel
theorem dL_law_732 : decode cL_law 732 = .ok (.if_icmp .ne 187, 3) := by decide +kernel
theorem dL_law_735 : decode cL_law 735 = .ok (.aload_n 1, 1) := by decide +kernel
theorem dL_law_736 : decode cL_law 736 = .ok (.iload 12, 2) := by decide +kernel
theorem dL_law_738 : decode cL_law 738 = .ok (.bipush 7, 2) := by decide +kernel
theorem dL_law_740 : decode cL_law 740 = .ok (.invokevirtual 131, 3) := by decide +kernel
theorem dL_law_743 : decode cL_law 743 = .ok (.iload 23, 2) := by decide +kernel
theorem dL_law_745 : decode cL_law 745 = .ok (.ifCond .eq 7, 3) := by decide +kernel
theorem dL_law_748 : decode cL_law 748 = .ok (.iconst 1, 1) := by decide +kernel
theorem dL_law_749 : decode cL_law 749 = .ok (.goto 4, 3) := by decide +kernel
theorem dL_law_752 : decode cL_law 752 = .ok (.iconst 0, 1) := by decide +kernel
theorem dL_law_753 : decode cL_law 753 = .ok (.iload 24, 2) := by decide +kernel
theorem dL_law_755 : decode cL_law 755 = .ok (.ifCond .eq 7, 3) := by decide +kernel
theorem dL_law_758 : decode cL_law 758 = .ok (.iconst 1, 1) := by decide +kernel
theorem dL_law_759 : decode cL_law 759 = .ok (.goto 4, 3) := by decide +kernel
theorem dL_law_762 : decode cL_law 762 = .ok (.iconst 0, 1) := by decide +kernel
theorem dL_law_763 : decode cL_law 763 = .ok (.iadd, 1) := by decide +kernel
theorem dL_law_764 : decode cL_law 764 = .ok (.if_icmp .ne 155, 3) := by decide +kernel
theorem dL_law_767 : decode cL_law 767 = .ok (.aload_n 1, 1) := by decide +kernel
theorem dL_law_768 : decode cL_law 768 = .ok (.iload 12, 2) := by decide +kernel
theorem dL_law_770 : decode cL_law 770 = .ok (.iconst 0, 1) := by decide +kernel
theorem dL_law_771 : decode cL_law 771 = .ok (.invokevirtual 144, 3) := by decide +kernel
theorem dL_law_774 : decode cL_law 774 = .ok (.iload 13, 2) := by decide +kernel
theorem dL_law_776 : decode cL_law 776 = .ok (.if_icmp .ne 143, 3) := by decide +kernel
theorem dL_law_779 : decode cL_law 779 = .ok (.aload_n 1, 1) := by decide +kernel
theorem dL_law_780 : decode cL_law 780 = .ok (.iload 12, 2) := by decide +kernel
theorem dL_law_782 : decode cL_law 782 = .ok (.iconst 1, 1) := by decide +kernel
theorem dL_law_783 : decode cL_law 783 = .ok (.invokevirtual 144, 3) := by decide +kernel
theorem dL_law_786 : decode cL_law 786 = .ok (.iload 14, 2) := by decide +kernel
theorem dL_law_788 : decode cL_law 788 = .ok (.if_icmp .ne 131, 3) := by decide +kernel
theorem dL_law_791 : decode cL_law 791 = .ok (.aload_n 1, 1) := by decide +kernel
theorem dL_law_792 : decode cL_law 792 = .ok (.iload 12, 2) := by decide +kernel
theorem dL_law_794 : decode cL_law 794 = .ok (.iconst 0, 1) := by decide +kernel
theorem dL_law_795 : decode cL_law 795 = .ok (.invokevirtual 147, 3) := by decide +kernel
theorem dL_law_798 : decode cL_law 798 = .ok (.iload 13, 2) := by decide +kernel
theorem dL_law_800 : decode cL_law 800 = .ok (.if_icmp .ne 119, 3) := by decide +kernel
theorem dL_law_803 : decode cL_law 803 = .ok (.aload_n 1, 1) := by decide +kernel
theorem dL_law_804 : decode cL_law 804 = .ok (.iload 12, 2) := by decide +kernel
theorem dL_law_806 : decode cL_law 806 = .ok (.iconst 1, 1) := by decide +kernel
theorem dL_law_807 : decode cL_law 807 = .ok (.invokevirtual 147, 3) := by decide +kernel
theorem dL_law_810 : decode cL_law 810 = .ok (.iload 14, 2) := by decide +kernel
theorem dL_law_812 : decode cL_law 812 = .ok (.if_icmp .ne 107, 3) := by decide +kernel
theorem dL_law_815 : decode cL_law 815 = .ok (.iload 13, 2) := by decide +kernel
theorem dL_law_817 : decode cL_law 817 = .ok (.iload 14, 2) := by decide +kernel
theorem dL_law_819 : decode cL_law 819 = .ok (.iadd, 1) := by decide +kernel
theorem dL_law_820 : decode cL_law 820 = .ok (.bipush 10, 2) := by decide +kernel
theorem dL_law_822 : decode cL_law 822 = .ok (.iload 17, 2) := by decide +kernel
theorem dL_law_824 : decode cL_law 824 = .ok (.imul, 1) := by decide +kernel
theorem dL_law_825 : decode cL_law 825 = .ok (.if_icmp .ne 94, 3) := by decide +kernel
theorem dL_law_828 : decode cL_law 828 = .ok (.aload_n 1, 1) := by decide +kernel
theorem dL_law_829 : decode cL_law 829 = .ok (.iload 12, 2) := by decide +kernel
theorem dL_law_831 : decode cL_law 831 = .ok (.iconst 0, 1) := by decide +kernel
theorem dL_law_832 : decode cL_law 832 = .ok (.invokevirtual 150, 3) := by decide +kernel
theorem dL_law_835 : decode cL_law 835 = .ok (.iload 13, 2) := by decide +kernel
theorem dL_law_837 : decode cL_law 837 = .ok (.i2f, 1) := by decide +kernel
theorem dL_law_838 : decode cL_law 838 = .ok (.ldc 130, 2) := by decide +kernel
theorem dL_law_840 : decode cL_law 840 = .ok (.fdiv, 1) := by decide +kernel
theorem dL_law_841 : decode cL_law 841 = .ok (.fcmp .l, 1) := by decide +kernel
theorem dL_law_842 : decode cL_law 842 = .ok (.ifCond .ne 77, 3) := by decide +kernel
theorem dL_law_845 : decode cL_law 845 = .ok (.aload_n 1, 1) := by decide +kernel
theorem dL_law_846 : decode cL_law 846 = .ok (.iload 12, 2) := by decide +kernel
theorem dL_law_848 : decode cL_law 848 = .ok (.iconst 1, 1) := by decide +kernel
theorem dL_law_849 : decode cL_law 849 = .ok (.invokevirtual 150, 3) := by decide +kernel
theorem dL_law_852 : decode cL_law 852 = .ok (.iload 14, 2) := by decide +kernel
theorem dL_law_854 : decode cL_law 854 = .ok (.i2f, 1) := by decide +kernel
theorem dL_law_855 : decode cL_law 855 = .ok (.ldc 130, 2) := by decide +kernel
theorem dL_law_857 : decode cL_law 857 = .ok (.fdiv, 1) := by decide +kernel
theorem dL_law_858 : decode cL_law 858 = .ok (.fcmp .l, 1) := by decide +kernel
theorem dL_law_859 : decode cL_law 859 = .ok (.ifCond .ne 60, 3) := by decide +kernel
theorem dL_law_862 : decode cL_law 862 = .ok (.aload_n 1, 1) := by decide +kernel
theorem dL_law_863 : decode cL_law 863 = .ok (.iload 12, 2) := by decide +kernel
theorem dL_law_865 : decode cL_law 865 = .ok (.invokevirtual 154, 3) := by decide +kernel
theorem dL_law_868 : decode cL_law 868 = .ok (.iload 25, 2) := by decide +kernel
theorem dL_law_870 : decode cL_law 870 = .ok (.if_icmp .ne 49, 3) := by decide +kernel
theorem dL_law_873 : decode cL_law 873 = .ok (.aload_n 1, 1) := by decide +kernel
theorem dL_law_874 : decode cL_law 874 = .ok (.iload 12, 2) := by decide +kernel
theorem dL_law_876 : decode cL_law 876 = .ok (.invokevirtual 157, 3) := by decide +kernel
theorem dL_law_879 : decode cL_law 879 = .ok (.iload 25, 2) := by decide +kernel
theorem dL_law_881 : decode cL_law 881 = .ok (.if_icmp .ne 38, 3) := by decide +kernel
theorem dL_law_884 : decode cL_law 884 = .ok (.iload 25, 2) := by decide +kernel
theorem dL_law_886 : decode cL_law 886 = .ok (.aload_n 1, 1) := by decide +kernel
theorem dL_law_887 : decode cL_law 887 = .ok (.iload 12, 2) := by decide +kernel
theorem dL_law_889 : decode cL_law 889 = .ok (.bipush 6, 2) := by decide +kernel
theorem dL_law_891 : decode cL_law 891 = .ok (.invokevirtual 131, 3) := by decide +kernel
theorem dL_law_894 : decode cL_law 894 = .ok (.if_icmp .gt 25, 3) := by decide +kernel
theorem dL_law_897 : decode cL_law 897 = .ok (.aload_n 1, 1) := by decide +kernel
theorem dL_law_898 : decode cL_law 898 = .ok (.iload 12, 2) := by decide +kernel
theorem dL_law_900 : decode cL_law 900 = .ok (.invokevirtual 160, 3) := by decide +kernel
theorem dL_law_903 : decode cL_law 903 = .ok (.iload 18, 2) := by decide +kernel
theorem dL_law_905 : decode cL_law 905 = .ok (.if_icmp .ne 14, 3) := by decide +kernel
theorem dL_law_908 : decode cL_law 908 = .ok (.aload_n 1, 1) := by decide +kernel
theorem dL_law_909 : decode cL_law 909 = .ok (.iload 12, 2) := by decide +kernel
theorem dL_law_911 : decode cL_law 911 = .ok (.invokevirtual 163, 3) := by decide +kernel
theorem dL_law_914 : decode cL_law 914 = .ok (.iload 19, 2) := by decide +kernel
theorem dL_law_916 : decode cL_law 916 = .ok (.if_icmp .eq 5, 3) := by decide +kernel
theorem dL_law_919 : decode cL_law 919 = .ok (.iconst 0, 1) := by decide +kernel
theorem dL_law_920 : decode cL_law 920 = .ok (.ireturn, 1) := by decide +kernel
theorem dL_law_921 : decode cL_law 921 = .ok (.iload 7, 2) := by decide +kernel
theorem dL_law_923 : decode cL_law 923 = .ok (.iload 17, 2) := by decide +kernel
theorem dL_law_925 : decode cL_law 925 = .ok (.iadd, 1) := by decide +kernel
theorem dL_law_926 : decode cL_law 926 = .ok (.istore 7, 2) := by decide +kernel
theorem dL_law_928 : decode cL_law 928 = .ok (.iload 9, 2) := by decide +kernel
theorem dL_law_930 : decode cL_law 930 = .ok (.aload_n 1, 1) := by decide +kernel
theorem dL_law_931 : decode cL_law 931 = .ok (.iload 12, 2) := by decide +kernel
theorem dL_law_933 : decode cL_law 933 = .ok (.bipush 7, 2) := by decide +kernel
theorem dL_law_935 : decode cL_law 935 = .ok (.invokevirtual 131, 3) := by decide +kernel
theorem dL_law_938 : decode cL_law 938 = .ok (.iadd, 1) := by decide +kernel
theorem dL_law_939 : decode cL_law 939 = .ok (.istore 9, 2) := by decide +kernel
theorem dL_law_941 : decode cL_law 941 = .ok (.iload 10, 2) := by decide +kernel
theorem dL_law_943 : decode cL_law 943 = .ok (.aload_n 1, 1) := by decide +kernel
theorem dL_law_944 : decode cL_law 944 = .ok (.iload 12, 2) := by decide +kernel
theorem dL_law_946 : decode cL_law 946 = .ok (.iconst 0, 1) := by decide +kernel
theorem dL_law_947 : decode cL_law 947 = .ok (.invokevirtual 166, 3) := by decide +kernel
theorem dL_law_950 : decode cL_law 950 = .ok (.fconst 1, 1) := by decide +kernel
theorem dL_law_951 : decode cL_law 951 = .ok (.fcmp .l, 1) := by decide +kernel
theorem dL_law_952 : decode cL_law 952 = .ok (.ifCond .lt 7, 3) := by decide +kernel
theorem dL_law_955 : decode cL_law 955 = .ok (.iconst 1, 1) := by decide +kernel
theorem dL_law_956 : decode cL_law 956 = .ok (.goto 4, 3) := by decide +kernel
theorem dL_law_959 : decode cL_law 959 = .ok (.iconst 0, 1) := by decide +kernel
theorem dL_law_960 : decode cL_law 960 = .ok (.aload_n 1, 1) := by decide +kernel
theorem dL_law_961 : decode cL_law 961 = .ok (.iload 12, 2) := by decide +kernel
theorem dL_law_963 : decode cL_law 963 = .ok (.iconst 1, 1) := by decide +kernel
theorem dL_law_964 : decode cL_law 964 = .ok (.invokevirtual 166, 3) := by decide +kernel
theorem dL_law_967 : decode cL_law 967 = .ok (.fconst 1, 1) := by decide +kernel
theorem dL_law_968 : decode cL_law 968 = .ok (.fcmp .l, 1) := by decide +kernel
theorem dL_law_969 : decode cL_law 969 = .ok (.ifCond .lt 7, 3) := by decide +kernel
theorem dL_law_972 : decode cL_law 972 = .ok (.iconst 1, 1) := by decide +kernel
theorem dL_law_973 : decode cL_law 973 = .ok (.goto 4, 3) := by decide +kernel
theorem dL_law_976 : decode cL_law 976 = .ok (.iconst 0, 1) := by decide +kernel
theorem dL_law_977 : decode cL_law 977 = .ok (.iadd, 1) := by decide +kernel
theorem dL_law_978 : decode cL_law 978 = .ok (.iadd, 1) := by decide +kernel
theorem dL_law_979 : decode cL_law 979 = .ok (.istore 10, 2) := by decide +kernel
theorem dL_law_981 : decode cL_law 981 = .ok (.iload 11, 2) := by decide +kernel
theorem dL_law_983 : decode cL_law 983 = .ok (.aload_n 1, 1) := by decide +kernel
theorem dL_law_984 : decode cL_law 984 = .ok (.iload 12, 2) := by decide +kernel
theorem dL_law_986 : decode cL_law 986 = .ok (.iconst 5, 1) := by decide +kernel
theorem dL_law_987 : decode cL_law 987 = .ok (.invokevirtual 131, 3) := by decide +kernel
theorem dL_law_990 : decode cL_law 990 = .ok (.iadd, 1) := by decide +kernel
theorem dL_law_991 : decode cL_law 991 = .ok (.istore 11, 2) := by decide +kernel
theorem dL_law_993 : decode cL_law 993 = .ok (.iinc 12 1, 3) := by decide +kernel
theorem dL_law_996 : decode cL_law 996 = .ok (.goto (-804), 3) := by decide +kernel
theorem dL_law_999 : decode cL_law 999 = .ok (.ldc 122, 2) := by decide +kernel
theorem dL_law_1001 : decode cL_law 1001 = .ok (.astore 12, 2) := by decide +kernel
theorem dL_law_1003 : decode cL_law 1003 = .ok (.iconst 0, 1) := by decide +kernel
theorem dL_law_1004 : decode cL_law 1004 = .ok (.istore 13, 2) := by decide +kernel
theorem dL_law_1006 : decode cL_law 1006 = .ok (.iconst 0, 1) := by decide +kernel
theorem dL_law_1007 : decode cL_law 1007 = .ok (.istore 14, 2) := by decide +kernel
theorem dL_law_1009 : decode cL_law 1009 = .ok (.iconst 0, 1) := by decide +kernel
theorem dL_law_1010 : decode cL_law 1010 = .ok (.istore 15, 2) := by decide +kernel
theorem dL_law_1012 : decode cL_law 1012 = .ok (.iload 15, 2) := by decide +kernel
theorem dL_law_1014 : decode cL_law 1014 = .ok (.aload_n 1, 1) := by decide +kernel
theorem dL_law_1015 : decode cL_law 1015 = .ok (.iconst 5, 1) := by decide +kernel
theorem dL_law_1016 : decode cL_law 1016 = .ok (.invokevirtual 40, 3) := by decide +kernel
theorem dL_law_1019 : decode cL_law 1019 = .ok (.if_icmp .ge 113, 3) := by decide +kernel
theorem dL_law_1022 : decode cL_law 1022 = .ok (.new 104, 3) := by decide +kernel
theorem dL_law_1025 : decode cL_law 1025 = .ok (.dup, 1) := by decide +kernel
theorem dL_law_1026 : decode cL_law 1026 = .ok (.invokespecial 106, 3) := by decide +kernel
theorem dL_law_1029 : decode cL_law 1029 = .ok (.aload 12, 2) := by decide +kernel
theorem dL_law_1031 : decode cL_law 1031 = .ok (.invokevirtual 113, 3) := by decide +kernel
theorem dL_law_1034 : decode cL_law 1034 = .ok (.iload 15, 2) := by decide +kernel
theorem dL_law_1036 : decode cL_law 1036 = .ok (.ifCond .le 8, 3) := by decide +kernel
theorem dL_law_1039 : decode cL_law 1039 = .ok (.ldc 169, 2) := by decide +kernel
theorem dL_law_1041 : decode cL_law 1041 = .ok (.goto 5, 3) := by decide +kernel
theorem dL_law_1044 : decode cL_law 1044 = .ok (.ldc 122, 2) := by decide +kernel
theorem dL_law_1046 : decode cL_law 1046 = .ok (.invokevirtual 113, 3) := by decide +kernel
theorem dL_law_1049 : decode cL_law 1049 = .ok (.aload_n 1, 1) := by decide +kernel
theorem dL_law_1050 : decode cL_law 1050 = .ok (.iload 15, 2) := by decide +kernel
theorem dL_law_1052 : decode cL_law 1052 = .ok (.iconst 0, 1) := by decide +kernel
theorem dL_law_1053 : decode cL_law 1053 = .ok (.invokevirtual 134, 3) := by decide +kernel
theorem dL_law_1056 : decode cL_law 1056 = .ok (.invokevirtual 107, 3) := by decide +kernel
theorem dL_law_1059 : decode cL_law 1059 = .ok (.ldc 171, 2) := by decide +kernel
theorem dL_law_1061 : decode cL_law 1061 = .ok (.invokevirtual 113, 3) := by decide +kernel
theorem dL_law_1064 : decode cL_law 1064 = .ok (.aload_n 1, 1) := by decide +kernel
theorem dL_law_1065 : decode cL_law 1065 = .ok (.iload 15, 2) := by decide +kernel
theorem dL_law_1067 : decode cL_law 1067 = .ok (.iconst 1, 1) := by decide +kernel
theorem dL_law_1068 : decode cL_law 1068 = .ok (.invokevirtual 134, 3) := by decide +kernel
theorem dL_law_1071 : decode cL_law 1071 = .ok (.invokevirtual 107, 3) := by decide +kernel
theorem dL_law_1074 : decode cL_law 1074 = .ok (.ldc 173, 2) := by decide +kernel
theorem dL_law_1076 : decode cL_law 1076 = .ok (.invokevirtual 113, 3) := by decide +kernel
theorem dL_law_1079 : decode cL_law 1079 = .ok (.aload_n 1, 1) := by decide +kernel
theorem dL_law_1080 : decode cL_law 1080 = .ok (.iload 15, 2) := by decide +kernel
theorem dL_law_1082 : decode cL_law 1082 = .ok (.iconst 2, 1) := by decide +kernel
theorem dL_law_1083 : decode cL_law 1083 = .ok (.invokevirtual 134, 3) := by decide +kernel
theorem dL_law_1086 : decode cL_law 1086 = .ok (.invokevirtual 107, 3) := by decide +kernel
theorem dL_law_1089 : decode cL_law 1089 = .ok (.invokevirtual 116, 3) := by decide +kernel
theorem dL_law_1092 : decode cL_law 1092 = .ok (.astore 12, 2) := by decide +kernel
theorem dL_law_1094 : decode cL_law 1094 = .ok (.iload 13, 2) := by decide +kernel
theorem dL_law_1096 : decode cL_law 1096 = .ok (.aload_n 1, 1) := by decide +kernel
theorem dL_law_1097 : decode cL_law 1097 = .ok (.iload 15, 2) := by decide +kernel
theorem dL_law_1099 : decode cL_law 1099 = .ok (.iconst 3, 1) := by decide +kernel
theorem dL_law_1100 : decode cL_law 1100 = .ok (.invokevirtual 134, 3) := by decide +kernel
theorem dL_law_1103 : decode cL_law 1103 = .ok (.iadd, 1) := by decide +kernel
theorem dL_law_1104 : decode cL_law 1104 = .ok (.istore 13, 2) := by decide +kernel
theorem dL_law_1106 : decode cL_law 1106 = .ok (.iload 14, 2) := by decide +kernel
theorem dL_law_1108 : decode cL_law 1108 = .ok (.aload_n 1, 1) := by decide +kernel
theorem dL_law_1109 : decode cL_law 1109 = .ok (.iload 15, 2) := by decide +kernel
theorem dL_law_1111 : decode cL_law 1111 = .ok (.iconst 3, 1) := by decide +kernel
theorem dL_law_1112 : decode cL_law 1112 = .ok (.invokevirtual 134, 3) := by decide +kernel
theorem dL_law_1115 : decode cL_law 1115 = .ok (.aload_n 1, 1) := by decide +kernel
theorem dL_law_1116 : decode cL_law 1116 = .ok (.iload 15, 2) := by decide +kernel
theorem dL_law_1118 : decode cL_law 1118 = .ok (.iconst 1, 1) := by decide +kernel
theorem dL_law_1119 : decode cL_law 1119 = .ok (.invokevirtual 134, 3) := by decide +kernel
theorem dL_law_1122 : decode cL_law 1122 = .ok (.imul, 1) := by decide +kernel
theorem dL_law_1123 : decode cL_law 1123 = .ok (.iadd, 1) := by decide +kernel
theorem dL_law_1124 : decode cL_law 1124 = .ok (.istore 14, 2) := by decide +kernel
theorem dL_law_1126 : decode cL_law 1126 = .ok (.iinc 15 1, 3) := by decide +kernel
theorem dL_law_1129 : decode cL_law 1129 = .ok (.goto (-117), 3) := by decide +kernel
theorem dL_law_1132 : decode cL_law 1132 = .ok (.aload_n 1, 1) := by decide +kernel
theorem dL_law_1133 : decode cL_law 1133 = .ok (.aload_n 1, 1) := by decide +kernel
theorem dL_law_1134 : decode cL_law 1134 = .ok (.invokevirtual 175, 3) := by decide +kernel
theorem dL_law_1137 : decode cL_law 1137 = .ok (.aload 12, 2) := by decide +kernel
theorem dL_law_1139 : decode cL_law 1139 = .ok (.invokestatic 140, 3) := by decide +kernel
theorem dL_law_1142 : decode cL_law 1142 = .ok (.ifCond .eq 155, 3) := by decide +kernel
theorem dL_law_1145 : decode cL_law 1145 = .ok (.aload_n 1, 1) := by decide +kernel
theorem dL_law_1146 : decode cL_law 1146 = .ok (.invokevirtual 178, 3) := by decide +kernel
theorem dL_law_1149 : decode cL_law 1149 = .ok (.iconst 1, 1) := by decide +kernel
theorem dL_law_1150 : decode cL_law 1150 = .ok (.if_icmp .ne 147, 3) := by decide +kernel
theorem dL_law_1153 : decode cL_law 1153 = .ok (.aload_n 1, 1) := by decide +kernel
theorem dL_law_1154 : decode cL_law 1154 = .ok (.iconst 1, 1) := by decide +kernel
theorem dL_law_1155 : decode cL_law 1155 = .ok (.invokevirtual 40, 3) := by decide +kernel
theorem dL_law_1158 : decode cL_law 1158 = .ok (.iload 5, 2) := by decide +kernel
theorem dL_law_1160 : decode cL_law 1160 = .ok (.if_icmp .ne 137, 3) := by decide +kernel
theorem dL_law_1163 : decode cL_law 1163 = .ok (.aload_n 1, 1) := by decide +kernel
theorem dL_law_1164 : decode cL_law 1164 = .ok (.iconst 2, 1) := by decide +kernel
theorem dL_law_1165 : decode cL_law 1165 = .ok (.invokevirtual 40, 3) := by decide +kernel
theorem dL_law_1168 : decode cL_law 1168 = .ok (.iload_n 3, 1) := by decide +kernel
theorem dL_law_1169 : decode cL_law 1169 = .ok (.iload 5, 2) := by decide +kernel
theorem dL_law_1171 : decode cL_law 1171 = .ok (.isub, 1) := by decide +kernel
theorem dL_law_1172 : decode cL_law 1172 = .ok (.if_icmp .ne 125, 3) := by decide +kernel
theorem dL_law_1175 : decode cL_law 1175 = .ok (.aload_n 1, 1) := by decide +kernel
theorem dL_law_1176 : decode cL_law 1176 = .ok (.iconst 3, 1) := by decide +kernel
theorem dL_law_1177 : decode cL_law 1177 = .ok (.invokevirtual 40, 3) := by decide +kernel
theorem dL_law_1180 : decode cL_law 1180 = .ok (.iload 6, 2) := by decide +kernel
theorem dL_law_1182 : decode cL_law 1182 = .ok (.if_icmp .ne 115, 3) := by decide +kernel
theorem dL_law_1185 : decode cL_law 1185 = .ok (.aload_n 1, 1) := by decide +kernel
theorem dL_law_1186 : decode cL_law 1186 = .ok (.bipush 6, 2) := by decide +kernel
theorem dL_law_1188 : decode cL_law 1188 = .ok (.invokevirtual 40, 3) := by decide +kernel
theorem dL_law_1191 : decode cL_law 1191 = .ok (.iload 7, 2) := by decide +kernel
theorem dL_law_1193 : decode cL_law 1193 = .ok (.if_icmp .ne 104, 3) := by decide +kernel
theorem dL_law_1196 : decode cL_law 1196 = .ok (.aload_n 1, 1) := by decide +kernel
theorem dL_law_1197 : decode cL_law 1197 = .ok (.bipush 7, 2) := by decide +kernel
theorem dL_law_1199 : decode cL_law 1199 = .ok (.invokevirtual 40, 3) := by decide +kernel
theorem dL_law_1202 : decode cL_law 1202 = .ok (.iload 9, 2) := by decide +kernel
theorem dL_law_1204 : decode cL_law 1204 = .ok (.if_icmp .ne 93, 3) := by decide +kernel
theorem dL_law_1207 : decode cL_law 1207 = .ok (.aload_n 1, 1) := by decide +kernel
theorem dL_law_1208 : decode cL_law 1208 = .ok (.bipush 8, 2) := by decide +kernel
theorem dL_law_1210 : decode cL_law 1210 = .ok (.invokevirtual 40, 3) := by decide +kernel
theorem dL_law_1213 : decode cL_law 1213 = .ok (.iload 10, 2) := by decide +kernel
theorem dL_law_1215 : decode cL_law 1215 = .ok (.if_icmp .ne 82, 3) := by decide +kernel
theorem dL_law_1218 : decode cL_law 1218 = .ok (.aload_n 1, 1) := by decide +kernel
theorem dL_law_1219 : decode cL_law 1219 = .ok (.bipush 9, 2) := by decide +kernel
theorem dL_law_1221 : decode cL_law 1221 = .ok (.invokevirtual 40, 3) := by decide +kernel
theorem dL_law_1224 : decode cL_law 1224 = .ok (.iload 11, 2) := by decide +kernel
theorem dL_law_1226 : decode cL_law 1226 = .ok (.if_icmp .ne 71, 3) := by decide +kernel
theorem dL_law_1229 : decode cL_law 1229 = .ok (.iload 13, 2) := by decide +kernel
theorem dL_law_1231 : decode cL_law 1231 = .ok (.iload 11, 2) := by decide +kernel
theorem dL_law_1233 : decode cL_law 1233 = .ok (.if_icmp .ne 64, 3) := by decide +kernel
theorem dL_law_1236 : decode cL_law 1236 = .ok (.aload_n 1, 1) := by decide +kernel
theorem dL_law_1237 : decode cL_law 1237 = .ok (.bipush 10, 2) := by decide +kernel
theorem dL_law_1239 : decode cL_law 1239 = .ok (.invokevirtual 40, 3) := by decide +kernel
theorem dL_law_1242 : decode cL_law 1242 = .ok (.iload 14, 2) := by decide +kernel
theorem dL_law_1244 : decode cL_law 1244 = .ok (.if_icmp .ne 53, 3) := by decide +kernel
theorem dL_law_1247 : decode cL_law 1247 = .ok (.aload_n 1, 1) := by decide +kernel
theorem dL_law_1248 : decode cL_law 1248 = .ok (.invokevirtual 181, 3) := by decide +kernel
theorem dL_law_1251 : decode cL_law 1251 = .ok (.iload 8, 2) := by decide +kernel
theorem dL_law_1253 : decode cL_law 1253 = .ok (.i2d, 1) := by decide +kernel
theorem dL_law_1254 : decode cL_law 1254 = .ok (.iload_n 3, 1) := by decide +kernel
theorem dL_law_1255 : decode cL_law 1255 = .ok (.i2d, 1) := by decide +kernel
theorem dL_law_1256 : decode cL_law 1256 = .ok (.ddiv, 1) := by decide +kernel
theorem dL_law_1257 : decode cL_law 1257 = .ok (.dcmp .l, 1) := by decide +kernel
theorem dL_law_1258 : decode cL_law 1258 = .ok (.ifCond .ne 39, 3) := by decide +kernel
theorem dL_law_1261 : decode cL_law 1261 = .ok (.aload_n 1, 1) := by decide +kernel
theorem dL_law_1262 : decode cL_law 1262 = .ok (.invokevirtual 185, 3) := by decide +kernel
theorem dL_law_1265 : decode cL_law 1265 = .ok (.iload 9, 2) := by decide +kernel
theorem dL_law_1267 : decode cL_law 1267 = .ok (.i2f, 1) := by decide +kernel
theorem dL_law_1268 : decode cL_law 1268 = .ok (.iconst 2, 1) := by decide +kernel
theorem dL_law_1269 : decode cL_law 1269 = .ok (.iload 4, 2) := by decide +kernel
theorem dL_law_1271 : decode cL_law 1271 = .ok (.imul, 1) := by decide +kernel
theorem dL_law_1272 : decode cL_law 1272 = .ok (.i2f, 1) := by decide +kernel
theorem dL_law_1273 : decode cL_law 1273 = .ok (.fdiv, 1) := by decide +kernel
theorem dL_law_1274 : decode cL_law 1274 = .ok (.fcmp .l, 1) := by decide +kernel
theorem dL_law_1275 : decode cL_law 1275 = .ok (.ifCond .ne 22, 3) := by decide +kernel
theorem dL_law_1278 : decode cL_law 1278 = .ok (.aload_n 1, 1) := by decide +kernel
theorem dL_law_1279 : decode cL_law 1279 = .ok (.iload_n 3, 1) := by decide +kernel
theorem dL_law_1280 : decode cL_law 1280 = .ok (.invokevirtual 189, 3) := by decide +kernel
theorem dL_law_1283 : decode cL_law 1283 = .ok (.iconst (-1), 1) := by decide +kernel
theorem dL_law_1284 : decode cL_law 1284 = .ok (.if_icmp .ne 13, 3) := by decide +kernel
theorem dL_law_1287 : decode cL_law 1287 = .ok (.aload_n 1, 1) := by decide +kernel
theorem dL_law_1288 : decode cL_law 1288 = .ok (.iload 4, 2) := by decide +kernel
theorem dL_law_1290 : decode cL_law 1290 = .ok (.invokevirtual 192, 3) := by decide +kernel
theorem dL_law_1293 : decode cL_law 1293 = .ok (.iconst (-1), 1) := by decide +kernel
theorem dL_law_1294 : decode cL_law 1294 = .ok (.if_icmp .eq 5, 3) := by decide +kernel
theorem dL_law_1297 : decode cL_law 1297 = .ok (.iconst 0, 1) := by decide +kernel
theorem dL_law_1298 : decode cL_law 1298 = .ok (.ireturn, 1) := by decide +kernel
theorem dL_law_1299 : decode cL_law 1299 = .ok (.iconst 1, 1) := by decide +kernel
theorem dL_law_1300 : decode cL_law 1300 = .ok (.istore 15, 2) := by decide +kernel
theorem dL_law_1302 : decode cL_law 1302 = .ok (.iload 15, 2) := by decide +kernel
theorem dL_law_1304 : decode cL_law 1304 = .ok (.iload_n 3, 1) := by decide +kernel
theorem dL_law_1305 : decode cL_law 1305 = .ok (.if_icmp .ge 90, 3) := by decide +kernel
theorem dL_law_1308 : decode cL_law 1308 = .ok (.aload_n 1, 1) := by decide +kernel
theorem dL_law_1309 : decode cL_law 1309 = .ok (.iload 15, 2) := by decide +kernel
theorem dL_law_1311 : decode cL_law 1311 = .ok (.iconst 1, 1) := by decide +kernel
theorem dL_law_1312 : decode cL_law 1312 = .ok (.isub, 1) := by decide +kernel
theorem dL_law_1313 : decode cL_law 1313 = .ok (.invokevirtual 189, 3) := by decide +kernel
theorem dL_law_1316 : decode cL_law 1316 = .ok (.istore 16, 2) := by decide +kernel
theorem dL_law_1318 : decode cL_law 1318 = .ok (.aload_n 1, 1) := by decide +kernel
theorem dL_law_1319 : decode cL_law 1319 = .ok (.iload 15, 2) := by decide +kernel
theorem dL_law_1321 : decode cL_law 1321 = .ok (.invokevirtual 189, 3) := by decide +kernel
theorem dL_law_1324 : decode cL_law 1324 = .ok (.istore 17, 2) := by decide +kernel
theorem dL_law_1326 : decode cL_law 1326 = .ok (.aload_n 1, 1) := by decide +kernel
theorem dL_law_1327 : decode cL_law 1327 = .ok (.iload 16, 2) := by decide +kernel
theorem dL_law_1329 : decode cL_law 1329 = .ok (.iconst 1, 1) := by decide +kernel
theorem dL_law_1330 : decode cL_law 1330 = .ok (.invokevirtual 56, 3) := by decide +kernel
theorem dL_law_1333 : decode cL_law 1333 = .ok (.aload_n 1, 1) := by decide +kernel
theorem dL_law_1334 : decode cL_law 1334 = .ok (.iload 17, 2) := by decide +kernel
theorem dL_law_1336 : decode cL_law 1336 = .ok (.iconst 1, 1) := by decide +kernel
theorem dL_law_1337 : decode cL_law 1337 = .ok (.invokevirtual 56, 3) := by decide +kernel
theorem dL_law_1340 : decode cL_law 1340 = .ok (.isub, 1) := by decide +kernel
theorem dL_law_1341 : decode cL_law 1341 = .ok (.istore 18, 2) := by decide +kernel
theorem dL_law_1343 : decode cL_law 1343 = .ok (.aload_n 1, 1) := by decide +kernel
theorem dL_law_1344 : decode cL_law 1344 = .ok (.iload 17, 2) := by decide +kernel
theorem dL_law_1346 : decode cL_law 1346 = .ok (.iconst 0, 1) := by decide +kernel
theorem dL_law_1347 : decode cL_law 1347 = .ok (.invokevirtual 56, 3) := by decide +kernel
theorem dL_law_1350 : decode cL_law 1350 = .ok (.aload_n 1, 1) := by decide +kernel
theorem dL_law_1351 : decode cL_law 1351 = .ok (.iload 16, 2) := by decide +kernel
theorem dL_law_1353 : decode cL_law 1353 = .ok (.iconst 0, 1) := by decide +kernel
theorem dL_law_1354 : decode cL_law 1354 = .ok (.invokevirtual 56, 3) := by decide +kernel
theorem dL_law_1357 : decode cL_law 1357 = .ok (.isub, 1) := by decide +kernel
theorem dL_law_1358 : decode cL_law 1358 = .ok (.istore 19, 2) := by decide +kernel
theorem dL_law_1360 : decode cL_law 1360 = .ok (.iload 18, 2) := by decide +kernel
theorem dL_law_1362 : decode cL_law 1362 = .ok (.ifCond .lt 25, 3) := by decide +kernel
theorem dL_law_1365 : decode cL_law 1365 = .ok (.iload 18, 2) := by decide +kernel
theorem dL_law_1367 : decode cL_law 1367 = .ok (.ifCond .ne 22, 3) := by decide +kernel
theorem dL_law_1370 : decode cL_law 1370 = .ok (.iload 19, 2) := by decide +kernel
theorem dL_law_1372 : decode cL_law 1372 = .ok (.ifCond .lt 15, 3) := by decide +kernel
theorem dL_law_1375 : decode cL_law 1375 = .ok (.iload 19, 2) := by decide +kernel
theorem dL_law_1377 : decode cL_law 1377 = .ok (.ifCond .ne 12, 3) := by decide +kernel
theorem dL_law_1380 : decode cL_law 1380 = .ok (.iload 16, 2) := by decide +kernel
theorem dL_law_1382 : decode cL_law 1382 = .ok (.iload 17, 2) := by decide +kernel
theorem dL_law_1384 : decode cL_law 1384 = .ok (.if_icmp .le 5, 3) := by decide +kernel
theorem dL_law_1387 : decode cL_law 1387 = .ok (.iconst 0, 1) := by decide +kernel
theorem dL_law_1388 : decode cL_law 1388 = .ok (.ireturn, 1) := by decide +kernel
theorem dL_law_1389 : decode cL_law 1389 = .ok (.iinc 15 1, 3) := by decide +kernel
theorem dL_law_1392 : decode cL_law 1392 = .ok (.goto (-90), 3) := by decide +kernel
theorem dL_law_1395 : decode cL_law 1395 = .ok (.iconst 1, 1) := by decide +kernel
theorem dL_law_1396 : decode cL_law 1396 = .ok (.istore 15, 2) := by decide +kernel
theorem dL_law_1398 : decode cL_law 1398 = .ok (.iload 15, 2) := by decide +kernel
theorem dL_law_1400 : decode cL_law 1400 = .ok (.iload 4, 2) := by decide +kernel
theorem dL_law_1402 : decode cL_law 1402 = .ok (.if_icmp .ge 92, 3) := by decide +kernel
theorem dL_law_1405 : decode cL_law 1405 = .ok (.aload_n 1, 1) := by decide +kernel
theorem dL_law_1406 : decode cL_law 1406 = .ok (.iload 15, 2) := by decide +kernel
theorem dL_law_1408 : decode cL_law 1408 = .ok (.iconst 1, 1) := by decide +kernel
theorem dL_law_1409 : decode cL_law 1409 = .ok (.isub, 1) := by decide +kernel
theorem dL_law_1410 : decode cL_law 1410 = .ok (.invokevirtual 192, 3) := by decide +kernel
theorem dL_law_1413 : decode cL_law 1413 = .ok (.istore 16, 2) := by decide +kernel
theorem dL_law_1415 : decode cL_law 1415 = .ok (.aload_n 1, 1) := by decide +kernel
theorem dL_law_1416 : decode cL_law 1416 = .ok (.iload 15, 2) := by decide +kernel
theorem dL_law_1418 : decode cL_law 1418 = .ok (.invokevirtual 192, 3) := by decide +kernel
theorem dL_law_1421 : decode cL_law 1421 = .ok (.istore 17, 2) := by decide +kernel
theorem dL_law_1423 : decode cL_law 1423 = .ok (.aload_n 1, 1) := by decide +kernel
theorem dL_law_1424 : decode cL_law 1424 = .ok (.iload 16, 2) := by decide +kernel
theorem dL_law_1426 : decode cL_law 1426 = .ok (.iconst 4, 1) := by decide +kernel
theorem dL_law_1427 : decode cL_law 1427 = .ok (.invokevirtual 131, 3) := by decide +kernel
theorem dL_law_1430 : decode cL_law 1430 = .ok (.aload_n 1, 1) := by decide +kernel
theorem dL_law_1431 : decode cL_law 1431 = .ok (.iload 17, 2) := by decide +kernel
theorem dL_law_1433 : decode cL_law 1433 = .ok (.iconst 4, 1) := by decide +kernel
theorem dL_law_1434 : decode cL_law 1434 = .ok (.invokevirtual 131, 3) := by decide +kernel
theorem dL_law_1437 : decode cL_law 1437 = .ok (.isub, 1) := by decide +kernel
theorem dL_law_1438 : decode cL_law 1438 = .ok (.istore 18, 2) := by decide +kernel
theorem dL_law_1440 : decode cL_law 1440 = .ok (.aload_n 1, 1) := by decide +kernel
theorem dL_law_1441 : decode cL_law 1441 = .ok (.iload 17, 2) := by decide +kernel
theorem dL_law_1443 : decode cL_law 1443 = .ok (.bipush 6, 2) := by decide +kernel
theorem dL_law_1445 : decode cL_law 1445 = .ok (.invokevirtual 131, 3) := by decide +kernel
theorem dL_law_1448 : decode cL_law 1448 = .ok (.aload_n 1, 1) := by decide +kernel
theorem dL_law_1449 : decode cL_law 1449 = .ok (.iload 16, 2) := by decide +kernel
theorem dL_law_1451 : decode cL_law 1451 = .ok (.bipush 6, 2) := by decide +kernel
theorem dL_law_1453 : decode cL_law 1453 = .ok (.invokevirtual 131, 3) := by decide +kernel
theorem dL_law_1456 : decode cL_law 1456 = .ok (.isub, 1) := by decide +kernel
theorem dL_law_1457 : decode cL_law 1457 = .ok (.istore 19, 2) := by decide +kernel
theorem dL_law_1459 : decode cL_law 1459 = .ok (.iload 18, 2) := by decide +kernel
theorem dL_law_1461 : decode cL_law 1461 = .ok (.ifCond .lt 25, 3) := by decide +kernel
theorem dL_law_1464 : decode cL_law 1464 = .ok (.iload 18, 2) := by decide +kernel
theorem dL_law_1466 : decode cL_law 1466 = .ok (.ifCond .ne 22, 3) := by decide +kernel
theorem dL_law_1469 : decode cL_law 1469 = .ok (.iload 19, 2) := by decide +kernel
theorem dL_law_1471 : decode cL_law 1471 = .ok (.ifCond .lt 15, 3) := by decide +kernel
theorem dL_law_1474 : decode cL_law 1474 = .ok (.iload 19, 2) := by decide +kernel
theorem dL_law_1476 : decode cL_law 1476 = .ok (.ifCond .ne 12, 3) := by decide +kernel
theorem dL_law_1479 : decode cL_law 1479 = .ok (.iload 16, 2) := by decide +kernel
theorem dL_law_1481 : decode cL_law 1481 = .ok (.iload 17, 2) := by decide +kernel
theorem dL_law_1483 : decode cL_law 1483 = .ok (.if_icmp .le 5, 3) := by decide +kernel
theorem dL_law_1486 : decode cL_law 1486 = .ok (.iconst 0, 1) := by decide +kernel
theorem dL_law_1487 : decode cL_law 1487 = .ok (.ireturn, 1) := by decide +kernel
theorem dL_law_1488 : decode cL_law 1488 = .ok (.iinc 15 1, 3) := by decide +kernel
theorem dL_law_1491 : decode cL_law 1491 = .ok (.goto (-93), 3) := by decide +kernel
theorem dL_law_1494 : decode cL_law 1494 = .ok (.aload_n 1, 1) := by decide +kernel
theorem dL_law_1495 : decode cL_law 1495 = .ok (.aload_n 0, 1) := by decide +kernel
theorem dL_law_1496 : decode cL_law 1496 = .ok (.bipush 75, 2) := by decide +kernel
theorem dL_law_1498 : decode cL_law 1498 = .ok (.iconst 4, 1) := by decide +kernel
theorem dL_law_1499 : decode cL_law 1499 = .ok (.iload_n 2, 1) := by decide +kernel
theorem dL_law_1500 : decode cL_law 1500 = .ok (.imul, 1) := by decide +kernel
theorem dL_law_1501 : decode cL_law 1501 = .ok (.iadd, 1) := by decide +kernel
theorem dL_law_1502 : decode cL_law 1502 = .ok (.invokestatic 36, 3) := by decide +kernel
theorem dL_law_1505 : decode cL_law 1505 = .ok (.iinc 2 1, 3) := by decide +kernel
theorem dL_law_1508 : decode cL_law 1508 = .ok (.goto (-1493), 3) := by decide +kernel
theorem dL_law_1511 : decode cL_law 1511 = .ok (.iconst 1, 1) := by decide +kernel
theorem dL_law_1512 : decode cL_law 1512 = .ok (.ireturn, 1) := by decide +kernel
