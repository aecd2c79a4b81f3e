theorem dX9_fewest_108 : decode cX9_fewest 108 = .ok (.i2l, 1) := by decide +kernel
theorem dX9_fewest_109 : decode cX9_fewest 109 = .ok (.ladd, 1) := by decide +kernel
theorem dX9_fewest_110 : decode cX9_fewest 110 = .ok (.lstore 6, 2) := by decide +kernel
theorem dX9_fewest_112 : decode cX9_fewest 112 = .ok (.iinc 8 1, 3) := by decide +kernel
theorem dX9_fewest_115 : decode cX9_fewest 115 = .ok (.goto (-60), 3) := by decide +kernel
theorem dX9_fewest_118 : decode cX9_fewest 118 = .ok (.lload 6, 2) := by decide +kernel
theorem dX9_fewest_120 : decode cX9_fewest 120 = .ok (.ldc2_w 582, 3) := by decide +kernel
theorem dX9_fewest_123 : decode cX9_fewest 123 = .ok (.lcmp, 1) := by decide +kernel
theorem dX9_fewest_124 : decode cX9_fewest 124 = .ok (.ifCond .le 9, 3) := by decide +kernel
theorem dX9_fewest_127 : decode cX9_fewest 127 = .ok (.aload_n 0, 1) := by decide +kernel
theorem dX9_fewest_128 : decode cX9_fewest 128 = .ok (.iconst 3, 1) := by decide +kernel
theorem dX9_fewest_129 : decode cX9_fewest 129 = .ok (.invokevirtual 58, 3) := by decide +kernel
theorem dX9_fewest_132 : decode cX9_fewest 132 = .ok (.ireturn, 1) := by decide +kernel
theorem dX9_fewest_133 : decode cX9_fewest 133 = .ok (.iconst 0, 1) := by decide +kernel
theorem dX9_fewest_134 : decode cX9_fewest 134 = .ok (.istore 8, 2) := by decide +kernel
theorem dX9_fewest_136 : decode cX9_fewest 136 = .ok (.iload 8, 2) := by decide +kernel
theorem dX9_fewest_138 : decode cX9_fewest 138 = .ok (.iload_n 2, 1) := by decide +kernel
theorem dX9_fewest_139 : decode cX9_fewest 139 = .ok (.if_icmp .gt 112, 3) := by decide +kernel
theorem dX9_fewest_142 : decode cX9_fewest 142 = .ok (.iconst 0, 1) := by decide +kernel
theorem dX9_fewest_143 : decode cX9_fewest 143 = .ok (.istore 9, 2) := by decide +kernel
theorem dX9_fewest_145 : decode cX9_fewest 145 = .ok (.iload 9, 2) := by decide +kernel
theorem dX9_fewest_147 : decode cX9_fewest 147 = .ok (.iload_n 3, 1) := by decide +kernel
theorem dX9_fewest_148 : decode cX9_fewest 148 = .ok (.if_icmp .gt 97, 3) := by decide +kernel
theorem dX9_fewest_151 : decode cX9_fewest 151 = .ok (.iconst 0, 1) := by decide +kernel
theorem dX9_fewest_152 : decode cX9_fewest 152 = .ok (.istore 10, 2) := by decide +kernel
theorem dX9_fewest_154 : decode cX9_fewest 154 = .ok (.iload 10, 2) := by decide +kernel
theorem dX9_fewest_156 : decode cX9_fewest 156 = .ok (.iload 4, 2) := by decide +kernel
theorem dX9_fewest_158 : decode cX9_fewest 158 = .ok (.if_icmp .gt 81, 3) := by decide +kernel
theorem dX9_fewest_161 : decode cX9_fewest 161 = .ok (.iconst 0, 1) := by decide +kernel
theorem dX9_fewest_162 : decode cX9_fewest 162 = .ok (.istore 11, 2) := by decide +kernel
theorem dX9_fewest_164 : decode cX9_fewest 164 = .ok (.iload 11, 2) := by decide +kernel
theorem dX9_fewest_166 : decode cX9_fewest 166 = .ok (.iload 5, 2) := by decide +kernel
theorem dX9_fewest_168 : decode cX9_fewest 168 = .ok (.if_icmp .gt 65, 3) := by decide +kernel
theorem dX9_fewest_171 : decode cX9_fewest 171 = .ok (.aload_n 0, 1) := by decide +kernel
theorem dX9_fewest_172 : decode cX9_fewest 172 = .ok (.getfield 31, 3) := by decide +kernel
theorem dX9_fewest_175 : decode cX9_fewest 175 = .ok (.aload_n 0, 1) := by decide +kernel
theorem dX9_fewest_176 : decode cX9_fewest 176 = .ok (.iload 8, 2) := by decide +kernel
theorem dX9_fewest_178 : decode cX9_fewest 178 = .ok (.iload 9, 2) := by decide +kernel
theorem dX9_fewest_180 : decode cX9_fewest 180 = .ok (.iload 10, 2) := by decide +kernel
theorem dX9_fewest_182 : decode cX9_fewest 182 = .ok (.iload 11, 2) := by decide +kernel
theorem dX9_fewest_184 : decode cX9_fewest 184 = .ok (.invokevirtual 578, 3) := by decide +kernel
theorem dX9_fewest_187 : decode cX9_fewest 187 = .ok (.iload 8, 2) := by decide +kernel
theorem dX9_fewest_189 : decode cX9_fewest 189 = .ok (.iload 9, 2) := by decide +kernel
theorem dX9_fewest_191 : decode cX9_fewest 191 = .ok (.iadd, 1) := by decide +kernel
theorem dX9_fewest_192 : decode cX9_fewest 192 = .ok (.iload 10, 2) := by decide +kernel
theorem dX9_fewest_194 : decode cX9_fewest 194 = .ok (.iadd, 1) := by decide +kernel
theorem dX9_fewest_195 : decode cX9_fewest 195 = .ok (.iload 11, 2) := by decide +kernel
theorem dX9_fewest_197 : decode cX9_fewest 197 = .ok (.iadd, 1) := by decide +kernel
theorem dX9_fewest_198 : decode cX9_fewest 198 = .ok (.ifCond .ne 7, 3) := by decide +kernel
theorem dX9_fewest_201 : decode cX9_fewest 201 = .ok (.iconst 0, 1) := by decide +kernel
theorem dX9_fewest_202 : decode cX9_fewest 202 = .ok (.goto 24, 3) := by decide +kernel
theorem dX9_fewest_205 : decode cX9_fewest 205 = .ok (.aload_n 0, 1) := by decide +kernel
theorem dX9_fewest_206 : decode cX9_fewest 206 = .ok (.aload_n 0, 1) := by decide +kernel
theorem dX9_fewest_207 : decode cX9_fewest 207 = .ok (.getfield 425, 3) := by decide +kernel
theorem dX9_fewest_210 : decode cX9_fewest 210 = .ok (.getfield 331, 3) := by decide +kernel
theorem dX9_fewest_213 : decode cX9_fewest 213 = .ok (.iload_n 1, 1) := by decide +kernel
theorem dX9_fewest_214 : decode cX9_fewest 214 = .ok (.iaload, 1) := by decide +kernel
theorem dX9_fewest_215 : decode cX9_fewest 215 = .ok (.iload 8, 2) := by decide +kernel
theorem dX9_fewest_217 : decode cX9_fewest 217 = .ok (.iload 9, 2) := by decide +kernel
theorem dX9_fewest_219 : decode cX9_fewest 219 = .ok (.iload 10, 2) := by decide +kernel
theorem dX9_fewest_221 : decode cX9_fewest 221 = .ok (.iload 11, 2) := by decide +kernel
theorem dX9_fewest_223 : decode cX9_fewest 223 = .ok (.invokevirtual 584, 3) := by decide +kernel
theorem dX9_fewest_226 : decode cX9_fewest 226 = .ok (.iastore, 1) := by decide +kernel
theorem dX9_fewest_227 : decode cX9_fewest 227 = .ok (.iinc 11 1, 3) := by decide +kernel
theorem dX9_fewest_230 : decode cX9_fewest 230 = .ok (.goto (-66), 3) := by decide +kernel
theorem dX9_fewest_233 : decode cX9_fewest 233 = .ok (.iinc 10 1, 3) := by decide +kernel
theorem dX9_fewest_236 : decode cX9_fewest 236 = .ok (.goto (-82), 3) := by decide +kernel
theorem dX9_fewest_239 : decode cX9_fewest 239 = .ok (.iinc 9 1, 3) := by decide +kernel
theorem dX9_fewest_242 : decode cX9_fewest 242 = .ok (.goto (-97), 3) := by decide +kernel
theorem dX9_fewest_245 : decode cX9_fewest 245 = .ok (.iinc 8 1, 3) := by decide +kernel
theorem dX9_fewest_248 : decode cX9_fewest 248 = .ok (.goto (-112), 3) := by decide +kernel
theorem dX9_fewest_251 : decode cX9_fewest 251 = .ok (.aload_n 0, 1) := by decide +kernel
theorem dX9_fewest_252 : decode cX9_fewest 252 = .ok (.aload_n 0, 1) := by decide +kernel
theorem dX9_fewest_253 : decode cX9_fewest 253 = .ok (.getfield 31, 3) := by decide +kernel
theorem dX9_fewest_256 : decode cX9_fewest 256 = .ok (.aload_n 0, 1) := by decide +kernel
theorem dX9_fewest_257 : decode cX9_fewest 257 = .ok (.iload_n 2, 1) := by decide +kernel
theorem dX9_fewest_258 : decode cX9_fewest 258 = .ok (.iload_n 3, 1) := by decide +kernel
theorem dX9_fewest_259 : decode cX9_fewest 259 = .ok (.iload 4, 2) := by decide +kernel
theorem dX9_fewest_261 : decode cX9_fewest 261 = .ok (.iload 5, 2) := by decide +kernel
theorem dX9_fewest_263 : decode cX9_fewest 263 = .ok (.invokevirtual 578, 3) := by decide +kernel
theorem dX9_fewest_266 : decode cX9_fewest 266 = .ok (.iaload, 1) := by decide +kernel
theorem dX9_fewest_267 : decode cX9_fewest 267 = .ok (.invokevirtual 62, 3) := by decide +kernel
theorem dX9_fewest_270 : decode cX9_fewest 270 = .ok (.ireturn, 1) := by decide +kernel
theorem dX9_valueOf_0 : decode cX9_valueOf 0 = .ok (.iload_n 0, 1) := by decide +kernel
theorem dX9_valueOf_1 : decode cX9_valueOf 1 = .ok (.tableswitch 47 0 4 #[35, 37, 39, 41, 44], 35) := by decide +kernel
theorem dX9_valueOf_36 : decode cX9_valueOf 36 = .ok (.iconst 1, 1) := by decide +kernel
theorem dX9_valueOf_37 : decode cX9_valueOf 37 = .ok (.ireturn, 1) := by decide +kernel
theorem dX9_valueOf_38 : decode cX9_valueOf 38 = .ok (.iconst 2, 1) := by decide +kernel
theorem dX9_valueOf_39 : decode cX9_valueOf 39 = .ok (.ireturn, 1) := by decide +kernel
theorem dX9_valueOf_40 : decode cX9_valueOf 40 = .ok (.iconst 5, 1) := by decide +kernel
theorem dX9_valueOf_41 : decode cX9_valueOf 41 = .ok (.ireturn, 1) := by decide +kernel
theorem dX9_valueOf_42 : decode cX9_valueOf 42 = .ok (.bipush 10, 2) := by decide +kernel
theorem dX9_valueOf_44 : decode cX9_valueOf 44 = .ok (.ireturn, 1) := by decide +kernel
theorem dX9_valueOf_45 : decode cX9_valueOf 45 = .ok (.bipush 20, 2) := by decide +kernel
theorem dX9_valueOf_47 : decode cX9_valueOf 47 = .ok (.ireturn, 1) := by decide +kernel
theorem dX9_valueOf_48 : decode cX9_valueOf 48 = .ok (.bipush 50, 2) := by decide +kernel
theorem dX9_valueOf_50 : decode cX9_valueOf 50 = .ok (.ireturn, 1) := by decide +kernel
theorem dX9_coinOf_0 : decode cX9_coinOf 0 = .ok (.iconst 0, 1) := by decide +kernel
theorem dX9_coinOf_1 : decode cX9_coinOf 1 = .ok (.istore_n 1, 1) := by decide +kernel
theorem dX9_coinOf_2 : decode cX9_coinOf 2 = .ok (.iload_n 1, 1) := by decide +kernel
theorem dX9_coinOf_3 : decode cX9_coinOf 3 = .ok (.bipush 6, 2) := by decide +kernel
theorem dX9_coinOf_5 : decode cX9_coinOf 5 = .ok (.if_icmp .ge 19, 3) := by decide +kernel
theorem dX9_coinOf_8 : decode cX9_coinOf 8 = .ok (.iload_n 1, 1) := by decide +kernel
theorem dX9_coinOf_9 : decode cX9_coinOf 9 = .ok (.invokestatic 588, 3) := by decide +kernel
theorem dX9_coinOf_12 : decode cX9_coinOf 12 = .ok (.iload_n 0, 1) := by decide +kernel
theorem dX9_coinOf_13 : decode cX9_coinOf 13 = .ok (.if_icmp .ne 5, 3) := by decide +kernel
theorem dX9_coinOf_16 : decode cX9_coinOf 16 = .ok (.iload_n 1, 1) := by decide +kernel
theorem dX9_coinOf_17 : decode cX9_coinOf 17 = .ok (.ireturn, 1) := by decide +kernel
theorem dX9_coinOf_18 : decode cX9_coinOf 18 = .ok (.iinc 1 1, 3) := by decide +kernel
theorem dX9_coinOf_21 : decode cX9_coinOf 21 = .ok (.goto (-19), 3) := by decide +kernel
theorem dX9_coinOf_24 : decode cX9_coinOf 24 = .ok (.iconst (-1), 1) := by decide +kernel
theorem dX9_coinOf_25 : decode cX9_coinOf 25 = .ok (.ireturn, 1) := by decide +kernel
theorem dX9_till_0 : decode cX9_till 0 = .ok (.aload_n 0, 1) := by decide +kernel
theorem dX9_till_1 : decode cX9_till 1 = .ok (.iconst 0, 1) := by decide +kernel
theorem dX9_till_2 : decode cX9_till 2 = .ok (.putfield 52, 3) := by decide +kernel
theorem dX9_till_5 : decode cX9_till 5 = .ok (.iload_n 1, 1) := by decide +kernel
theorem dX9_till_6 : decode cX9_till 6 = .ok (.invokestatic 591, 3) := by decide +kernel
theorem dX9_till_9 : decode cX9_till 9 = .ok (.iconst (-1), 1) := by decide +kernel
theorem dX9_till_10 : decode cX9_till 10 = .ok (.if_icmp .eq 13, 3) := by decide +kernel
theorem dX9_till_13 : decode cX9_till 13 = .ok (.iload_n 2, 1) := by decide +kernel
theorem dX9_till_14 : decode cX9_till 14 = .ok (.iconst 0, 1) := by decide +kernel
theorem dX9_till_15 : decode cX9_till 15 = .ok (.bipush 99, 2) := by decide +kernel
theorem dX9_till_17 : decode cX9_till 17 = .ok (.invokestatic 130, 3) := by decide +kernel
theorem dX9_till_20 : decode cX9_till 20 = .ok (.ifCond .ne 9, 3) := by decide +kernel
theorem dX9_till_23 : decode cX9_till 23 = .ok (.aload_n 0, 1) := by decide +kernel
theorem dX9_till_24 : decode cX9_till 24 = .ok (.iconst 2, 1) := by decide +kernel
theorem dX9_till_25 : decode cX9_till 25 = .ok (.invokevirtual 462, 3) := by decide +kernel
theorem dX9_till_28 : decode cX9_till 28 = .ok (.ireturn, 1) := by decide +kernel
theorem dX9_till_29 : decode cX9_till 29 = .ok (.aload_n 0, 1) := by decide +kernel
theorem dX9_till_30 : decode cX9_till 30 = .ok (.getfield 37, 3) := by decide +kernel
theorem dX9_till_33 : decode cX9_till 33 = .ok (.iload_n 1, 1) := by decide +kernel
theorem dX9_till_34 : decode cX9_till 34 = .ok (.invokestatic 591, 3) := by decide +kernel
theorem dX9_till_37 : decode cX9_till 37 = .ok (.iload_n 2, 1) := by decide +kernel
theorem dX9_till_38 : decode cX9_till 38 = .ok (.iastore, 1) := by decide +kernel
theorem dX9_till_39 : decode cX9_till 39 = .ok (.aload_n 0, 1) := by decide +kernel
theorem dX9_till_40 : decode cX9_till 40 = .ok (.invokevirtual 466, 3) := by decide +kernel
theorem dX9_till_43 : decode cX9_till 43 = .ok (.pop, 1) := by decide +kernel
theorem dX9_till_44 : decode cX9_till 44 = .ok (.iconst 1, 1) := by decide +kernel
theorem dX9_till_45 : decode cX9_till 45 = .ok (.ireturn, 1) := by decide +kernel
theorem dX9_coinsFor_0 : decode cX9_coinsFor 0 = .ok (.iload_n 2, 1) := by decide +kernel
theorem dX9_coinsFor_1 : decode cX9_coinsFor 1 = .ok (.iconst (-1), 1) := by decide +kernel
theorem dX9_coinsFor_2 : decode cX9_coinsFor 2 = .ok (.if_icmp .ne 15, 3) := by decide +kernel
theorem dX9_coinsFor_5 : decode cX9_coinsFor 5 = .ok (.iload_n 1, 1) := by decide +kernel
theorem dX9_coinsFor_6 : decode cX9_coinsFor 6 = .ok (.ifCond .ne 7, 3) := by decide +kernel
theorem dX9_coinsFor_9 : decode cX9_coinsFor 9 = .ok (.iconst 0, 1) := by decide +kernel
theorem dX9_coinsFor_10 : decode cX9_coinsFor 10 = .ok (.goto 18, 3) := by decide +kernel
theorem dX9_coinsFor_13 : decode cX9_coinsFor 13 = .ok (.iconst (-1), 1) := by decide +kernel
theorem dX9_coinsFor_14 : decode cX9_coinsFor 14 = .ok (.goto 14, 3) := by decide +kernel
theorem dX9_coinsFor_17 : decode cX9_coinsFor 17 = .ok (.aload_n 0, 1) := by decide +kernel
theorem dX9_coinsFor_18 : decode cX9_coinsFor 18 = .ok (.getfield 46, 3) := by decide +kernel
theorem dX9_coinsFor_21 : decode cX9_coinsFor 21 = .ok (.bipush 6, 2) := by decide +kernel
theorem dX9_coinsFor_23 : decode cX9_coinsFor 23 = .ok (.iload_n 1, 1) := by decide +kernel
theorem dX9_coinsFor_24 : decode cX9_coinsFor 24 = .ok (.imul, 1) := by decide +kernel
theorem dX9_coinsFor_25 : decode cX9_coinsFor 25 = .ok (.iload_n 2, 1) := by decide +kernel
theorem dX9_coinsFor_26 : decode cX9_coinsFor 26 = .ok (.iadd, 1) := by decide +kernel
theorem dX9_coinsFor_27 : decode cX9_coinsFor 27 = .ok (.iaload, 1) := by decide +kernel
theorem dX9_coinsFor_28 : decode cX9_coinsFor 28 = .ok (.ireturn, 1) := by decide +kernel
theorem dX9_lays_0 : decode cX9_lays 0 = .ok (.iconst 0, 1) := by decide +kernel
theorem dX9_lays_1 : decode cX9_lays 1 = .ok (.istore_n 2, 1) := by decide +kernel
theorem dX9_lays_2 : decode cX9_lays 2 = .ok (.iload_n 2, 1) := by decide +kernel
theorem dX9_lays_3 : decode cX9_lays 3 = .ok (.bipush 6, 2) := by decide +kernel
theorem dX9_lays_5 : decode cX9_lays 5 = .ok (.if_icmp .ge 116, 3) := by decide +kernel
theorem dX9_lays_8 : decode cX9_lays 8 = .ok (.iconst 0, 1) := by decide +kernel
theorem dX9_lays_9 : decode cX9_lays 9 = .ok (.istore_n 3, 1) := by decide +kernel
theorem dX9_lays_10 : decode cX9_lays 10 = .ok (.iload_n 3, 1) := by decide +kernel
theorem dX9_lays_11 : decode cX9_lays 11 = .ok (.iload_n 1, 1) := by decide +kernel
theorem dX9_lays_12 : decode cX9_lays 12 = .ok (.if_icmp .gt 103, 3) := by decide +kernel
theorem dX9_lays_15 : decode cX9_lays 15 = .ok (.iconst (-1), 1) := by decide +kernel
theorem dX9_lays_16 : decode cX9_lays 16 = .ok (.istore 4, 2) := by decide +kernel
theorem dX9_lays_18 : decode cX9_lays 18 = .ok (.iconst 0, 1) := by decide +kernel
theorem dX9_lays_19 : decode cX9_lays 19 = .ok (.istore 5, 2) := by decide +kernel
theorem dX9_lays_21 : decode cX9_lays 21 = .ok (.iload 5, 2) := by decide +kernel
theorem dX9_lays_23 : decode cX9_lays 23 = .ok (.aload_n 0, 1) := by decide +kernel
theorem dX9_lays_24 : decode cX9_lays 24 = .ok (.getfield 37, 3) := by decide +kernel
theorem dX9_lays_27 : decode cX9_lays 27 = .ok (.iload_n 2, 1) := by decide +kernel
theorem dX9_lays_28 : decode cX9_lays 28 = .ok (.iaload, 1) := by decide +kernel
theorem dX9_lays_29 : decode cX9_lays 29 = .ok (.if_icmp .gt 67, 3) := by decide +kernel
theorem dX9_lays_32 : decode cX9_lays 32 = .ok (.iload 5, 2) := by decide +kernel
theorem dX9_lays_34 : decode cX9_lays 34 = .ok (.iload_n 2, 1) := by decide +kernel
theorem dX9_lays_35 : decode cX9_lays 35 = .ok (.invokestatic 588, 3) := by decide +kernel
theorem dX9_lays_38 : decode cX9_lays 38 = .ok (.imul, 1) := by decide +kernel
theorem dX9_lays_39 : decode cX9_lays 39 = .ok (.iload_n 3, 1) := by decide +kernel
theorem dX9_lays_40 : decode cX9_lays 40 = .ok (.if_icmp .gt 56, 3) := by decide +kernel
theorem dX9_lays_43 : decode cX9_lays 43 = .ok (.aload_n 0, 1) := by decide +kernel
theorem dX9_lays_44 : decode cX9_lays 44 = .ok (.iload_n 3, 1) := by decide +kernel
theorem dX9_lays_45 : decode cX9_lays 45 = .ok (.iload 5, 2) := by decide +kernel
theorem dX9_lays_47 : decode cX9_lays 47 = .ok (.iload_n 2, 1) := by decide +kernel
theorem dX9_lays_48 : decode cX9_lays 48 = .ok (.invokestatic 588, 3) := by decide +kernel
theorem dX9_lays_51 : decode cX9_lays 51 = .ok (.imul, 1) := by decide +kernel
theorem dX9_lays_52 : decode cX9_lays 52 = .ok (.isub, 1) := by decide +kernel
theorem dX9_lays_53 : decode cX9_lays 53 = .ok (.iload_n 2, 1) := by decide +kernel
theorem dX9_lays_54 : decode cX9_lays 54 = .ok (.iconst 1, 1) := by decide +kernel
theorem dX9_lays_55 : decode cX9_lays 55 = .ok (.isub, 1) := by decide +kernel
theorem dX9_lays_56 : decode cX9_lays 56 = .ok (.invokevirtual 594, 3) := by decide +kernel
theorem dX9_lays_59 : decode cX9_lays 59 = .ok (.istore 6, 2) := by decide +kernel
theorem dX9_lays_61 : decode cX9_lays 61 = .ok (.iload 6, 2) := by decide +kernel
theorem dX9_lays_63 : decode cX9_lays 63 = .ok (.iconst (-1), 1) := by decide +kernel
theorem dX9_lays_64 : decode cX9_lays 64 = .ok (.if_icmp .eq 26, 3) := by decide +kernel
theorem dX9_lays_67 : decode cX9_lays 67 = .ok (.iload 4, 2) := by decide +kernel
theorem dX9_lays_69 : decode cX9_lays 69 = .ok (.iconst (-1), 1) := by decide +kernel
theorem dX9_lays_70 : decode cX9_lays 70 = .ok (.if_icmp .eq 13, 3) := by decide +kernel
theorem dX9_lays_73 : decode cX9_lays 73 = .ok (.iload 6, 2) := by decide +kernel
theorem dX9_lays_75 : decode cX9_lays 75 = .ok (.iload 5, 2) := by decide +kernel
theorem dX9_lays_77 : decode cX9_lays 77 = .ok (.iadd, 1) := by decide +kernel
theorem dX9_lays_78 : decode cX9_lays 78 = .ok (.iload 4, 2) := by decide +kernel
theorem dX9_lays_80 : decode cX9_lays 80 = .ok (.if_icmp .ge 10, 3) := by decide +kernel
theorem dX9_lays_83 : decode cX9_lays 83 = .ok (.iload 6, 2) := by decide +kernel
theorem dX9_lays_85 : decode cX9_lays 85 = .ok (.iload 5, 2) := by decide +kernel
theorem dX9_lays_87 : decode cX9_lays 87 = .ok (.iadd, 1) := by decide +kernel
theorem dX9_lays_88 : decode cX9_lays 88 = .ok (.istore 4, 2) := by decide +kernel
theorem dX9_lays_90 : decode cX9_lays 90 = .ok (.iinc 5 1, 3) := by decide +kernel
theorem dX9_lays_93 : decode cX9_lays 93 = .ok (.goto (-72), 3) := by decide +kernel
theorem dX9_lays_96 : decode cX9_lays 96 = .ok (.aload_n 0, 1) := by decide +kernel
theorem dX9_lays_97 : decode cX9_lays 97 = .ok (.getfield 46, 3) := by decide +kernel
theorem dX9_lays_100 : decode cX9_lays 100 = .ok (.bipush 6, 2) := by decide +kernel
theorem dX9_lays_102 : decode cX9_lays 102 = .ok (.iload_n 3, 1) := by decide +kernel
theorem dX9_lays_103 : decode cX9_lays 103 = .ok (.imul, 1) := by decide +kernel
theorem dX9_lays_104 : decode cX9_lays 104 = .ok (.iload_n 2, 1) := by decide +kernel
theorem dX9_lays_105 : decode cX9_lays 105 = .ok (.iadd, 1) := by decide +kernel
theorem dX9_lays_106 : decode cX9_lays 106 = .ok (.iload 4, 2) := by decide +kernel
theorem dX9_lays_108 : decode cX9_lays 108 = .ok (.iastore, 1) := by decide +kernel
theorem dX9_lays_109 : decode cX9_lays 109 = .ok (.iinc 3 1, 3) := by decide +kernel
theorem dX9_lays_112 : decode cX9_lays 112 = .ok (.goto (-102), 3) := by decide +kernel
theorem dX9_lays_115 : decode cX9_lays 115 = .ok (.iinc 2 1, 3) := by decide +kernel
theorem dX9_lays_118 : decode cX9_lays 118 = .ok (.goto (-116), 3) := by decide +kernel
theorem dX9_lays_121 : decode cX9_lays 121 = .ok (.return_, 1) := by decide +kernel
theorem dX9_gives_0 : decode cX9_gives 0 = .ok (.aload_n 0, 1) := by decide +kernel
theorem dX9_gives_1 : decode cX9_gives 1 = .ok (.iload_n 1, 1) := by decide +kernel
theorem dX9_gives_2 : decode cX9_gives 2 = .ok (.invokevirtual 597, 3) := by decide +kernel
theorem dX9_gives_5 : decode cX9_gives 5 = .ok (.aload_n 0, 1) := by decide +kernel
theorem dX9_gives_6 : decode cX9_gives 6 = .ok (.iload_n 1, 1) := by decide +kernel
theorem dX9_gives_7 : decode cX9_gives 7 = .ok (.iconst 5, 1) := by decide +kernel
theorem dX9_gives_8 : decode cX9_gives 8 = .ok (.invokevirtual 594, 3) := by decide +kernel
theorem dX9_gives_11 : decode cX9_gives 11 = .ok (.iconst (-1), 1) := by decide +kernel
theorem dX9_gives_12 : decode cX9_gives 12 = .ok (.if_icmp .ne 5, 3) := by decide +kernel
theorem dX9_gives_15 : decode cX9_gives 15 = .ok (.iconst 0, 1) := by decide +kernel
theorem dX9_gives_16 : decode cX9_gives 16 = .ok (.ireturn, 1) := by decide +kernel
theorem dX9_gives_17 : decode cX9_gives 17 = .ok (.iload_n 1, 1) := by decide +kernel
theorem dX9_gives_18 : decode cX9_gives 18 = .ok (.istore_n 2, 1) := by decide +kernel
theorem dX9_gives_19 : decode cX9_gives 19 = .ok (.iconst 5, 1) := by decide +kernel
theorem dX9_gives_20 : decode cX9_gives 20 = .ok (.istore_n 3, 1) := by decide +kernel
theorem dX9_gives_21 : decode cX9_gives 21 = .ok (.iload_n 3, 1) := by decide +kernel
theorem dX9_gives_22 : decode cX9_gives 22 = .ok (.ifCond .lt 117, 3) := by decide +kernel
theorem dX9_gives_25 : decode cX9_gives 25 = .ok (.aload_n 0, 1) := by decide +kernel
theorem dX9_gives_26 : decode cX9_gives 26 = .ok (.iload_n 2, 1) := by decide +kernel
theorem dX9_gives_27 : decode cX9_gives 27 = .ok (.iload_n 3, 1) := by decide +kernel
theorem dX9_gives_28 : decode cX9_gives 28 = .ok (.invokevirtual 594, 3) := by decide +kernel
theorem dX9_gives_31 : decode cX9_gives 31 = .ok (.istore 4, 2) := by decide +kernel
theorem dX9_gives_33 : decode cX9_gives 33 = .ok (.aload_n 0, 1) := by decide +kernel
theorem dX9_gives_34 : decode cX9_gives 34 = .ok (.getfield 37, 3) := by decide +kernel
theorem dX9_gives_37 : decode cX9_gives 37 = .ok (.iload_n 3, 1) := by decide +kernel
theorem dX9_gives_38 : decode cX9_gives 38 = .ok (.iaload, 1) := by decide +kernel
theorem dX9_gives_39 : decode cX9_gives 39 = .ok (.iload_n 2, 1) := by decide +kernel
theorem dX9_gives_40 : decode cX9_gives 40 = .ok (.iload_n 3, 1) := by decide +kernel
theorem dX9_gives_41 : decode cX9_gives 41 = .ok (.invokestatic 588, 3) := by decide +kernel
theorem dX9_gives_44 : decode cX9_gives 44 = .ok (.idiv, 1) := by decide +kernel
theorem dX9_gives_45 : decode cX9_gives 45 = .ok (.if_icmp .ge 12, 3) := by decide +kernel
theorem dX9_gives_48 : decode cX9_gives 48 = .ok (.aload_n 0, 1) := by decide +kernel
theorem dX9_gives_49 : decode cX9_gives 49 = .ok (.getfield 37, 3) := by decide +kernel
theorem dX9_gives_52 : decode cX9_gives 52 = .ok (.iload_n 3, 1) := by decide +kernel
theorem dX9_gives_53 : decode cX9_gives 53 = .ok (.iaload, 1) := by decide +kernel
theorem dX9_gives_54 : decode cX9_gives 54 = .ok (.goto 9, 3) := by decide +kernel
theorem dX9_gives_57 : decode cX9_gives 57 = .ok (.iload_n 2, 1) := by decide +kernel
theorem dX9_gives_58 : decode cX9_gives 58 = .ok (.iload_n 3, 1) := by decide +kernel
theorem dX9_gives_59 : decode cX9_gives 59 = .ok (.invokestatic 588, 3) := by decide +kernel
theorem dX9_gives_62 : decode cX9_gives 62 = .ok (.idiv, 1) := by decide +kernel
theorem dX9_gives_63 : decode cX9_gives 63 = .ok (.istore 5, 2) := by decide +kernel
theorem dX9_gives_65 : decode cX9_gives 65 = .ok (.aload_n 0, 1) := by decide +kernel
theorem dX9_gives_66 : decode cX9_gives 66 = .ok (.iload_n 2, 1) := by decide +kernel
theorem dX9_gives_67 : decode cX9_gives 67 = .ok (.iload 5, 2) := by decide +kernel
theorem dX9_gives_69 : decode cX9_gives 69 = .ok (.iload_n 3, 1) := by decide +kernel
theorem dX9_gives_70 : decode cX9_gives 70 = .ok (.invokestatic 588, 3) := by decide +kernel
theorem dX9_gives_73 : decode cX9_gives 73 = .ok (.imul, 1) := by decide +kernel
theorem dX9_gives_74 : decode cX9_gives 74 = .ok (.isub, 1) := by decide +kernel
theorem dX9_gives_75 : decode cX9_gives 75 = .ok (.iload_n 3, 1) := by decide +kernel
theorem dX9_gives_76 : decode cX9_gives 76 = .ok (.iconst 1, 1) := by decide +kernel
theorem dX9_gives_77 : decode cX9_gives 77 = .ok (.isub, 1) := by decide +kernel
theorem dX9_gives_78 : decode cX9_gives 78 = .ok (.invokevirtual 594, 3) := by decide +kernel
theorem dX9_gives_81 : decode cX9_gives 81 = .ok (.iconst (-1), 1) := by decide +kernel
theorem dX9_gives_82 : decode cX9_gives 82 = .ok (.if_icmp .eq 27, 3) := by decide +kernel
theorem dX9_gives_85 : decode cX9_gives 85 = .ok (.aload_n 0, 1) := by decide +kernel
theorem dX9_gives_86 : decode cX9_gives 86 = .ok (.iload_n 2, 1) := by decide +kernel
theorem dX9_gives_87 : decode cX9_gives 87 = .ok (.iload 5, 2) := by decide +kernel
theorem dX9_gives_89 : decode cX9_gives 89 = .ok (.iload_n 3, 1) := by decide +kernel
theorem dX9_gives_90 : decode cX9_gives 90 = .ok (.invokestatic 588, 3) := by decide +kernel
theorem dX9_gives_93 : decode cX9_gives 93 = .ok (.imul, 1) := by decide +kernel
theorem dX9_gives_94 : decode cX9_gives 94 = .ok (.isub, 1) := by decide +kernel
theorem dX9_gives_95 : decode cX9_gives 95 = .ok (.iload_n 3, 1) := by decide +kernel
theorem dX9_gives_96 : decode cX9_gives 96 = .ok (.iconst 1, 1) := by decide +kernel
theorem dX9_gives_97 : decode cX9_gives 97 = .ok (.isub, 1) := by decide +kernel
theorem dX9_gives_98 : decode cX9_gives 98 = .ok (.invokevirtual 594, 3) := by decide +kernel
theorem dX9_gives_101 : decode cX9_gives 101 = .ok (.iload 5, 2) := by decide +kernel
theorem dX9_gives_103 : decode cX9_gives 103 = .ok (.iadd, 1) := by decide +kernel
theorem dX9_gives_104 : decode cX9_gives 104 = .ok (.iload 4, 2) := by decide +kernel
theorem dX9_gives_106 : decode cX9_gives 106 = .ok (.if_icmp .eq 9, 3) := by decide +kernel
theorem dX9_gives_109 : decode cX9_gives 109 = .ok (.iinc 5 (-1), 3) := by decide +kernel
theorem dX9_gives_112 : decode cX9_gives 112 = .ok (.goto (-47), 3) := by decide +kernel
theorem dX9_gives_115 : decode cX9_gives 115 = .ok (.aload_n 0, 1) := by decide +kernel
theorem dX9_gives_116 : decode cX9_gives 116 = .ok (.getfield 43, 3) := by decide +kernel
theorem dX9_gives_119 : decode cX9_gives 119 = .ok (.iload_n 3, 1) := by decide +kernel
theorem dX9_gives_120 : decode cX9_gives 120 = .ok (.iload 5, 2) := by decide +kernel
theorem dX9_gives_122 : decode cX9_gives 122 = .ok (.iastore, 1) := by decide +kernel
theorem dX9_gives_123 : decode cX9_gives 123 = .ok (.iload_n 2, 1) := by decide +kernel
theorem dX9_gives_124 : decode cX9_gives 124 = .ok (.iload 5, 2) := by decide +kernel
theorem dX9_gives_126 : decode cX9_gives 126 = .ok (.iload_n 3, 1) := by decide +kernel
theorem dX9_gives_127 : decode cX9_gives 127 = .ok (.invokestatic 588, 3) := by decide +kernel
theorem dX9_gives_130 : decode cX9_gives 130 = .ok (.imul, 1) := by decide +kernel
theorem dX9_gives_131 : decode cX9_gives 131 = .ok (.isub, 1) := by decide +kernel
theorem dX9_gives_132 : decode cX9_gives 132 = .ok (.istore_n 2, 1) := by decide +kernel
theorem dX9_gives_133 : decode cX9_gives 133 = .ok (.iinc 3 (-1), 3) := by decide +kernel
theorem dX9_gives_136 : decode cX9_gives 136 = .ok (.goto (-115), 3) := by decide +kernel
theorem dX9_gives_139 : decode cX9_gives 139 = .ok (.iconst 1, 1) := by decide +kernel
theorem dX9_gives_140 : decode cX9_gives 140 = .ok (.ireturn, 1) := by decide +kernel
theorem dX9_sell_0 : decode cX9_sell 0 = .ok (.aload_n 0, 1) := by decide +kernel
theorem dX9_sell_1 : decode cX9_sell 1 = .ok (.iconst 0, 1) := by decide +kernel
theorem dX9_sell_2 : decode cX9_sell 2 = .ok (.putfield 52, 3) := by decide +kernel
theorem dX9_sell_5 : decode cX9_sell 5 = .ok (.aload_n 0, 1) := by decide +kernel
theorem dX9_sell_6 : decode cX9_sell 6 = .ok (.getfield 425, 3) := by decide +kernel
theorem dX9_sell_9 : decode cX9_sell 9 = .ok (.ifnull 18, 3) := by decide +kernel
theorem dX9_sell_12 : decode cX9_sell 12 = .ok (.iload_n 1, 1) := by decide +kernel
theorem dX9_sell_13 : decode cX9_sell 13 = .ok (.ifCond .lt 14, 3) := by decide +kernel
theorem dX9_sell_16 : decode cX9_sell 16 = .ok (.iload_n 1, 1) := by decide +kernel
theorem dX9_sell_17 : decode cX9_sell 17 = .ok (.aload_n 0, 1) := by decide +kernel
theorem dX9_sell_18 : decode cX9_sell 18 = .ok (.getfield 425, 3) := by decide +kernel
theorem dX9_sell_21 : decode cX9_sell 21 = .ok (.getfield 411, 3) := by decide +kernel
theorem dX9_sell_24 : decode cX9_sell 24 = .ok (.if_icmp .lt 9, 3) := by decide +kernel
theorem dX9_sell_27 : decode cX9_sell 27 = .ok (.aload_n 0, 1) := by decide +kernel
theorem dX9_sell_28 : decode cX9_sell 28 = .ok (.iconst 1, 1) := by decide +kernel
theorem dX9_sell_29 : decode cX9_sell 29 = .ok (.invokevirtual 58, 3) := by decide +kernel
theorem dX9_sell_32 : decode cX9_sell 32 = .ok (.ireturn, 1) := by decide +kernel
theorem dX9_sell_33 : decode cX9_sell 33 = .ok (.iload_n 2, 1) := by decide +kernel
theorem dX9_sell_34 : decode cX9_sell 34 = .ok (.invokestatic 591, 3) := by decide +kernel
theorem dX9_sell_37 : decode cX9_sell 37 = .ok (.istore_n 3, 1) := by decide +kernel
theorem dX9_sell_38 : decode cX9_sell 38 = .ok (.iload_n 3, 1) := by decide +kernel
theorem dX9_sell_39 : decode cX9_sell 39 = .ok (.iconst (-1), 1) := by decide +kernel
theorem dX9_sell_40 : decode cX9_sell 40 = .ok (.if_icmp .ne 15, 3) := by decide +kernel
theorem dX9_sell_43 : decode cX9_sell 43 = .ok (.iload_n 2, 1) := by decide +kernel
theorem dX9_sell_44 : decode cX9_sell 44 = .ok (.bipush 100, 2) := by decide +kernel
theorem dX9_sell_46 : decode cX9_sell 46 = .ok (.if_icmp .eq 9, 3) := by decide +kernel
theorem dX9_sell_49 : decode cX9_sell 49 = .ok (.aload_n 0, 1) := by decide +kernel
theorem dX9_sell_50 : decode cX9_sell 50 = .ok (.iconst 2, 1) := by decide +kernel
theorem dX9_sell_51 : decode cX9_sell 51 = .ok (.invokevirtual 58, 3) := by decide +kernel
theorem dX9_sell_54 : decode cX9_sell 54 = .ok (.ireturn, 1) := by decide +kernel
theorem dX9_sell_55 : decode cX9_sell 55 = .ok (.iload_n 2, 1) := by decide +kernel
theorem dX9_sell_56 : decode cX9_sell 56 = .ok (.aload_n 0, 1) := by decide +kernel
theorem dX9_sell_57 : decode cX9_sell 57 = .ok (.getfield 425, 3) := by decide +kernel
theorem dX9_sell_60 : decode cX9_sell 60 = .ok (.getfield 416, 3) := by decide +kernel
theorem dX9_sell_63 : decode cX9_sell 63 = .ok (.iload_n 1, 1) := by decide +kernel
theorem dX9_sell_64 : decode cX9_sell 64 = .ok (.iaload, 1) := by decide +kernel
theorem dX9_sell_65 : decode cX9_sell 65 = .ok (.isub, 1) := by decide +kernel
theorem dX9_sell_66 : decode cX9_sell 66 = .ok (.istore 4, 2) := by decide +kernel
theorem dX9_sell_68 : decode cX9_sell 68 = .ok (.iload 4, 2) := by decide +kernel
theorem dX9_sell_70 : decode cX9_sell 70 = .ok (.ifCond .ge 9, 3) := by decide +kernel
theorem dX9_sell_73 : decode cX9_sell 73 = .ok (.aload_n 0, 1) := by decide +kernel
theorem dX9_sell_74 : decode cX9_sell 74 = .ok (.iconst 5, 1) := by decide +kernel
theorem dX9_sell_75 : decode cX9_sell 75 = .ok (.invokevirtual 58, 3) := by decide +kernel
theorem dX9_sell_78 : decode cX9_sell 78 = .ok (.ireturn, 1) := by decide +kernel
theorem dX9_sell_79 : decode cX9_sell 79 = .ok (.iload_n 3, 1) := by decide +kernel
theorem dX9_sell_80 : decode cX9_sell 80 = .ok (.iconst (-1), 1) := by decide +kernel
theorem dX9_sell_81 : decode cX9_sell 81 = .ok (.if_icmp .eq 14, 3) := by decide +kernel
theorem dX9_sell_84 : decode cX9_sell 84 = .ok (.aload_n 0, 1) := by decide +kernel
theorem dX9_sell_85 : decode cX9_sell 85 = .ok (.getfield 37, 3) := by decide +kernel
theorem dX9_sell_88 : decode cX9_sell 88 = .ok (.iload_n 3, 1) := by decide +kernel
theorem dX9_sell_89 : decode cX9_sell 89 = .ok (.iaload, 1) := by decide +kernel
theorem dX9_sell_90 : decode cX9_sell 90 = .ok (.bipush 99, 2) := by decide +kernel
theorem dX9_sell_92 : decode cX9_sell 92 = .ok (.if_icmp .eq 12, 3) := by decide +kernel
theorem dX9_sell_95 : decode cX9_sell 95 = .ok (.aload_n 0, 1) := by decide +kernel
theorem dX9_sell_96 : decode cX9_sell 96 = .ok (.iload 4, 2) := by decide +kernel
theorem dX9_sell_98 : decode cX9_sell 98 = .ok (.invokevirtual 600, 3) := by decide +kernel
theorem dX9_sell_101 : decode cX9_sell 101 = .ok (.ifCond .ne 10, 3) := by decide +kernel
theorem dX9_sell_104 : decode cX9_sell 104 = .ok (.aload_n 0, 1) := by decide +kernel
theorem dX9_sell_105 : decode cX9_sell 105 = .ok (.bipush 6, 2) := by decide +kernel
theorem dX9_sell_107 : decode cX9_sell 107 = .ok (.invokevirtual 58, 3) := by decide +kernel
theorem dX9_sell_110 : decode cX9_sell 110 = .ok (.ireturn, 1) := by decide +kernel
theorem dX9_sell_111 : decode cX9_sell 111 = .ok (.iconst 0, 1) := by decide +kernel
theorem dX9_sell_112 : decode cX9_sell 112 = .ok (.istore 5, 2) := by decide +kernel
theorem dX9_sell_114 : decode cX9_sell 114 = .ok (.iload 5, 2) := by decide +kernel
theorem dX9_sell_116 : decode cX9_sell 116 = .ok (.bipush 6, 2) := by decide +kernel
theorem dX9_sell_118 : decode cX9_sell 118 = .ok (.if_icmp .ge 40, 3) := by decide +kernel
theorem dX9_sell_121 : decode cX9_sell 121 = .ok (.aload_n 0, 1) := by decide +kernel
theorem dX9_sell_122 : decode cX9_sell 122 = .ok (.getfield 40, 3) := by decide +kernel
theorem dX9_sell_125 : decode cX9_sell 125 = .ok (.iload 5, 2) := by decide +kernel
theorem dX9_sell_127 : decode cX9_sell 127 = .ok (.aload_n 0, 1) := by decide +kernel
theorem dX9_sell_128 : decode cX9_sell 128 = .ok (.getfield 43, 3) := by decide +kernel
theorem dX9_sell_131 : decode cX9_sell 131 = .ok (.iload 5, 2) := by decide +kernel
theorem dX9_sell_133 : decode cX9_sell 133 = .ok (.iaload, 1) := by decide +kernel
theorem dX9_sell_134 : decode cX9_sell 134 = .ok (.iastore, 1) := by decide +kernel
theorem dX9_sell_135 : decode cX9_sell 135 = .ok (.aload_n 0, 1) := by decide +kernel
theorem dX9_sell_136 : decode cX9_sell 136 = .ok (.getfield 37, 3) := by decide +kernel
theorem dX9_sell_139 : decode cX9_sell 139 = .ok (.iload 5, 2) := by decide +kernel
theorem dX9_sell_141 : decode cX9_sell 141 = .ok (.dup2, 1) := by decide +kernel
theorem dX9_sell_142 : decode cX9_sell 142 = .ok (.iaload, 1) := by decide +kernel
theorem dX9_sell_143 : decode cX9_sell 143 = .ok (.aload_n 0, 1) := by decide +kernel
theorem dX9_sell_144 : decode cX9_sell 144 = .ok (.getfield 43, 3) := by decide +kernel
theorem dX9_sell_147 : decode cX9_sell 147 = .ok (.iload 5, 2) := by decide +kernel
theorem dX9_sell_149 : decode cX9_sell 149 = .ok (.iaload, 1) := by decide +kernel
theorem dX9_sell_150 : decode cX9_sell 150 = .ok (.isub, 1) := by decide +kernel
theorem dX9_sell_151 : decode cX9_sell 151 = .ok (.iastore, 1) := by decide +kernel
theorem dX9_sell_152 : decode cX9_sell 152 = .ok (.iinc 5 1, 3) := by decide +kernel
theorem dX9_sell_155 : decode cX9_sell 155 = .ok (.goto (-41), 3) := by decide +kernel
theorem dX9_sell_158 : decode cX9_sell 158 = .ok (.iload_n 3, 1) := by decide +kernel
theorem dX9_sell_159 : decode cX9_sell 159 = .ok (.iconst (-1), 1) := by decide +kernel
theorem dX9_sell_160 : decode cX9_sell 160 = .ok (.if_icmp .eq 16, 3) := by decide +kernel
theorem dX9_sell_163 : decode cX9_sell 163 = .ok (.aload_n 0, 1) := by decide +kernel
theorem dX9_sell_164 : decode cX9_sell 164 = .ok (.getfield 37, 3) := by decide +kernel
theorem dX9_sell_167 : decode cX9_sell 167 = .ok (.iload_n 3, 1) := by decide +kernel
theorem dX9_sell_168 : decode cX9_sell 168 = .ok (.dup2, 1) := by decide +kernel
theorem dX9_sell_169 : decode cX9_sell 169 = .ok (.iaload, 1) := by decide +kernel
theorem dX9_sell_170 : decode cX9_sell 170 = .ok (.iconst 1, 1) := by decide +kernel
theorem dX9_sell_171 : decode cX9_sell 171 = .ok (.iadd, 1) := by decide +kernel
theorem dX9_sell_172 : decode cX9_sell 172 = .ok (.iastore, 1) := by decide +kernel
theorem dX9_sell_173 : decode cX9_sell 173 = .ok (.goto 13, 3) := by decide +kernel
theorem dX9_sell_176 : decode cX9_sell 176 = .ok (.aload_n 0, 1) := by decide +kernel
theorem dX9_sell_177 : decode cX9_sell 177 = .ok (.dup, 1) := by decide +kernel
theorem dX9_sell_178 : decode cX9_sell 178 = .ok (.getfield 603, 3) := by decide +kernel
theorem dX9_sell_181 : decode cX9_sell 181 = .ok (.iconst 1, 1) := by decide +kernel
theorem dX9_sell_182 : decode cX9_sell 182 = .ok (.iadd, 1) := by decide +kernel
theorem dX9_sell_183 : decode cX9_sell 183 = .ok (.putfield 603, 3) := by decide +kernel
theorem dX9_sell_186 : decode cX9_sell 186 = .ok (.aload_n 0, 1) := by decide +kernel
theorem dX9_sell_187 : decode cX9_sell 187 = .ok (.iload 4, 2) := by decide +kernel
theorem dX9_sell_189 : decode cX9_sell 189 = .ok (.invokevirtual 62, 3) := by decide +kernel
theorem dX9_sell_192 : decode cX9_sell 192 = .ok (.ireturn, 1) := by decide +kernel
theorem dX9_given_0 : decode cX9_given 0 = .ok (.aload_n 0, 1) := by decide +kernel
theorem dX9_given_1 : decode cX9_given 1 = .ok (.iconst 0, 1) := by decide +kernel
theorem dX9_given_2 : decode cX9_given 2 = .ok (.putfield 52, 3) := by decide +kernel
theorem dX9_given_5 : decode cX9_given 5 = .ok (.iload_n 1, 1) := by decide +kernel
theorem dX9_given_6 : decode cX9_given 6 = .ok (.invokestatic 591, 3) := by decide +kernel
theorem dX9_given_9 : decode cX9_given 9 = .ok (.iconst (-1), 1) := by decide +kernel
theorem dX9_given_10 : decode cX9_given 10 = .ok (.if_icmp .ne 11, 3) := by decide +kernel
theorem dX9_given_13 : decode cX9_given 13 = .ok (.aload_n 0, 1) := by decide +kernel
theorem dX9_given_14 : decode cX9_given 14 = .ok (.iconst 2, 1) := by decide +kernel
theorem dX9_given_15 : decode cX9_given 15 = .ok (.invokevirtual 58, 3) := by decide +kernel
theorem dX9_given_18 : decode cX9_given 18 = .ok (.goto 16, 3) := by decide +kernel
theorem dX9_given_21 : decode cX9_given 21 = .ok (.aload_n 0, 1) := by decide +kernel
theorem dX9_given_22 : decode cX9_given 22 = .ok (.aload_n 0, 1) := by decide +kernel
theorem dX9_given_23 : decode cX9_given 23 = .ok (.getfield 40, 3) := by decide +kernel
theorem dX9_given_26 : decode cX9_given 26 = .ok (.iload_n 1, 1) := by decide +kernel
theorem dX9_given_27 : decode cX9_given 27 = .ok (.invokestatic 591, 3) := by decide +kernel
theorem dX9_given_30 : decode cX9_given 30 = .ok (.iaload, 1) := by decide +kernel
theorem dX9_given_31 : decode cX9_given 31 = .ok (.invokevirtual 62, 3) := by decide +kernel
theorem dX9_given_34 : decode cX9_given 34 = .ok (.ireturn, 1) := by decide +kernel
theorem dX9_coins_0 : decode cX9_coins 0 = .ok (.aload_n 0, 1) := by decide +kernel
theorem dX9_coins_1 : decode cX9_coins 1 = .ok (.iconst 0, 1) := by decide +kernel
theorem dX9_coins_2 : decode cX9_coins 2 = .ok (.putfield 52, 3) := by decide +kernel
theorem dX9_coins_5 : decode cX9_coins 5 = .ok (.iconst 0, 1) := by decide +kernel
theorem dX9_coins_6 : decode cX9_coins 6 = .ok (.istore_n 1, 1) := by decide +kernel
theorem dX9_coins_7 : decode cX9_coins 7 = .ok (.iconst 0, 1) := by decide +kernel
theorem dX9_coins_8 : decode cX9_coins 8 = .ok (.istore_n 2, 1) := by decide +kernel
theorem dX9_coins_9 : decode cX9_coins 9 = .ok (.iload_n 2, 1) := by decide +kernel
theorem dX9_coins_10 : decode cX9_coins 10 = .ok (.bipush 6, 2) := by decide +kernel
theorem dX9_coins_12 : decode cX9_coins 12 = .ok (.if_icmp .ge 23, 3) := by decide +kernel
theorem dX9_coins_15 : decode cX9_coins 15 = .ok (.iload_n 1, 1) := by decide +kernel
theorem dX9_coins_16 : decode cX9_coins 16 = .ok (.aload_n 0, 1) := by decide +kernel
theorem dX9_coins_17 : decode cX9_coins 17 = .ok (.getfield 37, 3) := by decide +kernel
theorem dX9_coins_20 : decode cX9_coins 20 = .ok (.iload_n 2, 1) := by decide +kernel
theorem dX9_coins_21 : decode cX9_coins 21 = .ok (.iaload, 1) := by decide +kernel
theorem dX9_coins_22 : decode cX9_coins 22 = .ok (.iload_n 2, 1) := by decide +kernel
theorem dX9_coins_23 : decode cX9_coins 23 = .ok (.invokestatic 588, 3) := by decide +kernel
theorem dX9_coins_26 : decode cX9_coins 26 = .ok (.imul, 1) := by decide +kernel
theorem dX9_coins_27 : decode cX9_coins 27 = .ok (.iadd, 1) := by decide +kernel
theorem dX9_coins_28 : decode cX9_coins 28 = .ok (.istore_n 1, 1) := by decide +kernel
theorem dX9_coins_29 : decode cX9_coins 29 = .ok (.iinc 2 1, 3) := by decide +kernel
theorem dX9_coins_32 : decode cX9_coins 32 = .ok (.goto (-23), 3) := by decide +kernel
theorem dX9_coins_35 : decode cX9_coins 35 = .ok (.iload_n 1, 1) := by decide +kernel
theorem dX9_coins_36 : decode cX9_coins 36 = .ok (.ireturn, 1) := by decide +kernel
theorem dX9_change_0 : decode cX9_change 0 = .ok (.aload_n 0, 1) := by decide +kernel
theorem dX9_change_1 : decode cX9_change 1 = .ok (.iconst 0, 1) := by decide +kernel
theorem dX9_change_2 : decode cX9_change 2 = .ok (.putfield 52, 3) := by decide +kernel
theorem dX9_change_5 : decode cX9_change 5 = .ok (.iload_n 1, 1) := by decide +kernel
theorem dX9_change_6 : decode cX9_change 6 = .ok (.iconst 0, 1) := by decide +kernel
theorem dX9_change_7 : decode cX9_change 7 = .ok (.sipush 199, 3) := by decide +kernel
theorem dX9_change_10 : decode cX9_change 10 = .ok (.invokestatic 130, 3) := by decide +kernel
theorem dX9_change_13 : decode cX9_change 13 = .ok (.ifCond .ne 9, 3) := by decide +kernel
theorem dX9_change_16 : decode cX9_change 16 = .ok (.aload_n 0, 1) := by decide +kernel
theorem dX9_change_17 : decode cX9_change 17 = .ok (.iconst 2, 1) := by decide +kernel
theorem dX9_change_18 : decode cX9_change 18 = .ok (.invokevirtual 58, 3) := by decide +kernel
theorem dX9_change_21 : decode cX9_change 21 = .ok (.ireturn, 1) := by decide +kernel
theorem dX9_change_22 : decode cX9_change 22 = .ok (.iconst 0, 1) := by decide +kernel
theorem dX9_change_23 : decode cX9_change 23 = .ok (.istore_n 2, 1) := by decide +kernel
theorem dX9_change_24 : decode cX9_change 24 = .ok (.iload_n 2, 1) := by decide +kernel
theorem dX9_change_25 : decode cX9_change 25 = .ok (.iload_n 1, 1) := by decide +kernel
theorem dX9_change_26 : decode cX9_change 26 = .ok (.if_icmp .gt 24, 3) := by decide +kernel
theorem dX9_change_29 : decode cX9_change 29 = .ok (.aload_n 0, 1) := by decide +kernel
theorem dX9_change_30 : decode cX9_change 30 = .ok (.getfield 49, 3) := by decide +kernel
theorem dX9_change_33 : decode cX9_change 33 = .ok (.iload_n 2, 1) := by decide +kernel
theorem dX9_change_34 : decode cX9_change 34 = .ok (.iload_n 2, 1) := by decide +kernel
theorem dX9_change_35 : decode cX9_change 35 = .ok (.ifCond .ne 7, 3) := by decide +kernel
theorem dX9_change_38 : decode cX9_change 38 = .ok (.iconst 1, 1) := by decide +kernel
theorem dX9_change_39 : decode cX9_change 39 = .ok (.goto 4, 3) := by decide +kernel
theorem dX9_change_42 : decode cX9_change 42 = .ok (.iconst 0, 1) := by decide +kernel
theorem dX9_change_43 : decode cX9_change 43 = .ok (.iastore, 1) := by decide +kernel
theorem dX9_change_44 : decode cX9_change 44 = .ok (.iinc 2 1, 3) := by decide +kernel
theorem dX9_change_47 : decode cX9_change 47 = .ok (.goto (-23), 3) := by decide +kernel
theorem dX9_change_50 : decode cX9_change 50 = .ok (.iconst 0, 1) := by decide +kernel
theorem dX9_change_51 : decode cX9_change 51 = .ok (.istore_n 2, 1) := by decide +kernel
theorem dX9_change_52 : decode cX9_change 52 = .ok (.iload_n 2, 1) := by decide +kernel
theorem dX9_change_53 : decode cX9_change 53 = .ok (.bipush 6, 2) := by decide +kernel
theorem dX9_change_55 : decode cX9_change 55 = .ok (.if_icmp .ge 75, 3) := by decide +kernel
theorem dX9_change_58 : decode cX9_change 58 = .ok (.iload_n 1, 1) := by decide +kernel
theorem dX9_change_59 : decode cX9_change 59 = .ok (.istore_n 3, 1) := by decide +kernel
theorem dX9_change_60 : decode cX9_change 60 = .ok (.iload_n 3, 1) := by decide +kernel
theorem dX9_change_61 : decode cX9_change 61 = .ok (.ifCond .le 63, 3) := by decide +kernel
theorem dX9_change_64 : decode cX9_change 64 = .ok (.iconst 1, 1) := by decide +kernel
theorem dX9_change_65 : decode cX9_change 65 = .ok (.istore 4, 2) := by decide +kernel
theorem dX9_change_67 : decode cX9_change 67 = .ok (.iload 4, 2) := by decide +kernel
theorem dX9_change_69 : decode cX9_change 69 = .ok (.aload_n 0, 1) := by decide +kernel
theorem dX9_change_70 : decode cX9_change 70 = .ok (.getfield 37, 3) := by decide +kernel
theorem dX9_change_73 : decode cX9_change 73 = .ok (.iload_n 2, 1) := by decide +kernel
theorem dX9_change_74 : decode cX9_change 74 = .ok (.iaload, 1) := by decide +kernel
theorem dX9_change_75 : decode cX9_change 75 = .ok (.if_icmp .gt 43, 3) := by decide +kernel
theorem dX9_change_78 : decode cX9_change 78 = .ok (.iload 4, 2) := by decide +kernel
theorem dX9_change_80 : decode cX9_change 80 = .ok (.iload_n 2, 1) := by decide +kernel
theorem dX9_change_81 : decode cX9_change 81 = .ok (.invokestatic 588, 3) := by decide +kernel
theorem dX9_change_84 : decode cX9_change 84 = .ok (.imul, 1) := by decide +kernel
theorem dX9_change_85 : decode cX9_change 85 = .ok (.iload_n 3, 1) := by decide +kernel
theorem dX9_change_86 : decode cX9_change 86 = .ok (.if_icmp .gt 32, 3) := by decide +kernel
theorem dX9_change_89 : decode cX9_change 89 = .ok (.aload_n 0, 1) := by decide +kernel
theorem dX9_change_90 : decode cX9_change 90 = .ok (.getfield 49, 3) := by decide +kernel
theorem dX9_change_93 : decode cX9_change 93 = .ok (.iload_n 3, 1) := by decide +kernel
theorem dX9_change_94 : decode cX9_change 94 = .ok (.dup2, 1) := by decide +kernel
theorem dX9_change_95 : decode cX9_change 95 = .ok (.iaload, 1) := by decide +kernel
theorem dX9_change_96 : decode cX9_change 96 = .ok (.aload_n 0, 1) := by decide +kernel
theorem dX9_change_97 : decode cX9_change 97 = .ok (.getfield 49, 3) := by decide +kernel
theorem dX9_change_100 : decode cX9_change 100 = .ok (.iload_n 3, 1) := by decide +kernel
theorem dX9_change_101 : decode cX9_change 101 = .ok (.iload 4, 2) := by decide +kernel
theorem dX9_change_103 : decode cX9_change 103 = .ok (.iload_n 2, 1) := by decide +kernel
theorem dX9_change_104 : decode cX9_change 104 = .ok (.invokestatic 588, 3) := by decide +kernel
theorem dX9_change_107 : decode cX9_change 107 = .ok (.imul, 1) := by decide +kernel
theorem dX9_change_108 : decode cX9_change 108 = .ok (.isub, 1) := by decide +kernel
theorem dX9_change_109 : decode cX9_change 109 = .ok (.iaload, 1) := by decide +kernel
theorem dX9_change_110 : decode cX9_change 110 = .ok (.iadd, 1) := by decide +kernel
theorem dX9_change_111 : decode cX9_change 111 = .ok (.iastore, 1) := by decide +kernel
theorem dX9_change_112 : decode cX9_change 112 = .ok (.iinc 4 1, 3) := by decide +kernel
theorem dX9_change_115 : decode cX9_change 115 = .ok (.goto (-48), 3) := by decide +kernel
theorem dX9_change_118 : decode cX9_change 118 = .ok (.iinc 3 (-1), 3) := by decide +kernel
theorem dX9_change_121 : decode cX9_change 121 = .ok (.goto (-61), 3) := by decide +kernel
theorem dX9_change_124 : decode cX9_change 124 = .ok (.iinc 2 1, 3) := by decide +kernel
theorem dX9_change_127 : decode cX9_change 127 = .ok (.goto (-75), 3) := by decide +kernel
theorem dX9_change_130 : decode cX9_change 130 = .ok (.aload_n 0, 1) := by decide +kernel
theorem dX9_change_131 : decode cX9_change 131 = .ok (.aload_n 0, 1) := by decide +kernel
theorem dX9_change_132 : decode cX9_change 132 = .ok (.getfield 49, 3) := by decide +kernel
theorem dX9_change_135 : decode cX9_change 135 = .ok (.iload_n 1, 1) := by decide +kernel
theorem dX9_change_136 : decode cX9_change 136 = .ok (.iaload, 1) := by decide +kernel
theorem dX9_change_137 : decode cX9_change 137 = .ok (.invokevirtual 62, 3) := by decide +kernel
theorem dX9_change_140 : decode cX9_change 140 = .ok (.ireturn, 1) := by decide +kernel
theorem dX9_led_0 : decode cX9_led 0 = .ok (.aload_n 0, 1) := by decide +kernel
theorem dX9_led_1 : decode cX9_led 1 = .ok (.iconst 0, 1) := by decide +kernel
theorem dX9_led_2 : decode cX9_led 2 = .ok (.putfield 52, 3) := by decide +kernel
theorem dX9_led_5 : decode cX9_led 5 = .ok (.iconst 0, 1) := by decide +kernel
theorem dX9_led_6 : decode cX9_led 6 = .ok (.istore_n 2, 1) := by decide +kernel
theorem dX9_led_7 : decode cX9_led 7 = .ok (.iconst 1, 1) := by decide +kernel
theorem dX9_led_8 : decode cX9_led 8 = .ok (.istore_n 3, 1) := by decide +kernel
theorem dX9_led_9 : decode cX9_led 9 = .ok (.aload_n 0, 1) := by decide +kernel
theorem dX9_led_10 : decode cX9_led 10 = .ok (.getfield 425, 3) := by decide +kernel
theorem dX9_led_13 : decode cX9_led 13 = .ok (.ifnull 59, 3) := by decide +kernel
theorem dX9_led_16 : decode cX9_led 16 = .ok (.iload_n 3, 1) := by decide +kernel
theorem dX9_led_17 : decode cX9_led 17 = .ok (.aload_n 0, 1) := by decide +kernel
theorem dX9_led_18 : decode cX9_led 18 = .ok (.getfield 425, 3) := by decide +kernel
theorem dX9_led_21 : decode cX9_led 21 = .ok (.getfield 205, 3) := by decide +kernel
theorem dX9_led_24 : decode cX9_led 24 = .ok (.if_icmp .gt 48, 3) := by decide +kernel
theorem dX9_led_27 : decode cX9_led 27 = .ok (.aload_n 0, 1) := by decide +kernel
theorem dX9_led_28 : decode cX9_led 28 = .ok (.getfield 21, 3) := by decide +kernel
theorem dX9_led_31 : decode cX9_led 31 = .ok (.bipush 10, 2) := by decide +kernel
theorem dX9_led_33 : decode cX9_led 33 = .ok (.iload_n 3, 1) := by decide +kernel
theorem dX9_led_34 : decode cX9_led 34 = .ok (.imul, 1) := by decide +kernel
theorem dX9_led_35 : decode cX9_led 35 = .ok (.iconst 3, 1) := by decide +kernel
theorem dX9_led_36 : decode cX9_led 36 = .ok (.iadd, 1) := by decide +kernel
theorem dX9_led_37 : decode cX9_led 37 = .ok (.iaload, 1) := by decide +kernel
theorem dX9_led_38 : decode cX9_led 38 = .ok (.aload_n 0, 1) := by decide +kernel
theorem dX9_led_39 : decode cX9_led 39 = .ok (.getfield 21, 3) := by decide +kernel
theorem dX9_led_42 : decode cX9_led 42 = .ok (.bipush 10, 2) := by decide +kernel
theorem dX9_led_44 : decode cX9_led 44 = .ok (.iload_n 3, 1) := by decide +kernel
theorem dX9_led_45 : decode cX9_led 45 = .ok (.imul, 1) := by decide +kernel
theorem dX9_led_46 : decode cX9_led 46 = .ok (.iconst 4, 1) := by decide +kernel
theorem dX9_led_47 : decode cX9_led 47 = .ok (.iadd, 1) := by decide +kernel
theorem dX9_led_48 : decode cX9_led 48 = .ok (.iaload, 1) := by decide +kernel
theorem dX9_led_49 : decode cX9_led 49 = .ok (.iadd, 1) := by decide +kernel
theorem dX9_led_50 : decode cX9_led 50 = .ok (.ifCond .ne 6, 3) := by decide +kernel
theorem dX9_led_53 : decode cX9_led 53 = .ok (.goto 13, 3) := by decide +kernel
theorem dX9_led_56 : decode cX9_led 56 = .ok (.iload_n 2, 1) := by decide +kernel
theorem dX9_led_57 : decode cX9_led 57 = .ok (.iload_n 1, 1) := by decide +kernel
theorem dX9_led_58 : decode cX9_led 58 = .ok (.if_icmp .ne 5, 3) := by decide +kernel
theorem dX9_led_61 : decode cX9_led 61 = .ok (.iload_n 3, 1) := by decide +kernel
theorem dX9_led_62 : decode cX9_led 62 = .ok (.ireturn, 1) := by decide +kernel
theorem dX9_led_63 : decode cX9_led 63 = .ok (.iinc 2 1, 3) := by decide +kernel
theorem dX9_led_66 : decode cX9_led 66 = .ok (.iinc 3 1, 3) := by decide +kernel
theorem dX9_led_69 : decode cX9_led 69 = .ok (.goto (-60), 3) := by decide +kernel
theorem dX9_led_72 : decode cX9_led 72 = .ok (.aload_n 0, 1) := by decide +kernel
theorem dX9_led_73 : decode cX9_led 73 = .ok (.iconst 1, 1) := by decide +kernel
theorem dX9_led_74 : decode cX9_led 74 = .ok (.putfield 52, 3) := by decide +kernel
theorem dX9_led_77 : decode cX9_led 77 = .ok (.iconst 0, 1) := by decide +kernel
theorem dX9_led_78 : decode cX9_led 78 = .ok (.ireturn, 1) := by decide +kernel
theorem dX9_size_0 : decode cX9_size 0 = .ok (.aload_n 0, 1) := by decide +kernel
theorem dX9_size_1 : decode cX9_size 1 = .ok (.iconst 0, 1) := by decide +kernel
theorem dX9_size_2 : decode cX9_size 2 = .ok (.putfield 52, 3) := by decide +kernel
theorem dX9_size_5 : decode cX9_size 5 = .ok (.iload_n 1, 1) := by decide +kernel
theorem dX9_size_6 : decode cX9_size 6 = .ok (.bipush 14, 2) := by decide +kernel
theorem dX9_size_8 : decode cX9_size 8 = .ok (.if_icmp .ne 8, 3) := by decide +kernel
theorem dX9_size_11 : decode cX9_size 11 = .ok (.aload_n 0, 1) := by decide +kernel
theorem dX9_size_12 : decode cX9_size 12 = .ok (.getfield 418, 3) := by decide +kernel
theorem dX9_size_15 : decode cX9_size 15 = .ok (.ireturn, 1) := by decide +kernel
theorem dX9_size_16 : decode cX9_size 16 = .ok (.iload_n 1, 1) := by decide +kernel
theorem dX9_size_17 : decode cX9_size 17 = .ok (.bipush 15, 2) := by decide +kernel
theorem dX9_size_19 : decode cX9_size 19 = .ok (.if_icmp .ne 8, 3) := by decide +kernel
theorem dX9_size_22 : decode cX9_size 22 = .ok (.aload_n 0, 1) := by decide +kernel
theorem dX9_size_23 : decode cX9_size 23 = .ok (.getfield 603, 3) := by decide +kernel
theorem dX9_size_26 : decode cX9_size 26 = .ok (.ireturn, 1) := by decide +kernel
theorem dX9_size_27 : decode cX9_size 27 = .ok (.iload_n 1, 1) := by decide +kernel
theorem dX9_size_28 : decode cX9_size 28 = .ok (.iconst 0, 1) := by decide +kernel
theorem dX9_size_29 : decode cX9_size 29 = .ok (.bipush 13, 2) := by decide +kernel
theorem dX9_size_31 : decode cX9_size 31 = .ok (.invokestatic 130, 3) := by decide +kernel
theorem dX9_size_34 : decode cX9_size 34 = .ok (.ifCond .ne 5, 3) := by decide +kernel
theorem dX9_size_37 : decode cX9_size 37 = .ok (.iconst (-1), 1) := by decide +kernel
theorem dX9_size_38 : decode cX9_size 38 = .ok (.ireturn, 1) := by decide +kernel
theorem dX9_size_39 : decode cX9_size 39 = .ok (.aload_n 0, 1) := by decide +kernel
theorem dX9_size_40 : decode cX9_size 40 = .ok (.getfield 425, 3) := by decide +kernel
theorem dX9_size_43 : decode cX9_size 43 = .ok (.ifnonnull 5, 3) := by decide +kernel
theorem dX9_size_46 : decode cX9_size 46 = .ok (.iconst 0, 1) := by decide +kernel
theorem dX9_size_47 : decode cX9_size 47 = .ok (.ireturn, 1) := by decide +kernel
theorem dX9_size_48 : decode cX9_size 48 = .ok (.iload_n 1, 1) := by decide +kernel
theorem dX9_size_49 : decode cX9_size 49 = .ok (.tableswitch 168 0 12 #[67, 75, 83, 91, 99, 107, 115, 123, 131, 139, 147, 155, 163], 67) := by decide +kernel
theorem dX9_size_116 : decode cX9_size 116 = .ok (.aload_n 0, 1) := by decide +kernel
theorem dX9_size_117 : decode cX9_size 117 = .ok (.getfield 425, 3) := by decide +kernel
theorem dX9_size_120 : decode cX9_size 120 = .ok (.getfield 205, 3) := by decide +kernel
theorem dX9_size_123 : decode cX9_size 123 = .ok (.ireturn, 1) := by decide +kernel
theorem dX9_size_124 : decode cX9_size 124 = .ok (.aload_n 0, 1) := by decide +kernel
theorem dX9_size_125 : decode cX9_size 125 = .ok (.getfield 425, 3) := by decide +kernel
theorem dX9_size_128 : decode cX9_size 128 = .ok (.getfield 211, 3) := by decide +kernel
theorem dX9_size_131 : decode cX9_size 131 = .ok (.ireturn, 1) := by decide +kernel
theorem dX9_size_132 : decode cX9_size 132 = .ok (.aload_n 0, 1) := by decide +kernel
theorem dX9_size_133 : decode cX9_size 133 = .ok (.getfield 425, 3) := by decide +kernel
theorem dX9_size_136 : decode cX9_size 136 = .ok (.getfield 214, 3) := by decide +kernel
theorem dX9_size_139 : decode cX9_size 139 = .ok (.ireturn, 1) := by decide +kernel
theorem dX9_size_140 : decode cX9_size 140 = .ok (.aload_n 0, 1) := by decide +kernel
theorem dX9_size_141 : decode cX9_size 141 = .ok (.getfield 425, 3) := by decide +kernel
theorem dX9_size_144 : decode cX9_size 144 = .ok (.getfield 333, 3) := by decide +kernel
theorem dX9_size_147 : decode cX9_size 147 = .ok (.ireturn, 1) := by decide +kernel
theorem dX9_size_148 : decode cX9_size 148 = .ok (.aload_n 0, 1) := by decide +kernel
theorem dX9_size_149 : decode cX9_size 149 = .ok (.getfield 425, 3) := by decide +kernel
theorem dX9_size_152 : decode cX9_size 152 = .ok (.getfield 339, 3) := by decide +kernel
theorem dX9_size_155 : decode cX9_size 155 = .ok (.ireturn, 1) := by decide +kernel
theorem dX9_size_156 : decode cX9_size 156 = .ok (.aload_n 0, 1) := by decide +kernel
theorem dX9_size_157 : decode cX9_size 157 = .ok (.getfield 425, 3) := by decide +kernel
theorem dX9_size_160 : decode cX9_size 160 = .ok (.getfield 365, 3) := by decide +kernel
theorem dX9_size_163 : decode cX9_size 163 = .ok (.ireturn, 1) := by decide +kernel
theorem dX9_size_164 : decode cX9_size 164 = .ok (.aload_n 0, 1) := by decide +kernel
theorem dX9_size_165 : decode cX9_size 165 = .ok (.getfield 425, 3) := by decide +kernel
theorem dX9_size_168 : decode cX9_size 168 = .ok (.getfield 289, 3) := by decide +kernel
theorem dX9_size_171 : decode cX9_size 171 = .ok (.ireturn, 1) := by decide +kernel
theorem dX9_size_172 : decode cX9_size 172 = .ok (.aload_n 0, 1) := by decide +kernel
theorem dX9_size_173 : decode cX9_size 173 = .ok (.getfield 425, 3) := by decide +kernel
theorem dX9_size_176 : decode cX9_size 176 = .ok (.getfield 384, 3) := by decide +kernel
theorem dX9_size_179 : decode cX9_size 179 = .ok (.ireturn, 1) := by decide +kernel
theorem dX9_size_180 : decode cX9_size 180 = .ok (.aload_n 0, 1) := by decide +kernel
theorem dX9_size_181 : decode cX9_size 181 = .ok (.getfield 425, 3) := by decide +kernel
theorem dX9_size_184 : decode cX9_size 184 = .ok (.getfield 392, 3) := by decide +kernel
theorem dX9_size_187 : decode cX9_size 187 = .ok (.ireturn, 1) := by decide +kernel
theorem dX9_size_188 : decode cX9_size 188 = .ok (.aload_n 0, 1) := by decide +kernel
theorem dX9_size_189 : decode cX9_size 189 = .ok (.getfield 425, 3) := by decide +kernel
theorem dX9_size_192 : decode cX9_size 192 = .ok (.getfield 397, 3) := by decide +kernel
theorem dX9_size_195 : decode cX9_size 195 = .ok (.ireturn, 1) := by decide +kernel
theorem dX9_size_196 : decode cX9_size 196 = .ok (.aload_n 0, 1) := by decide +kernel
theorem dX9_size_197 : decode cX9_size 197 = .ok (.getfield 425, 3) := by decide +kernel
theorem dX9_size_200 : decode cX9_size 200 = .ok (.getfield 302, 3) := by decide +kernel
theorem dX9_size_203 : decode cX9_size 203 = .ok (.ireturn, 1) := by decide +kernel
theorem dX9_size_204 : decode cX9_size 204 = .ok (.aload_n 0, 1) := by decide +kernel
theorem dX9_size_205 : decode cX9_size 205 = .ok (.getfield 425, 3) := by decide +kernel
theorem dX9_size_208 : decode cX9_size 208 = .ok (.getfield 411, 3) := by decide +kernel
theorem dX9_size_211 : decode cX9_size 211 = .ok (.ireturn, 1) := by decide +kernel
theorem dX9_size_212 : decode cX9_size 212 = .ok (.aload_n 0, 1) := by decide +kernel
theorem dX9_size_213 : decode cX9_size 213 = .ok (.getfield 428, 3) := by decide +kernel
theorem dX9_size_216 : decode cX9_size 216 = .ok (.ireturn, 1) := by decide +kernel
theorem dX9_size_217 : decode cX9_size 217 = .ok (.aload_n 0, 1) := by decide +kernel
theorem dX9_size_218 : decode cX9_size 218 = .ok (.getfield 21, 3) := by decide +kernel
theorem dX9_size_221 : decode cX9_size 221 = .ok (.sipush 429, 3) := by decide +kernel
theorem dX9_size_224 : decode cX9_size 224 = .ok (.iaload, 1) := by decide +kernel
theorem dX9_size_225 : decode cX9_size 225 = .ok (.ireturn, 1) := by decide +kernel
theorem dX9_trouble_0 : decode cX9_trouble 0 = .ok (.aload_n 0, 1) := by decide +kernel
theorem dX9_trouble_1 : decode cX9_trouble 1 = .ok (.iconst 0, 1) := by decide +kernel
theorem dX9_trouble_2 : decode cX9_trouble 2 = .ok (.putfield 52, 3) := by decide +kernel
theorem dX9_trouble_5 : decode cX9_trouble 5 = .ok (.aload_n 0, 1) := by decide +kernel
theorem dX9_trouble_6 : decode cX9_trouble 6 = .ok (.getfield 55, 3) := by decide +kernel
theorem dX9_trouble_9 : decode cX9_trouble 9 = .ok (.ireturn, 1) := by decide +kernel
theorem dJ9_max_7cf53_0 : decode cJ9_max_7cf53 0 = .ok (.iload_n 0, 1) := by decide +kernel
theorem dJ9_max_7cf53_1 : decode cJ9_max_7cf53 1 = .ok (.iload_n 1, 1) := by decide +kernel
theorem dJ9_max_7cf53_2 : decode cJ9_max_7cf53 2 = .ok (.if_icmp .lt 7, 3) := by decide +kernel
theorem dJ9_max_7cf53_5 : decode cJ9_max_7cf53 5 = .ok (.iload_n 0, 1) := by decide +kernel
theorem dJ9_max_7cf53_6 : decode cJ9_max_7cf53 6 = .ok (.goto 4, 3) := by decide +kernel
theorem dJ9_max_7cf53_9 : decode cJ9_max_7cf53 9 = .ok (.iload_n 1, 1) := by decide +kernel
theorem dJ9_max_7cf53_10 : decode cJ9_max_7cf53 10 = .ok (.ireturn, 1) := by decide +kernel
theorem dJ9_min_7cf53_0 : decode cJ9_min_7cf53 0 = .ok (.iload_n 0, 1) := by decide +kernel
theorem dJ9_min_7cf53_1 : decode cJ9_min_7cf53 1 = .ok (.iload_n 1, 1) := by decide +kernel
theorem dJ9_min_7cf53_2 : decode cJ9_min_7cf53 2 = .ok (.if_icmp .gt 7, 3) := by decide +kernel
theorem dJ9_min_7cf53_5 : decode cJ9_min_7cf53 5 = .ok (.iload_n 0, 1) := by decide +kernel
theorem dJ9_min_7cf53_6 : decode cJ9_min_7cf53 6 = .ok (.goto 4, 3) := by decide +kernel
theorem dJ9_min_7cf53_9 : decode cJ9_min_7cf53 9 = .ok (.iload_n 1, 1) := by decide +kernel
theorem dJ9_min_7cf53_10 : decode cJ9_min_7cf53 10 = .ok (.ireturn, 1) := by decide +kernel
theorem dJ0_length_8abf5_0 : decode cJ0_length_8abf5 0 = .ok (.aload_n 0, 1) := by decide +kernel
theorem dJ0_length_8abf5_1 : decode cJ0_length_8abf5 1 = .ok (.getfield 9, 3) := by decide +kernel
theorem dJ0_length_8abf5_4 : decode cJ0_length_8abf5 4 = .ok (.arraylength, 1) := by decide +kernel
theorem dJ0_length_8abf5_5 : decode cJ0_length_8abf5 5 = .ok (.aload_n 0, 1) := by decide +kernel
theorem dJ0_length_8abf5_6 : decode cJ0_length_8abf5 6 = .ok (.invokevirtual 335, 3) := by decide +kernel
theorem dJ0_length_8abf5_9 : decode cJ0_length_8abf5 9 = .ok (.ishr, 1) := by decide +kernel
theorem dJ0_length_8abf5_10 : decode cJ0_length_8abf5 10 = .ok (.ireturn, 1) := by decide +kernel
theorem dJ0_charAt_5068e_0 : decode cJ0_charAt_5068e 0 = .ok (.aload_n 0, 1) := by decide +kernel
theorem dJ0_charAt_5068e_1 : decode cJ0_charAt_5068e 1 = .ok (.invokevirtual 492, 3) := by decide +kernel
theorem dJ0_charAt_5068e_4 : decode cJ0_charAt_5068e 4 = .ok (.ifCond .eq 12, 3) := by decide +kernel
theorem dJ0_charAt_5068e_7 : decode cJ0_charAt_5068e 7 = .ok (.aload_n 0, 1) := by decide +kernel
theorem dJ0_charAt_5068e_8 : decode cJ0_charAt_5068e 8 = .ok (.getfield 9, 3) := by decide +kernel
theorem dJ0_charAt_5068e_11 : decode cJ0_charAt_5068e 11 = .ok (.iload_n 1, 1) := by decide +kernel
theorem dJ0_charAt_5068e_12 : decode cJ0_charAt_5068e 12 = .ok (.invokestatic 495, 3) := by decide +kernel
theorem dJ0_charAt_5068e_15 : decode cJ0_charAt_5068e 15 = .ok (.ireturn, 1) := by decide +kernel
theorem dJ0_charAt_5068e_16 : decode cJ0_charAt_5068e 16 = .ok (.aload_n 0, 1) := by decide +kernel
theorem dJ0_charAt_5068e_17 : decode cJ0_charAt_5068e 17 = .ok (.getfield 9, 3) := by decide +kernel
theorem dJ0_charAt_5068e_20 : decode cJ0_charAt_5068e 20 = .ok (.iload_n 1, 1) := by decide +kernel
theorem dJ0_charAt_5068e_21 : decode cJ0_charAt_5068e 21 = .ok (.invokestatic 498, 3) := by decide +kernel
theorem dJ0_charAt_5068e_24 : decode cJ0_charAt_5068e 24 = .ok (.ireturn, 1) := by decide +kernel
theorem dJ0_coder_7d493_0 : decode cJ0_coder_7d493 0 = .ok (.getstatic 38, 3) := by decide +kernel
theorem dJ0_coder_7d493_3 : decode cJ0_coder_7d493 3 = .ok (.ifCond .eq 10, 3) := by decide +kernel
theorem dJ0_coder_7d493_6 : decode cJ0_coder_7d493 6 = .ok (.aload_n 0, 1) := by decide +kernel
theorem dJ0_coder_7d493_7 : decode cJ0_coder_7d493 7 = .ok (.getfield 15, 3) := by decide +kernel
theorem dJ0_coder_7d493_10 : decode cJ0_coder_7d493 10 = .ok (.goto 4, 3) := by decide +kernel
theorem dJ0_coder_7d493_13 : decode cJ0_coder_7d493 13 = .ok (.iconst 1, 1) := by decide +kernel
theorem dJ0_coder_7d493_14 : decode cJ0_coder_7d493 14 = .ok (.ireturn, 1) := by decide +kernel
theorem dJ0_isLatin1_aae02_0 : decode cJ0_isLatin1_aae02 0 = .ok (.getstatic 38, 3) := by decide +kernel
theorem dJ0_isLatin1_aae02_3 : decode cJ0_isLatin1_aae02 3 = .ok (.ifCond .eq 14, 3) := by decide +kernel
theorem dJ0_isLatin1_aae02_6 : decode cJ0_isLatin1_aae02 6 = .ok (.aload_n 0, 1) := by decide +kernel
theorem dJ0_isLatin1_aae02_7 : decode cJ0_isLatin1_aae02 7 = .ok (.getfield 15, 3) := by decide +kernel
theorem dJ0_isLatin1_aae02_10 : decode cJ0_isLatin1_aae02 10 = .ok (.ifCond .ne 7, 3) := by decide +kernel
theorem dJ0_isLatin1_aae02_13 : decode cJ0_isLatin1_aae02 13 = .ok (.iconst 1, 1) := by decide +kernel
theorem dJ0_isLatin1_aae02_14 : decode cJ0_isLatin1_aae02 14 = .ok (.goto 4, 3) := by decide +kernel
theorem dJ0_isLatin1_aae02_17 : decode cJ0_isLatin1_aae02 17 = .ok (.iconst 0, 1) := by decide +kernel
theorem dJ0_isLatin1_aae02_18 : decode cJ0_isLatin1_aae02 18 = .ok (.ireturn, 1) := by decide +kernel
theorem dJ0_checkIndex_df160_0 : decode cJ0_checkIndex_df160 0 = .ok (.iload_n 0, 1) := by decide +kernel
theorem dJ0_checkIndex_df160_1 : decode cJ0_checkIndex_df160 1 = .ok (.iload_n 1, 1) := by decide +kernel
theorem dJ0_checkIndex_df160_2 : decode cJ0_checkIndex_df160 2 = .ok (.getstatic 1053, 3) := by decide +kernel
theorem dJ0_checkIndex_df160_5 : decode cJ0_checkIndex_df160 5 = .ok (.invokestatic 1059, 3) := by decide +kernel
theorem dJ0_checkIndex_df160_8 : decode cJ0_checkIndex_df160 8 = .ok (.pop, 1) := by decide +kernel
theorem dJ0_checkIndex_df160_9 : decode cJ0_checkIndex_df160 9 = .ok (.return_, 1) := by decide +kernel
theorem dJ1_charAt_3b067_0 : decode cJ1_charAt_3b067 0 = .ok (.iload_n 1, 1) := by decide +kernel
theorem dJ1_charAt_3b067_1 : decode cJ1_charAt_3b067 1 = .ok (.aload_n 0, 1) := by decide +kernel
theorem dJ1_charAt_3b067_2 : decode cJ1_charAt_3b067 2 = .ok (.arraylength, 1) := by decide +kernel
theorem dJ1_charAt_3b067_3 : decode cJ1_charAt_3b067 3 = .ok (.invokestatic 9, 3) := by decide +kernel
theorem dJ1_charAt_3b067_6 : decode cJ1_charAt_3b067 6 = .ok (.aload_n 0, 1) := by decide +kernel
theorem dJ1_charAt_3b067_7 : decode cJ1_charAt_3b067 7 = .ok (.iload_n 1, 1) := by decide +kernel
theorem dJ1_charAt_3b067_8 : decode cJ1_charAt_3b067 8 = .ok (.baload, 1) := by decide +kernel
theorem dJ1_charAt_3b067_9 : decode cJ1_charAt_3b067 9 = .ok (.sipush 255, 3) := by decide +kernel
theorem dJ1_charAt_3b067_12 : decode cJ1_charAt_3b067 12 = .ok (.iand, 1) := by decide +kernel
theorem dJ1_charAt_3b067_13 : decode cJ1_charAt_3b067 13 = .ok (.i2c, 1) := by decide +kernel
theorem dJ1_charAt_3b067_14 : decode cJ1_charAt_3b067 14 = .ok (.ireturn, 1) := by decide +kernel
theorem dJ2_getChar_3b067_0 : decode cJ2_getChar_3b067 0 = .ok (.getstatic 44, 3) := by decide +kernel
theorem dJ2_getChar_3b067_3 : decode cJ2_getChar_3b067 3 = .ok (.ifCond .ne 25, 3) := by decide +kernel
theorem dJ2_getChar_3b067_6 : decode cJ2_getChar_3b067 6 = .ok (.iload_n 1, 1) := by decide +kernel
theorem dJ2_getChar_3b067_7 : decode cJ2_getChar_3b067 7 = .ok (.ifCond .lt 11, 3) := by decide +kernel
theorem dJ2_getChar_3b067_10 : decode cJ2_getChar_3b067 10 = .ok (.iload_n 1, 1) := by decide +kernel
theorem dJ2_getChar_3b067_11 : decode cJ2_getChar_3b067 11 = .ok (.aload_n 0, 1) := by decide +kernel
theorem dJ2_getChar_3b067_12 : decode cJ2_getChar_3b067 12 = .ok (.invokestatic 48, 3) := by decide +kernel
theorem dJ2_getChar_3b067_15 : decode cJ2_getChar_3b067 15 = .ok (.if_icmp .lt 13, 3) := by decide +kernel
theorem dJ2_getChar_3b067_18 : decode cJ2_getChar_3b067 18 = .ok (.new 52, 3) := by decide +kernel
theorem dJ2_getChar_3b067_21 : decode cJ2_getChar_3b067 21 = .ok (.dup, 1) := by decide +kernel
theorem dJ2_getChar_3b067_22 : decode cJ2_getChar_3b067 22 = .ok (.ldc 54, 2) := by decide +kernel
theorem dJ2_getChar_3b067_24 : decode cJ2_getChar_3b067 24 = .ok (.invokespecial 56, 3) := by decide +kernel
theorem dJ2_getChar_3b067_27 : decode cJ2_getChar_3b067 27 = .ok (.athrow, 1) := by decide +kernel
theorem dJ2_getChar_3b067_28 : decode cJ2_getChar_3b067 28 = .ok (.iload_n 1, 1) := by decide +kernel
theorem dJ2_getChar_3b067_29 : decode cJ2_getChar_3b067 29 = .ok (.iconst 1, 1) := by decide +kernel
theorem dJ2_getChar_3b067_30 : decode cJ2_getChar_3b067 30 = .ok (.ishl, 1) := by decide +kernel
theorem dJ2_getChar_3b067_31 : decode cJ2_getChar_3b067 31 = .ok (.istore_n 1, 1) := by decide +kernel
theorem dJ2_getChar_3b067_32 : decode cJ2_getChar_3b067 32 = .ok (.aload_n 0, 1) := by decide +kernel
theorem dJ2_getChar_3b067_33 : decode cJ2_getChar_3b067 33 = .ok (.iload_n 1, 1) := by decide +kernel
theorem dJ2_getChar_3b067_34 : decode cJ2_getChar_3b067 34 = .ok (.iinc 1 1, 3) := by decide +kernel
theorem dJ2_getChar_3b067_37 : decode cJ2_getChar_3b067 37 = .ok (.baload, 1) := by decide +kernel
theorem dJ2_getChar_3b067_38 : decode cJ2_getChar_3b067 38 = .ok (.sipush 255, 3) := by decide +kernel
theorem dJ2_getChar_3b067_41 : decode cJ2_getChar_3b067 41 = .ok (.iand, 1) := by decide +kernel
theorem dJ2_getChar_3b067_42 : decode cJ2_getChar_3b067 42 = .ok (.getstatic 59, 3) := by decide +kernel
theorem dJ2_getChar_3b067_45 : decode cJ2_getChar_3b067 45 = .ok (.ishl, 1) := by decide +kernel
theorem dJ2_getChar_3b067_46 : decode cJ2_getChar_3b067 46 = .ok (.aload_n 0, 1) := by decide +kernel
theorem dJ2_getChar_3b067_47 : decode cJ2_getChar_3b067 47 = .ok (.iload_n 1, 1) := by decide +kernel
theorem dJ2_getChar_3b067_48 : decode cJ2_getChar_3b067 48 = .ok (.baload, 1) := by decide +kernel
theorem dJ2_getChar_3b067_49 : decode cJ2_getChar_3b067 49 = .ok (.sipush 255, 3) := by decide +kernel
theorem dJ2_getChar_3b067_52 : decode cJ2_getChar_3b067 52 = .ok (.iand, 1) := by decide +kernel
theorem dJ2_getChar_3b067_53 : decode cJ2_getChar_3b067 53 = .ok (.getstatic 63, 3) := by decide +kernel
theorem dJ2_getChar_3b067_56 : decode cJ2_getChar_3b067 56 = .ok (.ishl, 1) := by decide +kernel
theorem dJ2_getChar_3b067_57 : decode cJ2_getChar_3b067 57 = .ok (.ior, 1) := by decide +kernel
theorem dJ2_getChar_3b067_58 : decode cJ2_getChar_3b067 58 = .ok (.i2c, 1) := by decide +kernel
theorem dJ2_getChar_3b067_59 : decode cJ2_getChar_3b067 59 = .ok (.ireturn, 1) := by decide +kernel
theorem dJ2_length_9d52b_0 : decode cJ2_length_9d52b 0 = .ok (.aload_n 0, 1) := by decide +kernel
theorem dJ2_length_9d52b_1 : decode cJ2_length_9d52b 1 = .ok (.arraylength, 1) := by decide +kernel
theorem dJ2_length_9d52b_2 : decode cJ2_length_9d52b 2 = .ok (.iconst 1, 1) := by decide +kernel
theorem dJ2_length_9d52b_3 : decode cJ2_length_9d52b 3 = .ok (.ishr, 1) := by decide +kernel
theorem dJ2_length_9d52b_4 : decode cJ2_length_9d52b 4 = .ok (.ireturn, 1) := by decide +kernel
theorem dJ2_charAt_3b067_0 : decode cJ2_charAt_3b067 0 = .ok (.iload_n 1, 1) := by decide +kernel
theorem dJ2_charAt_3b067_1 : decode cJ2_charAt_3b067 1 = .ok (.aload_n 0, 1) := by decide +kernel
theorem dJ2_charAt_3b067_2 : decode cJ2_charAt_3b067 2 = .ok (.invokestatic 67, 3) := by decide +kernel
theorem dJ2_charAt_3b067_5 : decode cJ2_charAt_3b067 5 = .ok (.aload_n 0, 1) := by decide +kernel
theorem dJ2_charAt_3b067_6 : decode cJ2_charAt_3b067 6 = .ok (.iload_n 1, 1) := by decide +kernel
theorem dJ2_charAt_3b067_7 : decode cJ2_charAt_3b067 7 = .ok (.invokestatic 71, 3) := by decide +kernel
theorem dJ2_charAt_3b067_10 : decode cJ2_charAt_3b067 10 = .ok (.ireturn, 1) := by decide +kernel
theorem dJ2_checkIndex_2214a_0 : decode cJ2_checkIndex_2214a 0 = .ok (.iload_n 0, 1) := by decide +kernel
theorem dJ2_checkIndex_2214a_1 : decode cJ2_checkIndex_2214a 1 = .ok (.aload_n 1, 1) := by decide +kernel
theorem dJ2_checkIndex_2214a_2 : decode cJ2_checkIndex_2214a 2 = .ok (.invokestatic 48, 3) := by decide +kernel
theorem dJ2_checkIndex_2214a_5 : decode cJ2_checkIndex_2214a 5 = .ok (.invokestatic 414, 3) := by decide +kernel
theorem dJ2_checkIndex_2214a_8 : decode cJ2_checkIndex_2214a 8 = .ok (.return_, 1) := by decide +kernel
theorem dJ7_fill_d0a16_0 : decode cJ7_fill_d0a16 0 = .ok (.iconst 0, 1) := by decide +kernel
theorem dJ7_fill_d0a16_1 : decode cJ7_fill_d0a16 1 = .ok (.istore_n 3, 1) := by decide +kernel
theorem dJ7_fill_d0a16_2 : decode cJ7_fill_d0a16 2 = .ok (.aload_n 0, 1) := by decide +kernel
theorem dJ7_fill_d0a16_3 : decode cJ7_fill_d0a16 3 = .ok (.arraylength, 1) := by decide +kernel
theorem dJ7_fill_d0a16_4 : decode cJ7_fill_d0a16 4 = .ok (.istore 4, 2) := by decide +kernel
theorem dJ7_fill_d0a16_6 : decode cJ7_fill_d0a16 6 = .ok (.iload_n 3, 1) := by decide +kernel
theorem dJ7_fill_d0a16_7 : decode cJ7_fill_d0a16 7 = .ok (.iload 4, 2) := by decide +kernel
theorem dJ7_fill_d0a16_9 : decode cJ7_fill_d0a16 9 = .ok (.if_icmp .ge 13, 3) := by decide +kernel
theorem dJ7_fill_d0a16_12 : decode cJ7_fill_d0a16 12 = .ok (.aload_n 0, 1) := by decide +kernel
theorem dJ7_fill_d0a16_13 : decode cJ7_fill_d0a16 13 = .ok (.iload_n 3, 1) := by decide +kernel
theorem dJ7_fill_d0a16_14 : decode cJ7_fill_d0a16 14 = .ok (.lload_n 1, 1) := by decide +kernel
theorem dJ7_fill_d0a16_15 : decode cJ7_fill_d0a16 15 = .ok (.lastore, 1) := by decide +kernel
theorem dJ7_fill_d0a16_16 : decode cJ7_fill_d0a16 16 = .ok (.iinc 3 1, 3) := by decide +kernel
theorem dJ7_fill_d0a16_19 : decode cJ7_fill_d0a16 19 = .ok (.goto (-13), 3) := by decide +kernel
theorem dJ7_fill_d0a16_22 : decode cJ7_fill_d0a16 22 = .ok (.return_, 1) := by decide +kernel
theorem dJ7_fill_53178_0 : decode cJ7_fill_53178 0 = .ok (.iconst 0, 1) := by decide +kernel
theorem dJ7_fill_53178_1 : decode cJ7_fill_53178 1 = .ok (.istore_n 2, 1) := by decide +kernel
theorem dJ7_fill_53178_2 : decode cJ7_fill_53178 2 = .ok (.aload_n 0, 1) := by decide +kernel
theorem dJ7_fill_53178_3 : decode cJ7_fill_53178 3 = .ok (.arraylength, 1) := by decide +kernel
theorem dJ7_fill_53178_4 : decode cJ7_fill_53178 4 = .ok (.istore_n 3, 1) := by decide +kernel
theorem dJ7_fill_53178_5 : decode cJ7_fill_53178 5 = .ok (.iload_n 2, 1) := by decide +kernel
theorem dJ7_fill_53178_6 : decode cJ7_fill_53178 6 = .ok (.iload_n 3, 1) := by decide +kernel
theorem dJ7_fill_53178_7 : decode cJ7_fill_53178 7 = .ok (.if_icmp .ge 13, 3) := by decide +kernel
theorem dJ7_fill_53178_10 : decode cJ7_fill_53178 10 = .ok (.aload_n 0, 1) := by decide +kernel
theorem dJ7_fill_53178_11 : decode cJ7_fill_53178 11 = .ok (.iload_n 2, 1) := by decide +kernel
theorem dJ7_fill_53178_12 : decode cJ7_fill_53178 12 = .ok (.iload_n 1, 1) := by decide +kernel
theorem dJ7_fill_53178_13 : decode cJ7_fill_53178 13 = .ok (.iastore, 1) := by decide +kernel
theorem dJ7_fill_53178_14 : decode cJ7_fill_53178 14 = .ok (.iinc 2 1, 3) := by decide +kernel
theorem dJ7_fill_53178_17 : decode cJ7_fill_53178 17 = .ok (.goto (-12), 3) := by decide +kernel
theorem dJ7_fill_53178_20 : decode cJ7_fill_53178 20 = .ok (.return_, 1) := by decide +kernel
theorem dJ3_checkIndex_8e157_0 : decode cJ3_checkIndex_8e157 0 = .ok (.iload_n 0, 1) := by decide +kernel
theorem dJ3_checkIndex_8e157_1 : decode cJ3_checkIndex_8e157 1 = .ok (.ifCond .lt 8, 3) := by decide +kernel
theorem dJ3_checkIndex_8e157_4 : decode cJ3_checkIndex_8e157 4 = .ok (.iload_n 0, 1) := by decide +kernel
theorem dJ3_checkIndex_8e157_5 : decode cJ3_checkIndex_8e157 5 = .ok (.iload_n 1, 1) := by decide +kernel
theorem dJ3_checkIndex_8e157_6 : decode cJ3_checkIndex_8e157 6 = .ok (.if_icmp .lt 10, 3) := by decide +kernel
theorem dJ3_checkIndex_8e157_9 : decode cJ3_checkIndex_8e157 9 = .ok (.aload_n 2, 1) := by decide +kernel
theorem dJ3_checkIndex_8e157_10 : decode cJ3_checkIndex_8e157 10 = .ok (.iload_n 0, 1) := by decide +kernel
theorem dJ3_checkIndex_8e157_11 : decode cJ3_checkIndex_8e157 11 = .ok (.iload_n 1, 1) := by decide +kernel
theorem dJ3_checkIndex_8e157_12 : decode cJ3_checkIndex_8e157 12 = .ok (.invokestatic 95, 3) := by decide +kernel
theorem dJ3_checkIndex_8e157_15 : decode cJ3_checkIndex_8e157 15 = .ok (.athrow, 1) := by decide +kernel
theorem dJ3_checkIndex_8e157_16 : decode cJ3_checkIndex_8e157 16 = .ok (.iload_n 0, 1) := by decide +kernel
theorem dJ3_checkIndex_8e157_17 : decode cJ3_checkIndex_8e157 17 = .ok (.ireturn, 1) := by decide +kernel
