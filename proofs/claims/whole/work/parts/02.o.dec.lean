theorem dX9_likings_146 : decode cX9_likings 146 = .ok (.isub, 1) := by decide +kernel
theorem dX9_likings_147 : decode cX9_likings 147 = .ok (.laload, 1) := by decide +kernel
theorem dX9_likings_148 : decode cX9_likings 148 = .ok (.lload 6, 2) := by decide +kernel
theorem dX9_likings_150 : decode cX9_likings 150 = .ok (.lmul, 1) := by decide +kernel
theorem dX9_likings_151 : decode cX9_likings 151 = .ok (.goto 4, 3) := by decide +kernel
theorem dX9_likings_154 : decode cX9_likings 154 = .ok (.lconst 0, 1) := by decide +kernel
theorem dX9_likings_155 : decode cX9_likings 155 = .ok (.ladd, 1) := by decide +kernel
theorem dX9_likings_156 : decode cX9_likings 156 = .ok (.lastore, 1) := by decide +kernel
theorem dX9_likings_157 : decode cX9_likings 157 = .ok (.iinc 9 (-1), 3) := by decide +kernel
theorem dX9_likings_160 : decode cX9_likings 160 = .ok (.goto (-50), 3) := by decide +kernel
theorem dX9_likings_163 : decode cX9_likings 163 = .ok (.iinc 8 (-1), 3) := by decide +kernel
theorem dX9_likings_166 : decode cX9_likings 166 = .ok (.goto (-65), 3) := by decide +kernel
theorem dX9_likings_169 : decode cX9_likings 169 = .ok (.iinc 3 1, 3) := by decide +kernel
theorem dX9_likings_172 : decode cX9_likings 172 = .ok (.goto (-141), 3) := by decide +kernel
theorem dX9_likings_175 : decode cX9_likings 175 = .ok (.return_, 1) := by decide +kernel
theorem dX9_moreThan_0 : decode cX9_moreThan 0 = .ok (.lconst 0, 1) := by decide +kernel
theorem dX9_moreThan_1 : decode cX9_moreThan 1 = .ok (.lstore_n 2, 1) := by decide +kernel
theorem dX9_moreThan_2 : decode cX9_moreThan 2 = .ok (.iconst 0, 1) := by decide +kernel
theorem dX9_moreThan_3 : decode cX9_moreThan 3 = .ok (.istore 4, 2) := by decide +kernel
theorem dX9_moreThan_5 : decode cX9_moreThan 5 = .ok (.iload 4, 2) := by decide +kernel
theorem dX9_moreThan_7 : decode cX9_moreThan 7 = .ok (.bipush 10, 2) := by decide +kernel
theorem dX9_moreThan_9 : decode cX9_moreThan 9 = .ok (.if_icmp .gt 29, 3) := by decide +kernel
theorem dX9_moreThan_12 : decode cX9_moreThan 12 = .ok (.lload_n 2, 1) := by decide +kernel
theorem dX9_moreThan_13 : decode cX9_moreThan 13 = .ok (.iload 4, 2) := by decide +kernel
theorem dX9_moreThan_15 : decode cX9_moreThan 15 = .ok (.iload_n 1, 1) := by decide +kernel
theorem dX9_moreThan_16 : decode cX9_moreThan 16 = .ok (.if_icmp .le 13, 3) := by decide +kernel
theorem dX9_moreThan_19 : decode cX9_moreThan 19 = .ok (.aload_n 0, 1) := by decide +kernel
theorem dX9_moreThan_20 : decode cX9_moreThan 20 = .ok (.getfield 27, 3) := by decide +kernel
theorem dX9_moreThan_23 : decode cX9_moreThan 23 = .ok (.iload 4, 2) := by decide +kernel
theorem dX9_moreThan_25 : decode cX9_moreThan 25 = .ok (.laload, 1) := by decide +kernel
theorem dX9_moreThan_26 : decode cX9_moreThan 26 = .ok (.goto 4, 3) := by decide +kernel
theorem dX9_moreThan_29 : decode cX9_moreThan 29 = .ok (.lconst 0, 1) := by decide +kernel
theorem dX9_moreThan_30 : decode cX9_moreThan 30 = .ok (.ladd, 1) := by decide +kernel
theorem dX9_moreThan_31 : decode cX9_moreThan 31 = .ok (.lstore_n 2, 1) := by decide +kernel
theorem dX9_moreThan_32 : decode cX9_moreThan 32 = .ok (.iinc 4 1, 3) := by decide +kernel
theorem dX9_moreThan_35 : decode cX9_moreThan 35 = .ok (.goto (-30), 3) := by decide +kernel
theorem dX9_moreThan_38 : decode cX9_moreThan 38 = .ok (.lload_n 2, 1) := by decide +kernel
theorem dX9_moreThan_39 : decode cX9_moreThan 39 = .ok (.lreturn, 1) := by decide +kernel
theorem dX9_out_0 : decode cX9_out 0 = .ok (.aload_n 0, 1) := by decide +kernel
theorem dX9_out_1 : decode cX9_out 1 = .ok (.iconst 0, 1) := by decide +kernel
theorem dX9_out_2 : decode cX9_out 2 = .ok (.putfield 52, 3) := by decide +kernel
theorem dX9_out_5 : decode cX9_out 5 = .ok (.aload_n 0, 1) := by decide +kernel
theorem dX9_out_6 : decode cX9_out 6 = .ok (.iload_n 1, 1) := by decide +kernel
theorem dX9_out_7 : decode cX9_out 7 = .ok (.invokevirtual 434, 3) := by decide +kernel
theorem dX9_out_10 : decode cX9_out 10 = .ok (.ifCond .eq 11, 3) := by decide +kernel
theorem dX9_out_13 : decode cX9_out 13 = .ok (.aload_n 0, 1) := by decide +kernel
theorem dX9_out_14 : decode cX9_out 14 = .ok (.iload_n 2, 1) := by decide +kernel
theorem dX9_out_15 : decode cX9_out 15 = .ok (.invokevirtual 446, 3) := by decide +kernel
theorem dX9_out_18 : decode cX9_out 18 = .ok (.ifCond .ne 10, 3) := by decide +kernel
theorem dX9_out_21 : decode cX9_out 21 = .ok (.aload_n 0, 1) := by decide +kernel
theorem dX9_out_22 : decode cX9_out 22 = .ok (.iconst 1, 1) := by decide +kernel
theorem dX9_out_23 : decode cX9_out 23 = .ok (.invokevirtual 58, 3) := by decide +kernel
theorem dX9_out_26 : decode cX9_out 26 = .ok (.i2l, 1) := by decide +kernel
theorem dX9_out_27 : decode cX9_out 27 = .ok (.lreturn, 1) := by decide +kernel
theorem dX9_out_28 : decode cX9_out 28 = .ok (.iload_n 3, 1) := by decide +kernel
theorem dX9_out_29 : decode cX9_out 29 = .ok (.iconst 0, 1) := by decide +kernel
theorem dX9_out_30 : decode cX9_out 30 = .ok (.bipush 99, 2) := by decide +kernel
theorem dX9_out_32 : decode cX9_out 32 = .ok (.invokestatic 130, 3) := by decide +kernel
theorem dX9_out_35 : decode cX9_out 35 = .ok (.ifCond .ne 10, 3) := by decide +kernel
theorem dX9_out_38 : decode cX9_out 38 = .ok (.aload_n 0, 1) := by decide +kernel
theorem dX9_out_39 : decode cX9_out 39 = .ok (.iconst 2, 1) := by decide +kernel
theorem dX9_out_40 : decode cX9_out 40 = .ok (.invokevirtual 58, 3) := by decide +kernel
theorem dX9_out_43 : decode cX9_out 43 = .ok (.i2l, 1) := by decide +kernel
theorem dX9_out_44 : decode cX9_out 44 = .ok (.lreturn, 1) := by decide +kernel
theorem dX9_out_45 : decode cX9_out 45 = .ok (.aload_n 0, 1) := by decide +kernel
theorem dX9_out_46 : decode cX9_out 46 = .ok (.iload_n 1, 1) := by decide +kernel
theorem dX9_out_47 : decode cX9_out 47 = .ok (.invokevirtual 543, 3) := by decide +kernel
theorem dX9_out_50 : decode cX9_out 50 = .ok (.bipush 10, 2) := by decide +kernel
theorem dX9_out_52 : decode cX9_out 52 = .ok (.if_icmp .le 10, 3) := by decide +kernel
theorem dX9_out_55 : decode cX9_out 55 = .ok (.aload_n 0, 1) := by decide +kernel
theorem dX9_out_56 : decode cX9_out 56 = .ok (.iconst 3, 1) := by decide +kernel
theorem dX9_out_57 : decode cX9_out 57 = .ok (.invokevirtual 58, 3) := by decide +kernel
theorem dX9_out_60 : decode cX9_out 60 = .ok (.i2l, 1) := by decide +kernel
theorem dX9_out_61 : decode cX9_out 61 = .ok (.lreturn, 1) := by decide +kernel
theorem dX9_out_62 : decode cX9_out 62 = .ok (.aload_n 0, 1) := by decide +kernel
theorem dX9_out_63 : decode cX9_out 63 = .ok (.iload_n 1, 1) := by decide +kernel
theorem dX9_out_64 : decode cX9_out 64 = .ok (.iload_n 2, 1) := by decide +kernel
theorem dX9_out_65 : decode cX9_out 65 = .ok (.invokevirtual 546, 3) := by decide +kernel
theorem dX9_out_68 : decode cX9_out 68 = .ok (.aload_n 0, 1) := by decide +kernel
theorem dX9_out_69 : decode cX9_out 69 = .ok (.iconst 0, 1) := by decide +kernel
theorem dX9_out_70 : decode cX9_out 70 = .ok (.invokevirtual 62, 3) := by decide +kernel
theorem dX9_out_73 : decode cX9_out 73 = .ok (.pop, 1) := by decide +kernel
theorem dX9_out_74 : decode cX9_out 74 = .ok (.aload_n 0, 1) := by decide +kernel
theorem dX9_out_75 : decode cX9_out 75 = .ok (.iload_n 3, 1) := by decide +kernel
theorem dX9_out_76 : decode cX9_out 76 = .ok (.invokevirtual 549, 3) := by decide +kernel
theorem dX9_out_79 : decode cX9_out 79 = .ok (.lreturn, 1) := by decide +kernel
theorem dX9_ways_0 : decode cX9_ways 0 = .ok (.aload_n 0, 1) := by decide +kernel
theorem dX9_ways_1 : decode cX9_ways 1 = .ok (.iconst 0, 1) := by decide +kernel
theorem dX9_ways_2 : decode cX9_ways 2 = .ok (.putfield 52, 3) := by decide +kernel
theorem dX9_ways_5 : decode cX9_ways 5 = .ok (.aload_n 0, 1) := by decide +kernel
theorem dX9_ways_6 : decode cX9_ways 6 = .ok (.iload_n 1, 1) := by decide +kernel
theorem dX9_ways_7 : decode cX9_ways 7 = .ok (.invokevirtual 434, 3) := by decide +kernel
theorem dX9_ways_10 : decode cX9_ways 10 = .ok (.ifCond .ne 10, 3) := by decide +kernel
theorem dX9_ways_13 : decode cX9_ways 13 = .ok (.aload_n 0, 1) := by decide +kernel
theorem dX9_ways_14 : decode cX9_ways 14 = .ok (.iconst 1, 1) := by decide +kernel
theorem dX9_ways_15 : decode cX9_ways 15 = .ok (.invokevirtual 58, 3) := by decide +kernel
theorem dX9_ways_18 : decode cX9_ways 18 = .ok (.i2l, 1) := by decide +kernel
theorem dX9_ways_19 : decode cX9_ways 19 = .ok (.lreturn, 1) := by decide +kernel
theorem dX9_ways_20 : decode cX9_ways 20 = .ok (.aload_n 0, 1) := by decide +kernel
theorem dX9_ways_21 : decode cX9_ways 21 = .ok (.iload_n 1, 1) := by decide +kernel
theorem dX9_ways_22 : decode cX9_ways 22 = .ok (.invokevirtual 543, 3) := by decide +kernel
theorem dX9_ways_25 : decode cX9_ways 25 = .ok (.bipush 10, 2) := by decide +kernel
theorem dX9_ways_27 : decode cX9_ways 27 = .ok (.if_icmp .le 10, 3) := by decide +kernel
theorem dX9_ways_30 : decode cX9_ways 30 = .ok (.aload_n 0, 1) := by decide +kernel
theorem dX9_ways_31 : decode cX9_ways 31 = .ok (.iconst 3, 1) := by decide +kernel
theorem dX9_ways_32 : decode cX9_ways 32 = .ok (.invokevirtual 58, 3) := by decide +kernel
theorem dX9_ways_35 : decode cX9_ways 35 = .ok (.i2l, 1) := by decide +kernel
theorem dX9_ways_36 : decode cX9_ways 36 = .ok (.lreturn, 1) := by decide +kernel
theorem dX9_ways_37 : decode cX9_ways 37 = .ok (.aload_n 0, 1) := by decide +kernel
theorem dX9_ways_38 : decode cX9_ways 38 = .ok (.iload_n 1, 1) := by decide +kernel
theorem dX9_ways_39 : decode cX9_ways 39 = .ok (.iconst (-1), 1) := by decide +kernel
theorem dX9_ways_40 : decode cX9_ways 40 = .ok (.invokevirtual 546, 3) := by decide +kernel
theorem dX9_ways_43 : decode cX9_ways 43 = .ok (.aload_n 0, 1) := by decide +kernel
theorem dX9_ways_44 : decode cX9_ways 44 = .ok (.iconst 0, 1) := by decide +kernel
theorem dX9_ways_45 : decode cX9_ways 45 = .ok (.invokevirtual 62, 3) := by decide +kernel
theorem dX9_ways_48 : decode cX9_ways 48 = .ok (.pop, 1) := by decide +kernel
theorem dX9_ways_49 : decode cX9_ways 49 = .ok (.aload_n 0, 1) := by decide +kernel
theorem dX9_ways_50 : decode cX9_ways 50 = .ok (.getfield 27, 3) := by decide +kernel
theorem dX9_ways_53 : decode cX9_ways 53 = .ok (.iconst 0, 1) := by decide +kernel
theorem dX9_ways_54 : decode cX9_ways 54 = .ok (.laload, 1) := by decide +kernel
theorem dX9_ways_55 : decode cX9_ways 55 = .ok (.lreturn, 1) := by decide +kernel
theorem dX9_enough_0 : decode cX9_enough 0 = .ok (.aload_n 0, 1) := by decide +kernel
theorem dX9_enough_1 : decode cX9_enough 1 = .ok (.iconst 0, 1) := by decide +kernel
theorem dX9_enough_2 : decode cX9_enough 2 = .ok (.putfield 52, 3) := by decide +kernel
theorem dX9_enough_5 : decode cX9_enough 5 = .ok (.aload_n 0, 1) := by decide +kernel
theorem dX9_enough_6 : decode cX9_enough 6 = .ok (.iload_n 1, 1) := by decide +kernel
theorem dX9_enough_7 : decode cX9_enough 7 = .ok (.invokevirtual 434, 3) := by decide +kernel
theorem dX9_enough_10 : decode cX9_enough 10 = .ok (.ifCond .eq 11, 3) := by decide +kernel
theorem dX9_enough_13 : decode cX9_enough 13 = .ok (.aload_n 0, 1) := by decide +kernel
theorem dX9_enough_14 : decode cX9_enough 14 = .ok (.iload_n 2, 1) := by decide +kernel
theorem dX9_enough_15 : decode cX9_enough 15 = .ok (.invokevirtual 446, 3) := by decide +kernel
theorem dX9_enough_18 : decode cX9_enough 18 = .ok (.ifCond .ne 9, 3) := by decide +kernel
theorem dX9_enough_21 : decode cX9_enough 21 = .ok (.aload_n 0, 1) := by decide +kernel
theorem dX9_enough_22 : decode cX9_enough 22 = .ok (.iconst 1, 1) := by decide +kernel
theorem dX9_enough_23 : decode cX9_enough 23 = .ok (.invokevirtual 58, 3) := by decide +kernel
theorem dX9_enough_26 : decode cX9_enough 26 = .ok (.ireturn, 1) := by decide +kernel
theorem dX9_enough_27 : decode cX9_enough 27 = .ok (.iload_n 3, 1) := by decide +kernel
theorem dX9_enough_28 : decode cX9_enough 28 = .ok (.iconst 0, 1) := by decide +kernel
theorem dX9_enough_29 : decode cX9_enough 29 = .ok (.bipush 99, 2) := by decide +kernel
theorem dX9_enough_31 : decode cX9_enough 31 = .ok (.invokestatic 130, 3) := by decide +kernel
theorem dX9_enough_34 : decode cX9_enough 34 = .ok (.ifCond .ne 9, 3) := by decide +kernel
theorem dX9_enough_37 : decode cX9_enough 37 = .ok (.aload_n 0, 1) := by decide +kernel
theorem dX9_enough_38 : decode cX9_enough 38 = .ok (.iconst 2, 1) := by decide +kernel
theorem dX9_enough_39 : decode cX9_enough 39 = .ok (.invokevirtual 58, 3) := by decide +kernel
theorem dX9_enough_42 : decode cX9_enough 42 = .ok (.ireturn, 1) := by decide +kernel
theorem dX9_enough_43 : decode cX9_enough 43 = .ok (.aload_n 0, 1) := by decide +kernel
theorem dX9_enough_44 : decode cX9_enough 44 = .ok (.iload_n 1, 1) := by decide +kernel
theorem dX9_enough_45 : decode cX9_enough 45 = .ok (.invokevirtual 543, 3) := by decide +kernel
theorem dX9_enough_48 : decode cX9_enough 48 = .ok (.bipush 10, 2) := by decide +kernel
theorem dX9_enough_50 : decode cX9_enough 50 = .ok (.if_icmp .le 9, 3) := by decide +kernel
theorem dX9_enough_53 : decode cX9_enough 53 = .ok (.aload_n 0, 1) := by decide +kernel
theorem dX9_enough_54 : decode cX9_enough 54 = .ok (.iconst 3, 1) := by decide +kernel
theorem dX9_enough_55 : decode cX9_enough 55 = .ok (.invokevirtual 58, 3) := by decide +kernel
theorem dX9_enough_58 : decode cX9_enough 58 = .ok (.ireturn, 1) := by decide +kernel
theorem dX9_enough_59 : decode cX9_enough 59 = .ok (.aload_n 0, 1) := by decide +kernel
theorem dX9_enough_60 : decode cX9_enough 60 = .ok (.iload_n 1, 1) := by decide +kernel
theorem dX9_enough_61 : decode cX9_enough 61 = .ok (.iload_n 2, 1) := by decide +kernel
theorem dX9_enough_62 : decode cX9_enough 62 = .ok (.invokevirtual 546, 3) := by decide +kernel
theorem dX9_enough_65 : decode cX9_enough 65 = .ok (.iconst 0, 1) := by decide +kernel
theorem dX9_enough_66 : decode cX9_enough 66 = .ok (.istore 4, 2) := by decide +kernel
theorem dX9_enough_68 : decode cX9_enough 68 = .ok (.aload_n 0, 1) := by decide +kernel
theorem dX9_enough_69 : decode cX9_enough 69 = .ok (.iload 4, 2) := by decide +kernel
theorem dX9_enough_71 : decode cX9_enough 71 = .ok (.invokevirtual 549, 3) := by decide +kernel
theorem dX9_enough_74 : decode cX9_enough 74 = .ok (.ldc2_w 553, 3) := by decide +kernel
theorem dX9_enough_77 : decode cX9_enough 77 = .ok (.lmul, 1) := by decide +kernel
theorem dX9_enough_78 : decode cX9_enough 78 = .ok (.iload_n 3, 1) := by decide +kernel
theorem dX9_enough_79 : decode cX9_enough 79 = .ok (.i2l, 1) := by decide +kernel
theorem dX9_enough_80 : decode cX9_enough 80 = .ok (.aload_n 0, 1) := by decide +kernel
theorem dX9_enough_81 : decode cX9_enough 81 = .ok (.iconst (-1), 1) := by decide +kernel
theorem dX9_enough_82 : decode cX9_enough 82 = .ok (.invokevirtual 549, 3) := by decide +kernel
theorem dX9_enough_85 : decode cX9_enough 85 = .ok (.lmul, 1) := by decide +kernel
theorem dX9_enough_86 : decode cX9_enough 86 = .ok (.lcmp, 1) := by decide +kernel
theorem dX9_enough_87 : decode cX9_enough 87 = .ok (.ifCond .le 9, 3) := by decide +kernel
theorem dX9_enough_90 : decode cX9_enough 90 = .ok (.iinc 4 1, 3) := by decide +kernel
theorem dX9_enough_93 : decode cX9_enough 93 = .ok (.goto (-25), 3) := by decide +kernel
theorem dX9_enough_96 : decode cX9_enough 96 = .ok (.aload_n 0, 1) := by decide +kernel
theorem dX9_enough_97 : decode cX9_enough 97 = .ok (.iload 4, 2) := by decide +kernel
theorem dX9_enough_99 : decode cX9_enough 99 = .ok (.invokevirtual 62, 3) := by decide +kernel
theorem dX9_enough_102 : decode cX9_enough 102 = .ok (.ireturn, 1) := by decide +kernel
theorem dX9_loadBy_0 : decode cX9_loadBy 0 = .ok (.iconst (-1), 1) := by decide +kernel
theorem dX9_loadBy_1 : decode cX9_loadBy 1 = .ok (.istore_n 3, 1) := by decide +kernel
theorem dX9_loadBy_2 : decode cX9_loadBy 2 = .ok (.iconst 0, 1) := by decide +kernel
theorem dX9_loadBy_3 : decode cX9_loadBy 3 = .ok (.istore 4, 2) := by decide +kernel
theorem dX9_loadBy_5 : decode cX9_loadBy 5 = .ok (.iload 4, 2) := by decide +kernel
theorem dX9_loadBy_7 : decode cX9_loadBy 7 = .ok (.aload_n 0, 1) := by decide +kernel
theorem dX9_loadBy_8 : decode cX9_loadBy 8 = .ok (.getfield 425, 3) := by decide +kernel
theorem dX9_loadBy_11 : decode cX9_loadBy 11 = .ok (.getfield 302, 3) := by decide +kernel
theorem dX9_loadBy_14 : decode cX9_loadBy 14 = .ok (.if_icmp .ge 98, 3) := by decide +kernel
theorem dX9_loadBy_17 : decode cX9_loadBy 17 = .ok (.aload_n 0, 1) := by decide +kernel
theorem dX9_loadBy_18 : decode cX9_loadBy 18 = .ok (.getfield 425, 3) := by decide +kernel
theorem dX9_loadBy_21 : decode cX9_loadBy 21 = .ok (.getfield 307, 3) := by decide +kernel
theorem dX9_loadBy_24 : decode cX9_loadBy 24 = .ok (.iload 4, 2) := by decide +kernel
theorem dX9_loadBy_26 : decode cX9_loadBy 26 = .ok (.iaload, 1) := by decide +kernel
theorem dX9_loadBy_27 : decode cX9_loadBy 27 = .ok (.iload_n 1, 1) := by decide +kernel
theorem dX9_loadBy_28 : decode cX9_loadBy 28 = .ok (.if_icmp .eq 6, 3) := by decide +kernel
theorem dX9_loadBy_31 : decode cX9_loadBy 31 = .ok (.goto 75, 3) := by decide +kernel
theorem dX9_loadBy_34 : decode cX9_loadBy 34 = .ok (.aload_n 0, 1) := by decide +kernel
theorem dX9_loadBy_35 : decode cX9_loadBy 35 = .ok (.invokevirtual 440, 3) := by decide +kernel
theorem dX9_loadBy_38 : decode cX9_loadBy 38 = .ok (.aload_n 0, 1) := by decide +kernel
theorem dX9_loadBy_39 : decode cX9_loadBy 39 = .ok (.getfield 425, 3) := by decide +kernel
theorem dX9_loadBy_42 : decode cX9_loadBy 42 = .ok (.getfield 310, 3) := by decide +kernel
theorem dX9_loadBy_45 : decode cX9_loadBy 45 = .ok (.iload 4, 2) := by decide +kernel
theorem dX9_loadBy_47 : decode cX9_loadBy 47 = .ok (.iaload, 1) := by decide +kernel
theorem dX9_loadBy_48 : decode cX9_loadBy 48 = .ok (.imul, 1) := by decide +kernel
theorem dX9_loadBy_49 : decode cX9_loadBy 49 = .ok (.aload_n 0, 1) := by decide +kernel
theorem dX9_loadBy_50 : decode cX9_loadBy 50 = .ok (.getfield 425, 3) := by decide +kernel
theorem dX9_loadBy_53 : decode cX9_loadBy 53 = .ok (.getfield 312, 3) := by decide +kernel
theorem dX9_loadBy_56 : decode cX9_loadBy 56 = .ok (.iload 4, 2) := by decide +kernel
theorem dX9_loadBy_58 : decode cX9_loadBy 58 = .ok (.iaload, 1) := by decide +kernel
theorem dX9_loadBy_59 : decode cX9_loadBy 59 = .ok (.iadd, 1) := by decide +kernel
theorem dX9_loadBy_60 : decode cX9_loadBy 60 = .ok (.iconst 1, 1) := by decide +kernel
theorem dX9_loadBy_61 : decode cX9_loadBy 61 = .ok (.isub, 1) := by decide +kernel
theorem dX9_loadBy_62 : decode cX9_loadBy 62 = .ok (.aload_n 0, 1) := by decide +kernel
theorem dX9_loadBy_63 : decode cX9_loadBy 63 = .ok (.getfield 425, 3) := by decide +kernel
theorem dX9_loadBy_66 : decode cX9_loadBy 66 = .ok (.getfield 312, 3) := by decide +kernel
theorem dX9_loadBy_69 : decode cX9_loadBy 69 = .ok (.iload 4, 2) := by decide +kernel
theorem dX9_loadBy_71 : decode cX9_loadBy 71 = .ok (.iaload, 1) := by decide +kernel
theorem dX9_loadBy_72 : decode cX9_loadBy 72 = .ok (.idiv, 1) := by decide +kernel
theorem dX9_loadBy_73 : decode cX9_loadBy 73 = .ok (.istore 5, 2) := by decide +kernel
theorem dX9_loadBy_75 : decode cX9_loadBy 75 = .ok (.iload_n 3, 1) := by decide +kernel
theorem dX9_loadBy_76 : decode cX9_loadBy 76 = .ok (.iconst (-1), 1) := by decide +kernel
theorem dX9_loadBy_77 : decode cX9_loadBy 77 = .ok (.if_icmp .eq 22, 3) := by decide +kernel
theorem dX9_loadBy_80 : decode cX9_loadBy 80 = .ok (.iload_n 2, 1) := by decide +kernel
theorem dX9_loadBy_81 : decode cX9_loadBy 81 = .ok (.ifCond .eq 12, 3) := by decide +kernel
theorem dX9_loadBy_84 : decode cX9_loadBy 84 = .ok (.iload 5, 2) := by decide +kernel
theorem dX9_loadBy_86 : decode cX9_loadBy 86 = .ok (.iload_n 3, 1) := by decide +kernel
theorem dX9_loadBy_87 : decode cX9_loadBy 87 = .ok (.if_icmp .le 17, 3) := by decide +kernel
theorem dX9_loadBy_90 : decode cX9_loadBy 90 = .ok (.goto 9, 3) := by decide +kernel
theorem dX9_loadBy_93 : decode cX9_loadBy 93 = .ok (.iload 5, 2) := by decide +kernel
theorem dX9_loadBy_95 : decode cX9_loadBy 95 = .ok (.iload_n 3, 1) := by decide +kernel
theorem dX9_loadBy_96 : decode cX9_loadBy 96 = .ok (.if_icmp .ge 8, 3) := by decide +kernel
theorem dX9_loadBy_99 : decode cX9_loadBy 99 = .ok (.iload 5, 2) := by decide +kernel
theorem dX9_loadBy_101 : decode cX9_loadBy 101 = .ok (.goto 4, 3) := by decide +kernel
theorem dX9_loadBy_104 : decode cX9_loadBy 104 = .ok (.iload_n 3, 1) := by decide +kernel
theorem dX9_loadBy_105 : decode cX9_loadBy 105 = .ok (.istore_n 3, 1) := by decide +kernel
theorem dX9_loadBy_106 : decode cX9_loadBy 106 = .ok (.iinc 4 1, 3) := by decide +kernel
theorem dX9_loadBy_109 : decode cX9_loadBy 109 = .ok (.goto (-104), 3) := by decide +kernel
theorem dX9_loadBy_112 : decode cX9_loadBy 112 = .ok (.iload_n 3, 1) := by decide +kernel
theorem dX9_loadBy_113 : decode cX9_loadBy 113 = .ok (.ireturn, 1) := by decide +kernel
theorem dX9_load_0 : decode cX9_load 0 = .ok (.aload_n 0, 1) := by decide +kernel
theorem dX9_load_1 : decode cX9_load 1 = .ok (.iconst 0, 1) := by decide +kernel
theorem dX9_load_2 : decode cX9_load 2 = .ok (.putfield 52, 3) := by decide +kernel
theorem dX9_load_5 : decode cX9_load 5 = .ok (.aload_n 0, 1) := by decide +kernel
theorem dX9_load_6 : decode cX9_load 6 = .ok (.iload_n 1, 1) := by decide +kernel
theorem dX9_load_7 : decode cX9_load 7 = .ok (.invokevirtual 446, 3) := by decide +kernel
theorem dX9_load_10 : decode cX9_load 10 = .ok (.ifCond .ne 9, 3) := by decide +kernel
theorem dX9_load_13 : decode cX9_load 13 = .ok (.aload_n 0, 1) := by decide +kernel
theorem dX9_load_14 : decode cX9_load 14 = .ok (.iconst 1, 1) := by decide +kernel
theorem dX9_load_15 : decode cX9_load 15 = .ok (.invokevirtual 58, 3) := by decide +kernel
theorem dX9_load_18 : decode cX9_load 18 = .ok (.ireturn, 1) := by decide +kernel
theorem dX9_load_19 : decode cX9_load 19 = .ok (.aload_n 0, 1) := by decide +kernel
theorem dX9_load_20 : decode cX9_load 20 = .ok (.iload_n 1, 1) := by decide +kernel
theorem dX9_load_21 : decode cX9_load 21 = .ok (.iload_n 2, 1) := by decide +kernel
theorem dX9_load_22 : decode cX9_load 22 = .ok (.invokevirtual 555, 3) := by decide +kernel
theorem dX9_load_25 : decode cX9_load 25 = .ok (.istore_n 3, 1) := by decide +kernel
theorem dX9_load_26 : decode cX9_load 26 = .ok (.iload_n 3, 1) := by decide +kernel
theorem dX9_load_27 : decode cX9_load 27 = .ok (.iconst (-1), 1) := by decide +kernel
theorem dX9_load_28 : decode cX9_load 28 = .ok (.if_icmp .ne 12, 3) := by decide +kernel
theorem dX9_load_31 : decode cX9_load 31 = .ok (.aload_n 0, 1) := by decide +kernel
theorem dX9_load_32 : decode cX9_load 32 = .ok (.bipush 6, 2) := by decide +kernel
theorem dX9_load_34 : decode cX9_load 34 = .ok (.invokevirtual 58, 3) := by decide +kernel
theorem dX9_load_37 : decode cX9_load 37 = .ok (.goto 8, 3) := by decide +kernel
theorem dX9_load_40 : decode cX9_load 40 = .ok (.aload_n 0, 1) := by decide +kernel
theorem dX9_load_41 : decode cX9_load 41 = .ok (.iload_n 3, 1) := by decide +kernel
theorem dX9_load_42 : decode cX9_load 42 = .ok (.invokevirtual 62, 3) := by decide +kernel
theorem dX9_load_45 : decode cX9_load 45 = .ok (.ireturn, 1) := by decide +kernel
theorem dX9_loadedInAll_0 : decode cX9_loadedInAll 0 = .ok (.iconst 0, 1) := by decide +kernel
theorem dX9_loadedInAll_1 : decode cX9_loadedInAll 1 = .ok (.istore_n 2, 1) := by decide +kernel
theorem dX9_loadedInAll_2 : decode cX9_loadedInAll 2 = .ok (.iconst 0, 1) := by decide +kernel
theorem dX9_loadedInAll_3 : decode cX9_loadedInAll 3 = .ok (.istore_n 3, 1) := by decide +kernel
theorem dX9_loadedInAll_4 : decode cX9_loadedInAll 4 = .ok (.iload_n 3, 1) := by decide +kernel
theorem dX9_loadedInAll_5 : decode cX9_loadedInAll 5 = .ok (.aload_n 0, 1) := by decide +kernel
theorem dX9_loadedInAll_6 : decode cX9_loadedInAll 6 = .ok (.getfield 425, 3) := by decide +kernel
theorem dX9_loadedInAll_9 : decode cX9_loadedInAll 9 = .ok (.getfield 214, 3) := by decide +kernel
theorem dX9_loadedInAll_12 : decode cX9_loadedInAll 12 = .ok (.if_icmp .ge 25, 3) := by decide +kernel
theorem dX9_loadedInAll_15 : decode cX9_loadedInAll 15 = .ok (.iload_n 2, 1) := by decide +kernel
theorem dX9_loadedInAll_16 : decode cX9_loadedInAll 16 = .ok (.aload_n 0, 1) := by decide +kernel
theorem dX9_loadedInAll_17 : decode cX9_loadedInAll 17 = .ok (.getfield 425, 3) := by decide +kernel
theorem dX9_loadedInAll_20 : decode cX9_loadedInAll 20 = .ok (.getfield 337, 3) := by decide +kernel
theorem dX9_loadedInAll_23 : decode cX9_loadedInAll 23 = .ok (.iconst 4, 1) := by decide +kernel
theorem dX9_loadedInAll_24 : decode cX9_loadedInAll 24 = .ok (.iload_n 3, 1) := by decide +kernel
theorem dX9_loadedInAll_25 : decode cX9_loadedInAll 25 = .ok (.imul, 1) := by decide +kernel
theorem dX9_loadedInAll_26 : decode cX9_loadedInAll 26 = .ok (.iload_n 1, 1) := by decide +kernel
theorem dX9_loadedInAll_27 : decode cX9_loadedInAll 27 = .ok (.iadd, 1) := by decide +kernel
theorem dX9_loadedInAll_28 : decode cX9_loadedInAll 28 = .ok (.iaload, 1) := by decide +kernel
theorem dX9_loadedInAll_29 : decode cX9_loadedInAll 29 = .ok (.iadd, 1) := by decide +kernel
theorem dX9_loadedInAll_30 : decode cX9_loadedInAll 30 = .ok (.istore_n 2, 1) := by decide +kernel
theorem dX9_loadedInAll_31 : decode cX9_loadedInAll 31 = .ok (.iinc 3 1, 3) := by decide +kernel
theorem dX9_loadedInAll_34 : decode cX9_loadedInAll 34 = .ok (.goto (-30), 3) := by decide +kernel
theorem dX9_loadedInAll_37 : decode cX9_loadedInAll 37 = .ok (.iload_n 2, 1) := by decide +kernel
theorem dX9_loadedInAll_38 : decode cX9_loadedInAll 38 = .ok (.ireturn, 1) := by decide +kernel
theorem dX9_spare_0 : decode cX9_spare 0 = .ok (.aload_n 0, 1) := by decide +kernel
theorem dX9_spare_1 : decode cX9_spare 1 = .ok (.iconst 0, 1) := by decide +kernel
theorem dX9_spare_2 : decode cX9_spare 2 = .ok (.putfield 52, 3) := by decide +kernel
theorem dX9_spare_5 : decode cX9_spare 5 = .ok (.aload_n 0, 1) := by decide +kernel
theorem dX9_spare_6 : decode cX9_spare 6 = .ok (.iload_n 1, 1) := by decide +kernel
theorem dX9_spare_7 : decode cX9_spare 7 = .ok (.invokevirtual 446, 3) := by decide +kernel
theorem dX9_spare_10 : decode cX9_spare 10 = .ok (.ifCond .ne 9, 3) := by decide +kernel
theorem dX9_spare_13 : decode cX9_spare 13 = .ok (.aload_n 0, 1) := by decide +kernel
theorem dX9_spare_14 : decode cX9_spare 14 = .ok (.iconst 1, 1) := by decide +kernel
theorem dX9_spare_15 : decode cX9_spare 15 = .ok (.invokevirtual 522, 3) := by decide +kernel
theorem dX9_spare_18 : decode cX9_spare 18 = .ok (.ireturn, 1) := by decide +kernel
theorem dX9_spare_19 : decode cX9_spare 19 = .ok (.aload_n 0, 1) := by decide +kernel
theorem dX9_spare_20 : decode cX9_spare 20 = .ok (.iload_n 1, 1) := by decide +kernel
theorem dX9_spare_21 : decode cX9_spare 21 = .ok (.iconst 1, 1) := by decide +kernel
theorem dX9_spare_22 : decode cX9_spare 22 = .ok (.invokevirtual 555, 3) := by decide +kernel
theorem dX9_spare_25 : decode cX9_spare 25 = .ok (.istore_n 2, 1) := by decide +kernel
theorem dX9_spare_26 : decode cX9_spare 26 = .ok (.iload_n 2, 1) := by decide +kernel
theorem dX9_spare_27 : decode cX9_spare 27 = .ok (.iconst (-1), 1) := by decide +kernel
theorem dX9_spare_28 : decode cX9_spare 28 = .ok (.if_icmp .ne 12, 3) := by decide +kernel
theorem dX9_spare_31 : decode cX9_spare 31 = .ok (.aload_n 0, 1) := by decide +kernel
theorem dX9_spare_32 : decode cX9_spare 32 = .ok (.bipush 6, 2) := by decide +kernel
theorem dX9_spare_34 : decode cX9_spare 34 = .ok (.invokevirtual 522, 3) := by decide +kernel
theorem dX9_spare_37 : decode cX9_spare 37 = .ok (.goto 14, 3) := by decide +kernel
theorem dX9_spare_40 : decode cX9_spare 40 = .ok (.aload_n 0, 1) := by decide +kernel
theorem dX9_spare_41 : decode cX9_spare 41 = .ok (.aload_n 0, 1) := by decide +kernel
theorem dX9_spare_42 : decode cX9_spare 42 = .ok (.iload_n 1, 1) := by decide +kernel
theorem dX9_spare_43 : decode cX9_spare 43 = .ok (.invokevirtual 559, 3) := by decide +kernel
theorem dX9_spare_46 : decode cX9_spare 46 = .ok (.iload_n 2, 1) := by decide +kernel
theorem dX9_spare_47 : decode cX9_spare 47 = .ok (.isub, 1) := by decide +kernel
theorem dX9_spare_48 : decode cX9_spare 48 = .ok (.invokevirtual 62, 3) := by decide +kernel
theorem dX9_spare_51 : decode cX9_spare 51 = .ok (.ireturn, 1) := by decide +kernel
theorem dX9_unloaded_0 : decode cX9_unloaded 0 = .ok (.aload_n 0, 1) := by decide +kernel
theorem dX9_unloaded_1 : decode cX9_unloaded 1 = .ok (.iconst 0, 1) := by decide +kernel
theorem dX9_unloaded_2 : decode cX9_unloaded 2 = .ok (.putfield 52, 3) := by decide +kernel
theorem dX9_unloaded_5 : decode cX9_unloaded 5 = .ok (.aload_n 0, 1) := by decide +kernel
theorem dX9_unloaded_6 : decode cX9_unloaded 6 = .ok (.getfield 425, 3) := by decide +kernel
theorem dX9_unloaded_9 : decode cX9_unloaded 9 = .ok (.ifnonnull 9, 3) := by decide +kernel
theorem dX9_unloaded_12 : decode cX9_unloaded 12 = .ok (.aload_n 0, 1) := by decide +kernel
theorem dX9_unloaded_13 : decode cX9_unloaded 13 = .ok (.iconst 1, 1) := by decide +kernel
theorem dX9_unloaded_14 : decode cX9_unloaded 14 = .ok (.invokevirtual 58, 3) := by decide +kernel
theorem dX9_unloaded_17 : decode cX9_unloaded 17 = .ok (.ireturn, 1) := by decide +kernel
theorem dX9_unloaded_18 : decode cX9_unloaded 18 = .ok (.iconst 0, 1) := by decide +kernel
theorem dX9_unloaded_19 : decode cX9_unloaded 19 = .ok (.istore_n 1, 1) := by decide +kernel
theorem dX9_unloaded_20 : decode cX9_unloaded 20 = .ok (.iconst 0, 1) := by decide +kernel
theorem dX9_unloaded_21 : decode cX9_unloaded 21 = .ok (.istore_n 2, 1) := by decide +kernel
theorem dX9_unloaded_22 : decode cX9_unloaded 22 = .ok (.iload_n 2, 1) := by decide +kernel
theorem dX9_unloaded_23 : decode cX9_unloaded 23 = .ok (.aload_n 0, 1) := by decide +kernel
theorem dX9_unloaded_24 : decode cX9_unloaded 24 = .ok (.getfield 425, 3) := by decide +kernel
theorem dX9_unloaded_27 : decode cX9_unloaded 27 = .ok (.getfield 365, 3) := by decide +kernel
theorem dX9_unloaded_30 : decode cX9_unloaded 30 = .ok (.if_icmp .ge 54, 3) := by decide +kernel
theorem dX9_unloaded_33 : decode cX9_unloaded 33 = .ok (.iload_n 1, 1) := by decide +kernel
theorem dX9_unloaded_34 : decode cX9_unloaded 34 = .ok (.aload_n 0, 1) := by decide +kernel
theorem dX9_unloaded_35 : decode cX9_unloaded 35 = .ok (.getfield 425, 3) := by decide +kernel
theorem dX9_unloaded_38 : decode cX9_unloaded 38 = .ok (.getfield 375, 3) := by decide +kernel
theorem dX9_unloaded_41 : decode cX9_unloaded 41 = .ok (.iload_n 2, 1) := by decide +kernel
theorem dX9_unloaded_42 : decode cX9_unloaded 42 = .ok (.iaload, 1) := by decide +kernel
theorem dX9_unloaded_43 : decode cX9_unloaded 43 = .ok (.aload_n 0, 1) := by decide +kernel
theorem dX9_unloaded_44 : decode cX9_unloaded 44 = .ok (.getfield 425, 3) := by decide +kernel
theorem dX9_unloaded_47 : decode cX9_unloaded 47 = .ok (.getfield 205, 3) := by decide +kernel
theorem dX9_unloaded_50 : decode cX9_unloaded 50 = .ok (.if_icmp .gt 25, 3) := by decide +kernel
theorem dX9_unloaded_53 : decode cX9_unloaded 53 = .ok (.aload_n 0, 1) := by decide +kernel
theorem dX9_unloaded_54 : decode cX9_unloaded 54 = .ok (.aload_n 0, 1) := by decide +kernel
theorem dX9_unloaded_55 : decode cX9_unloaded 55 = .ok (.getfield 425, 3) := by decide +kernel
theorem dX9_unloaded_58 : decode cX9_unloaded 58 = .ok (.getfield 378, 3) := by decide +kernel
theorem dX9_unloaded_61 : decode cX9_unloaded 61 = .ok (.iload_n 2, 1) := by decide +kernel
theorem dX9_unloaded_62 : decode cX9_unloaded 62 = .ok (.iaload, 1) := by decide +kernel
theorem dX9_unloaded_63 : decode cX9_unloaded 63 = .ok (.invokevirtual 559, 3) := by decide +kernel
theorem dX9_unloaded_66 : decode cX9_unloaded 66 = .ok (.ifCond .ne 9, 3) := by decide +kernel
theorem dX9_unloaded_69 : decode cX9_unloaded 69 = .ok (.iconst 1, 1) := by decide +kernel
theorem dX9_unloaded_70 : decode cX9_unloaded 70 = .ok (.iload_n 2, 1) := by decide +kernel
theorem dX9_unloaded_71 : decode cX9_unloaded 71 = .ok (.ishl, 1) := by decide +kernel
theorem dX9_unloaded_72 : decode cX9_unloaded 72 = .ok (.goto 4, 3) := by decide +kernel
theorem dX9_unloaded_75 : decode cX9_unloaded 75 = .ok (.iconst 0, 1) := by decide +kernel
theorem dX9_unloaded_76 : decode cX9_unloaded 76 = .ok (.ior, 1) := by decide +kernel
theorem dX9_unloaded_77 : decode cX9_unloaded 77 = .ok (.istore_n 1, 1) := by decide +kernel
theorem dX9_unloaded_78 : decode cX9_unloaded 78 = .ok (.iinc 2 1, 3) := by decide +kernel
theorem dX9_unloaded_81 : decode cX9_unloaded 81 = .ok (.goto (-59), 3) := by decide +kernel
theorem dX9_unloaded_84 : decode cX9_unloaded 84 = .ok (.aload_n 0, 1) := by decide +kernel
theorem dX9_unloaded_85 : decode cX9_unloaded 85 = .ok (.iload_n 1, 1) := by decide +kernel
theorem dX9_unloaded_86 : decode cX9_unloaded 86 = .ok (.invokevirtual 62, 3) := by decide +kernel
theorem dX9_unloaded_89 : decode cX9_unloaded 89 = .ok (.ireturn, 1) := by decide +kernel
theorem dX9_rowOn_0 : decode cX9_rowOn 0 = .ok (.iconst (-1), 1) := by decide +kernel
theorem dX9_rowOn_1 : decode cX9_rowOn 1 = .ok (.istore_n 3, 1) := by decide +kernel
theorem dX9_rowOn_2 : decode cX9_rowOn 2 = .ok (.iconst 1, 1) := by decide +kernel
theorem dX9_rowOn_3 : decode cX9_rowOn 3 = .ok (.istore 4, 2) := by decide +kernel
theorem dX9_rowOn_5 : decode cX9_rowOn 5 = .ok (.iload 4, 2) := by decide +kernel
theorem dX9_rowOn_7 : decode cX9_rowOn 7 = .ok (.aload_n 0, 1) := by decide +kernel
theorem dX9_rowOn_8 : decode cX9_rowOn 8 = .ok (.getfield 425, 3) := by decide +kernel
theorem dX9_rowOn_11 : decode cX9_rowOn 11 = .ok (.getfield 205, 3) := by decide +kernel
theorem dX9_rowOn_14 : decode cX9_rowOn 14 = .ok (.if_icmp .gt 95, 3) := by decide +kernel
theorem dX9_rowOn_17 : decode cX9_rowOn 17 = .ok (.aload_n 0, 1) := by decide +kernel
theorem dX9_rowOn_18 : decode cX9_rowOn 18 = .ok (.getfield 21, 3) := by decide +kernel
theorem dX9_rowOn_21 : decode cX9_rowOn 21 = .ok (.bipush 10, 2) := by decide +kernel
theorem dX9_rowOn_23 : decode cX9_rowOn 23 = .ok (.iload 4, 2) := by decide +kernel
theorem dX9_rowOn_25 : decode cX9_rowOn 25 = .ok (.imul, 1) := by decide +kernel
theorem dX9_rowOn_26 : decode cX9_rowOn 26 = .ok (.iconst 0, 1) := by decide +kernel
theorem dX9_rowOn_27 : decode cX9_rowOn 27 = .ok (.iadd, 1) := by decide +kernel
theorem dX9_rowOn_28 : decode cX9_rowOn 28 = .ok (.iaload, 1) := by decide +kernel
theorem dX9_rowOn_29 : decode cX9_rowOn 29 = .ok (.iload_n 1, 1) := by decide +kernel
theorem dX9_rowOn_30 : decode cX9_rowOn 30 = .ok (.if_icmp .ne 73, 3) := by decide +kernel
theorem dX9_rowOn_33 : decode cX9_rowOn 33 = .ok (.aload_n 0, 1) := by decide +kernel
theorem dX9_rowOn_34 : decode cX9_rowOn 34 = .ok (.getfield 21, 3) := by decide +kernel
theorem dX9_rowOn_37 : decode cX9_rowOn 37 = .ok (.bipush 10, 2) := by decide +kernel
theorem dX9_rowOn_39 : decode cX9_rowOn 39 = .ok (.iload 4, 2) := by decide +kernel
theorem dX9_rowOn_41 : decode cX9_rowOn 41 = .ok (.imul, 1) := by decide +kernel
theorem dX9_rowOn_42 : decode cX9_rowOn 42 = .ok (.iconst 1, 1) := by decide +kernel
theorem dX9_rowOn_43 : decode cX9_rowOn 43 = .ok (.iadd, 1) := by decide +kernel
theorem dX9_rowOn_44 : decode cX9_rowOn 44 = .ok (.iaload, 1) := by decide +kernel
theorem dX9_rowOn_45 : decode cX9_rowOn 45 = .ok (.iload_n 2, 1) := by decide +kernel
theorem dX9_rowOn_46 : decode cX9_rowOn 46 = .ok (.if_icmp .le 6, 3) := by decide +kernel
theorem dX9_rowOn_49 : decode cX9_rowOn 49 = .ok (.goto 54, 3) := by decide +kernel
theorem dX9_rowOn_52 : decode cX9_rowOn 52 = .ok (.iload_n 3, 1) := by decide +kernel
theorem dX9_rowOn_53 : decode cX9_rowOn 53 = .ok (.iconst (-1), 1) := by decide +kernel
theorem dX9_rowOn_54 : decode cX9_rowOn 54 = .ok (.if_icmp .eq 30, 3) := by decide +kernel
theorem dX9_rowOn_57 : decode cX9_rowOn 57 = .ok (.aload_n 0, 1) := by decide +kernel
theorem dX9_rowOn_58 : decode cX9_rowOn 58 = .ok (.getfield 425, 3) := by decide +kernel
theorem dX9_rowOn_61 : decode cX9_rowOn 61 = .ok (.getfield 326, 3) := by decide +kernel
theorem dX9_rowOn_64 : decode cX9_rowOn 64 = .ok (.iload_n 1, 1) := by decide +kernel
theorem dX9_rowOn_65 : decode cX9_rowOn 65 = .ok (.iaload, 1) := by decide +kernel
theorem dX9_rowOn_66 : decode cX9_rowOn 66 = .ok (.ifCond .ne 12, 3) := by decide +kernel
theorem dX9_rowOn_69 : decode cX9_rowOn 69 = .ok (.iload 4, 2) := by decide +kernel
theorem dX9_rowOn_71 : decode cX9_rowOn 71 = .ok (.iload_n 3, 1) := by decide +kernel
theorem dX9_rowOn_72 : decode cX9_rowOn 72 = .ok (.if_icmp .le 16, 3) := by decide +kernel
theorem dX9_rowOn_75 : decode cX9_rowOn 75 = .ok (.goto 9, 3) := by decide +kernel
theorem dX9_rowOn_78 : decode cX9_rowOn 78 = .ok (.iload 4, 2) := by decide +kernel
theorem dX9_rowOn_80 : decode cX9_rowOn 80 = .ok (.iload_n 3, 1) := by decide +kernel
theorem dX9_rowOn_81 : decode cX9_rowOn 81 = .ok (.if_icmp .ge 7, 3) := by decide +kernel
theorem dX9_rowOn_84 : decode cX9_rowOn 84 = .ok (.iconst 1, 1) := by decide +kernel
theorem dX9_rowOn_85 : decode cX9_rowOn 85 = .ok (.goto 4, 3) := by decide +kernel
theorem dX9_rowOn_88 : decode cX9_rowOn 88 = .ok (.iconst 0, 1) := by decide +kernel
theorem dX9_rowOn_89 : decode cX9_rowOn 89 = .ok (.istore 5, 2) := by decide +kernel
theorem dX9_rowOn_91 : decode cX9_rowOn 91 = .ok (.iload 5, 2) := by decide +kernel
theorem dX9_rowOn_93 : decode cX9_rowOn 93 = .ok (.ifCond .eq 8, 3) := by decide +kernel
theorem dX9_rowOn_96 : decode cX9_rowOn 96 = .ok (.iload 4, 2) := by decide +kernel
theorem dX9_rowOn_98 : decode cX9_rowOn 98 = .ok (.goto 4, 3) := by decide +kernel
theorem dX9_rowOn_101 : decode cX9_rowOn 101 = .ok (.iload_n 3, 1) := by decide +kernel
theorem dX9_rowOn_102 : decode cX9_rowOn 102 = .ok (.istore_n 3, 1) := by decide +kernel
theorem dX9_rowOn_103 : decode cX9_rowOn 103 = .ok (.iinc 4 1, 3) := by decide +kernel
theorem dX9_rowOn_106 : decode cX9_rowOn 106 = .ok (.goto (-101), 3) := by decide +kernel
theorem dX9_rowOn_109 : decode cX9_rowOn 109 = .ok (.iload_n 3, 1) := by decide +kernel
theorem dX9_rowOn_110 : decode cX9_rowOn 110 = .ok (.iconst (-1), 1) := by decide +kernel
theorem dX9_rowOn_111 : decode cX9_rowOn 111 = .ok (.if_icmp .eq 17, 3) := by decide +kernel
theorem dX9_rowOn_114 : decode cX9_rowOn 114 = .ok (.iload_n 2, 1) := by decide +kernel
theorem dX9_rowOn_115 : decode cX9_rowOn 115 = .ok (.aload_n 0, 1) := by decide +kernel
theorem dX9_rowOn_116 : decode cX9_rowOn 116 = .ok (.getfield 21, 3) := by decide +kernel
theorem dX9_rowOn_119 : decode cX9_rowOn 119 = .ok (.sipush 410, 3) := by decide +kernel
theorem dX9_rowOn_122 : decode cX9_rowOn 122 = .ok (.iload_n 1, 1) := by decide +kernel
theorem dX9_rowOn_123 : decode cX9_rowOn 123 = .ok (.iadd, 1) := by decide +kernel
theorem dX9_rowOn_124 : decode cX9_rowOn 124 = .ok (.iaload, 1) := by decide +kernel
theorem dX9_rowOn_125 : decode cX9_rowOn 125 = .ok (.if_icmp .lt 7, 3) := by decide +kernel
theorem dX9_rowOn_128 : decode cX9_rowOn 128 = .ok (.iconst (-1), 1) := by decide +kernel
theorem dX9_rowOn_129 : decode cX9_rowOn 129 = .ok (.goto 4, 3) := by decide +kernel
theorem dX9_rowOn_132 : decode cX9_rowOn 132 = .ok (.iload_n 3, 1) := by decide +kernel
theorem dX9_rowOn_133 : decode cX9_rowOn 133 = .ok (.ireturn, 1) := by decide +kernel
theorem dX9_isFree_0 : decode cX9_isFree 0 = .ok (.iconst 0, 1) := by decide +kernel
theorem dX9_isFree_1 : decode cX9_isFree 1 = .ok (.istore_n 3, 1) := by decide +kernel
theorem dX9_isFree_2 : decode cX9_isFree 2 = .ok (.iload_n 3, 1) := by decide +kernel
theorem dX9_isFree_3 : decode cX9_isFree 3 = .ok (.aload_n 0, 1) := by decide +kernel
theorem dX9_isFree_4 : decode cX9_isFree 4 = .ok (.getfield 425, 3) := by decide +kernel
theorem dX9_isFree_7 : decode cX9_isFree 7 = .ok (.getfield 214, 3) := by decide +kernel
theorem dX9_isFree_10 : decode cX9_isFree 10 = .ok (.if_icmp .ge 63, 3) := by decide +kernel
theorem dX9_isFree_13 : decode cX9_isFree 13 = .ok (.aload_n 0, 1) := by decide +kernel
theorem dX9_isFree_14 : decode cX9_isFree 14 = .ok (.iload_n 3, 1) := by decide +kernel
theorem dX9_isFree_15 : decode cX9_isFree 15 = .ok (.iload_n 2, 1) := by decide +kernel
theorem dX9_isFree_16 : decode cX9_isFree 16 = .ok (.invokevirtual 562, 3) := by decide +kernel
theorem dX9_isFree_19 : decode cX9_isFree 19 = .ok (.istore 4, 2) := by decide +kernel
theorem dX9_isFree_21 : decode cX9_isFree 21 = .ok (.iload 4, 2) := by decide +kernel
theorem dX9_isFree_23 : decode cX9_isFree 23 = .ok (.iconst (-1), 1) := by decide +kernel
theorem dX9_isFree_24 : decode cX9_isFree 24 = .ok (.if_icmp .eq 43, 3) := by decide +kernel
theorem dX9_isFree_27 : decode cX9_isFree 27 = .ok (.iload 4, 2) := by decide +kernel
theorem dX9_isFree_29 : decode cX9_isFree 29 = .ok (.aload_n 0, 1) := by decide +kernel
theorem dX9_isFree_30 : decode cX9_isFree 30 = .ok (.getfield 425, 3) := by decide +kernel
theorem dX9_isFree_33 : decode cX9_isFree 33 = .ok (.getfield 405, 3) := by decide +kernel
theorem dX9_isFree_36 : decode cX9_isFree 36 = .ok (.iload_n 1, 1) := by decide +kernel
theorem dX9_isFree_37 : decode cX9_isFree 37 = .ok (.iaload, 1) := by decide +kernel
theorem dX9_isFree_38 : decode cX9_isFree 38 = .ok (.aload_n 0, 1) := by decide +kernel
theorem dX9_isFree_39 : decode cX9_isFree 39 = .ok (.getfield 425, 3) := by decide +kernel
theorem dX9_isFree_42 : decode cX9_isFree 42 = .ok (.getfield 408, 3) := by decide +kernel
theorem dX9_isFree_45 : decode cX9_isFree 45 = .ok (.iload_n 1, 1) := by decide +kernel
theorem dX9_isFree_46 : decode cX9_isFree 46 = .ok (.iaload, 1) := by decide +kernel
theorem dX9_isFree_47 : decode cX9_isFree 47 = .ok (.invokestatic 130, 3) := by decide +kernel
theorem dX9_isFree_50 : decode cX9_isFree 50 = .ok (.ifCond .eq 17, 3) := by decide +kernel
theorem dX9_isFree_53 : decode cX9_isFree 53 = .ok (.aload_n 0, 1) := by decide +kernel
theorem dX9_isFree_54 : decode cX9_isFree 54 = .ok (.getfield 425, 3) := by decide +kernel
theorem dX9_isFree_57 : decode cX9_isFree 57 = .ok (.iload 4, 2) := by decide +kernel
theorem dX9_isFree_59 : decode cX9_isFree 59 = .ok (.invokevirtual 565, 3) := by decide +kernel
theorem dX9_isFree_62 : decode cX9_isFree 62 = .ok (.ifCond .ne 5, 3) := by decide +kernel
theorem dX9_isFree_65 : decode cX9_isFree 65 = .ok (.iconst 0, 1) := by decide +kernel
theorem dX9_isFree_66 : decode cX9_isFree 66 = .ok (.ireturn, 1) := by decide +kernel
theorem dX9_isFree_67 : decode cX9_isFree 67 = .ok (.iinc 3 1, 3) := by decide +kernel
theorem dX9_isFree_70 : decode cX9_isFree 70 = .ok (.goto (-68), 3) := by decide +kernel
theorem dX9_isFree_73 : decode cX9_isFree 73 = .ok (.iconst 1, 1) := by decide +kernel
theorem dX9_isFree_74 : decode cX9_isFree 74 = .ok (.ireturn, 1) := by decide +kernel
theorem dX9_waits_0 : decode cX9_waits 0 = .ok (.aload_n 0, 1) := by decide +kernel
theorem dX9_waits_1 : decode cX9_waits 1 = .ok (.iconst 0, 1) := by decide +kernel
theorem dX9_waits_2 : decode cX9_waits 2 = .ok (.putfield 52, 3) := by decide +kernel
theorem dX9_waits_5 : decode cX9_waits 5 = .ok (.aload_n 0, 1) := by decide +kernel
theorem dX9_waits_6 : decode cX9_waits 6 = .ok (.getfield 425, 3) := by decide +kernel
theorem dX9_waits_9 : decode cX9_waits 9 = .ok (.ifnull 18, 3) := by decide +kernel
theorem dX9_waits_12 : decode cX9_waits 12 = .ok (.iload_n 1, 1) := by decide +kernel
theorem dX9_waits_13 : decode cX9_waits 13 = .ok (.ifCond .lt 14, 3) := by decide +kernel
theorem dX9_waits_16 : decode cX9_waits 16 = .ok (.iload_n 1, 1) := by decide +kernel
theorem dX9_waits_17 : decode cX9_waits 17 = .ok (.aload_n 0, 1) := by decide +kernel
theorem dX9_waits_18 : decode cX9_waits 18 = .ok (.getfield 425, 3) := by decide +kernel
theorem dX9_waits_21 : decode cX9_waits 21 = .ok (.getfield 397, 3) := by decide +kernel
theorem dX9_waits_24 : decode cX9_waits 24 = .ok (.if_icmp .lt 9, 3) := by decide +kernel
theorem dX9_waits_27 : decode cX9_waits 27 = .ok (.aload_n 0, 1) := by decide +kernel
theorem dX9_waits_28 : decode cX9_waits 28 = .ok (.iconst 1, 1) := by decide +kernel
theorem dX9_waits_29 : decode cX9_waits 29 = .ok (.invokevirtual 58, 3) := by decide +kernel
theorem dX9_waits_32 : decode cX9_waits 32 = .ok (.ireturn, 1) := by decide +kernel
theorem dX9_waits_33 : decode cX9_waits 33 = .ok (.bipush 60, 2) := by decide +kernel
theorem dX9_waits_35 : decode cX9_waits 35 = .ok (.aload_n 0, 1) := by decide +kernel
theorem dX9_waits_36 : decode cX9_waits 36 = .ok (.getfield 425, 3) := by decide +kernel
theorem dX9_waits_39 : decode cX9_waits 39 = .ok (.getfield 402, 3) := by decide +kernel
theorem dX9_waits_42 : decode cX9_waits 42 = .ok (.iload_n 1, 1) := by decide +kernel
theorem dX9_waits_43 : decode cX9_waits 43 = .ok (.iaload, 1) := by decide +kernel
theorem dX9_waits_44 : decode cX9_waits 44 = .ok (.imul, 1) := by decide +kernel
theorem dX9_waits_45 : decode cX9_waits 45 = .ok (.istore_n 2, 1) := by decide +kernel
theorem dX9_waits_46 : decode cX9_waits 46 = .ok (.iconst 0, 1) := by decide +kernel
theorem dX9_waits_47 : decode cX9_waits 47 = .ok (.istore_n 3, 1) := by decide +kernel
theorem dX9_waits_48 : decode cX9_waits 48 = .ok (.aload_n 0, 1) := by decide +kernel
theorem dX9_waits_49 : decode cX9_waits 49 = .ok (.iload_n 1, 1) := by decide +kernel
theorem dX9_waits_50 : decode cX9_waits 50 = .ok (.iload_n 2, 1) := by decide +kernel
theorem dX9_waits_51 : decode cX9_waits 51 = .ok (.iload_n 3, 1) := by decide +kernel
theorem dX9_waits_52 : decode cX9_waits 52 = .ok (.iadd, 1) := by decide +kernel
theorem dX9_waits_53 : decode cX9_waits 53 = .ok (.invokevirtual 568, 3) := by decide +kernel
theorem dX9_waits_56 : decode cX9_waits 56 = .ok (.ifCond .ne 9, 3) := by decide +kernel
theorem dX9_waits_59 : decode cX9_waits 59 = .ok (.iinc 3 1, 3) := by decide +kernel
theorem dX9_waits_62 : decode cX9_waits 62 = .ok (.goto (-14), 3) := by decide +kernel
theorem dX9_waits_65 : decode cX9_waits 65 = .ok (.aload_n 0, 1) := by decide +kernel
theorem dX9_waits_66 : decode cX9_waits 66 = .ok (.iload_n 3, 1) := by decide +kernel
theorem dX9_waits_67 : decode cX9_waits 67 = .ok (.invokevirtual 62, 3) := by decide +kernel
theorem dX9_waits_70 : decode cX9_waits 70 = .ok (.ireturn, 1) := by decide +kernel
theorem dX9_on_0 : decode cX9_on 0 = .ok (.aload_n 0, 1) := by decide +kernel
theorem dX9_on_1 : decode cX9_on 1 = .ok (.iconst 0, 1) := by decide +kernel
theorem dX9_on_2 : decode cX9_on 2 = .ok (.putfield 52, 3) := by decide +kernel
theorem dX9_on_5 : decode cX9_on 5 = .ok (.aload_n 0, 1) := by decide +kernel
theorem dX9_on_6 : decode cX9_on 6 = .ok (.iload_n 1, 1) := by decide +kernel
theorem dX9_on_7 : decode cX9_on 7 = .ok (.invokevirtual 452, 3) := by decide +kernel
theorem dX9_on_10 : decode cX9_on 10 = .ok (.ifCond .ne 9, 3) := by decide +kernel
theorem dX9_on_13 : decode cX9_on 13 = .ok (.aload_n 0, 1) := by decide +kernel
theorem dX9_on_14 : decode cX9_on 14 = .ok (.iconst 1, 1) := by decide +kernel
theorem dX9_on_15 : decode cX9_on 15 = .ok (.invokevirtual 58, 3) := by decide +kernel
theorem dX9_on_18 : decode cX9_on 18 = .ok (.ireturn, 1) := by decide +kernel
theorem dX9_on_19 : decode cX9_on 19 = .ok (.iload_n 2, 1) := by decide +kernel
theorem dX9_on_20 : decode cX9_on 20 = .ok (.iconst 0, 1) := by decide +kernel
theorem dX9_on_21 : decode cX9_on 21 = .ok (.ldc_w 571, 3) := by decide +kernel
theorem dX9_on_24 : decode cX9_on 24 = .ok (.invokestatic 130, 3) := by decide +kernel
theorem dX9_on_27 : decode cX9_on 27 = .ok (.ifCond .ne 9, 3) := by decide +kernel
theorem dX9_on_30 : decode cX9_on 30 = .ok (.aload_n 0, 1) := by decide +kernel
theorem dX9_on_31 : decode cX9_on 31 = .ok (.iconst 2, 1) := by decide +kernel
theorem dX9_on_32 : decode cX9_on 32 = .ok (.invokevirtual 58, 3) := by decide +kernel
theorem dX9_on_35 : decode cX9_on 35 = .ok (.ireturn, 1) := by decide +kernel
theorem dX9_on_36 : decode cX9_on 36 = .ok (.aload_n 0, 1) := by decide +kernel
theorem dX9_on_37 : decode cX9_on 37 = .ok (.iload_n 1, 1) := by decide +kernel
theorem dX9_on_38 : decode cX9_on 38 = .ok (.iload_n 2, 1) := by decide +kernel
theorem dX9_on_39 : decode cX9_on 39 = .ok (.invokevirtual 562, 3) := by decide +kernel
theorem dX9_on_42 : decode cX9_on 42 = .ok (.istore_n 3, 1) := by decide +kernel
theorem dX9_on_43 : decode cX9_on 43 = .ok (.aload_n 0, 1) := by decide +kernel
theorem dX9_on_44 : decode cX9_on 44 = .ok (.iload_n 3, 1) := by decide +kernel
theorem dX9_on_45 : decode cX9_on 45 = .ok (.iconst (-1), 1) := by decide +kernel
theorem dX9_on_46 : decode cX9_on 46 = .ok (.if_icmp .ne 8, 3) := by decide +kernel
theorem dX9_on_49 : decode cX9_on 49 = .ok (.bipush (-2), 2) := by decide +kernel
theorem dX9_on_51 : decode cX9_on 51 = .ok (.goto 4, 3) := by decide +kernel
theorem dX9_on_54 : decode cX9_on 54 = .ok (.iload_n 3, 1) := by decide +kernel
theorem dX9_on_55 : decode cX9_on 55 = .ok (.invokevirtual 62, 3) := by decide +kernel
theorem dX9_on_58 : decode cX9_on 58 = .ok (.ireturn, 1) := by decide +kernel
theorem dX9_cleared_0 : decode cX9_cleared 0 = .ok (.aload_n 0, 1) := by decide +kernel
theorem dX9_cleared_1 : decode cX9_cleared 1 = .ok (.iload_n 1, 1) := by decide +kernel
theorem dX9_cleared_2 : decode cX9_cleared 2 = .ok (.invokevirtual 455, 3) := by decide +kernel
theorem dX9_cleared_5 : decode cX9_cleared 5 = .ok (.iconst 0, 1) := by decide +kernel
theorem dX9_cleared_6 : decode cX9_cleared 6 = .ok (.istore_n 2, 1) := by decide +kernel
theorem dX9_cleared_7 : decode cX9_cleared 7 = .ok (.iconst 1, 1) := by decide +kernel
theorem dX9_cleared_8 : decode cX9_cleared 8 = .ok (.istore_n 3, 1) := by decide +kernel
theorem dX9_cleared_9 : decode cX9_cleared 9 = .ok (.iload_n 3, 1) := by decide +kernel
theorem dX9_cleared_10 : decode cX9_cleared 10 = .ok (.aload_n 0, 1) := by decide +kernel
theorem dX9_cleared_11 : decode cX9_cleared 11 = .ok (.getfield 425, 3) := by decide +kernel
theorem dX9_cleared_14 : decode cX9_cleared 14 = .ok (.getfield 205, 3) := by decide +kernel
theorem dX9_cleared_17 : decode cX9_cleared 17 = .ok (.if_icmp .gt 73, 3) := by decide +kernel
theorem dX9_cleared_20 : decode cX9_cleared 20 = .ok (.iconst 0, 1) := by decide +kernel
theorem dX9_cleared_21 : decode cX9_cleared 21 = .ok (.istore 4, 2) := by decide +kernel
theorem dX9_cleared_23 : decode cX9_cleared 23 = .ok (.iload 4, 2) := by decide +kernel
theorem dX9_cleared_25 : decode cX9_cleared 25 = .ok (.aload_n 0, 1) := by decide +kernel
theorem dX9_cleared_26 : decode cX9_cleared 26 = .ok (.getfield 425, 3) := by decide +kernel
theorem dX9_cleared_29 : decode cX9_cleared 29 = .ok (.getfield 211, 3) := by decide +kernel
theorem dX9_cleared_32 : decode cX9_cleared 32 = .ok (.if_icmp .ge 52, 3) := by decide +kernel
theorem dX9_cleared_35 : decode cX9_cleared 35 = .ok (.aload_n 0, 1) := by decide +kernel
theorem dX9_cleared_36 : decode cX9_cleared 36 = .ok (.getfield 21, 3) := by decide +kernel
theorem dX9_cleared_39 : decode cX9_cleared 39 = .ok (.bipush 10, 2) := by decide +kernel
theorem dX9_cleared_41 : decode cX9_cleared 41 = .ok (.iload_n 3, 1) := by decide +kernel
theorem dX9_cleared_42 : decode cX9_cleared 42 = .ok (.imul, 1) := by decide +kernel
theorem dX9_cleared_43 : decode cX9_cleared 43 = .ok (.bipush 6, 2) := by decide +kernel
theorem dX9_cleared_45 : decode cX9_cleared 45 = .ok (.iadd, 1) := by decide +kernel
theorem dX9_cleared_46 : decode cX9_cleared 46 = .ok (.iload 4, 2) := by decide +kernel
theorem dX9_cleared_48 : decode cX9_cleared 48 = .ok (.iadd, 1) := by decide +kernel
theorem dX9_cleared_49 : decode cX9_cleared 49 = .ok (.iaload, 1) := by decide +kernel
theorem dX9_cleared_50 : decode cX9_cleared 50 = .ok (.istore 5, 2) := by decide +kernel
theorem dX9_cleared_52 : decode cX9_cleared 52 = .ok (.iload 5, 2) := by decide +kernel
theorem dX9_cleared_54 : decode cX9_cleared 54 = .ok (.ifCond .le 24, 3) := by decide +kernel
theorem dX9_cleared_57 : decode cX9_cleared 57 = .ok (.aload_n 0, 1) := by decide +kernel
theorem dX9_cleared_58 : decode cX9_cleared 58 = .ok (.iload_n 1, 1) := by decide +kernel
theorem dX9_cleared_59 : decode cX9_cleared 59 = .ok (.iload 4, 2) := by decide +kernel
theorem dX9_cleared_61 : decode cX9_cleared 61 = .ok (.invokevirtual 458, 3) := by decide +kernel
theorem dX9_cleared_64 : decode cX9_cleared 64 = .ok (.ifCond .ne 5, 3) := by decide +kernel
theorem dX9_cleared_67 : decode cX9_cleared 67 = .ok (.iload_n 2, 1) := by decide +kernel
theorem dX9_cleared_68 : decode cX9_cleared 68 = .ok (.ireturn, 1) := by decide +kernel
theorem dX9_cleared_69 : decode cX9_cleared 69 = .ok (.iinc 2 1, 3) := by decide +kernel
theorem dX9_cleared_72 : decode cX9_cleared 72 = .ok (.iinc 5 (-1), 3) := by decide +kernel
theorem dX9_cleared_75 : decode cX9_cleared 75 = .ok (.goto (-23), 3) := by decide +kernel
theorem dX9_cleared_78 : decode cX9_cleared 78 = .ok (.iinc 4 1, 3) := by decide +kernel
theorem dX9_cleared_81 : decode cX9_cleared 81 = .ok (.goto (-58), 3) := by decide +kernel
theorem dX9_cleared_84 : decode cX9_cleared 84 = .ok (.iinc 3 1, 3) := by decide +kernel
theorem dX9_cleared_87 : decode cX9_cleared 87 = .ok (.goto (-78), 3) := by decide +kernel
theorem dX9_cleared_90 : decode cX9_cleared 90 = .ok (.iload_n 2, 1) := by decide +kernel
theorem dX9_cleared_91 : decode cX9_cleared 91 = .ok (.ireturn, 1) := by decide +kernel
theorem dX9_clear_0 : decode cX9_clear 0 = .ok (.aload_n 0, 1) := by decide +kernel
theorem dX9_clear_1 : decode cX9_clear 1 = .ok (.iconst 0, 1) := by decide +kernel
theorem dX9_clear_2 : decode cX9_clear 2 = .ok (.putfield 52, 3) := by decide +kernel
theorem dX9_clear_5 : decode cX9_clear 5 = .ok (.aload_n 0, 1) := by decide +kernel
theorem dX9_clear_6 : decode cX9_clear 6 = .ok (.iload_n 1, 1) := by decide +kernel
theorem dX9_clear_7 : decode cX9_clear 7 = .ok (.invokevirtual 452, 3) := by decide +kernel
theorem dX9_clear_10 : decode cX9_clear 10 = .ok (.ifCond .eq 15, 3) := by decide +kernel
theorem dX9_clear_13 : decode cX9_clear 13 = .ok (.aload_n 0, 1) := by decide +kernel
theorem dX9_clear_14 : decode cX9_clear 14 = .ok (.aload_n 0, 1) := by decide +kernel
theorem dX9_clear_15 : decode cX9_clear 15 = .ok (.iload_n 1, 1) := by decide +kernel
theorem dX9_clear_16 : decode cX9_clear 16 = .ok (.invokevirtual 572, 3) := by decide +kernel
theorem dX9_clear_19 : decode cX9_clear 19 = .ok (.invokevirtual 62, 3) := by decide +kernel
theorem dX9_clear_22 : decode cX9_clear 22 = .ok (.goto 8, 3) := by decide +kernel
theorem dX9_clear_25 : decode cX9_clear 25 = .ok (.aload_n 0, 1) := by decide +kernel
theorem dX9_clear_26 : decode cX9_clear 26 = .ok (.iconst 1, 1) := by decide +kernel
theorem dX9_clear_27 : decode cX9_clear 27 = .ok (.invokevirtual 58, 3) := by decide +kernel
theorem dX9_clear_30 : decode cX9_clear 30 = .ok (.ireturn, 1) := by decide +kernel
theorem dX9_room_0 : decode cX9_room 0 = .ok (.aload_n 0, 1) := by decide +kernel
theorem dX9_room_1 : decode cX9_room 1 = .ok (.iconst 0, 1) := by decide +kernel
theorem dX9_room_2 : decode cX9_room 2 = .ok (.putfield 52, 3) := by decide +kernel
theorem dX9_room_5 : decode cX9_room 5 = .ok (.aload_n 0, 1) := by decide +kernel
theorem dX9_room_6 : decode cX9_room 6 = .ok (.iload_n 1, 1) := by decide +kernel
theorem dX9_room_7 : decode cX9_room 7 = .ok (.invokevirtual 452, 3) := by decide +kernel
theorem dX9_room_10 : decode cX9_room 10 = .ok (.ifCond .eq 20, 3) := by decide +kernel
theorem dX9_room_13 : decode cX9_room 13 = .ok (.iload_n 2, 1) := by decide +kernel
theorem dX9_room_14 : decode cX9_room 14 = .ok (.ifCond .lt 16, 3) := by decide +kernel
theorem dX9_room_17 : decode cX9_room 17 = .ok (.iload_n 2, 1) := by decide +kernel
theorem dX9_room_18 : decode cX9_room 18 = .ok (.aload_n 0, 1) := by decide +kernel
theorem dX9_room_19 : decode cX9_room 19 = .ok (.getfield 425, 3) := by decide +kernel
theorem dX9_room_22 : decode cX9_room 22 = .ok (.getfield 329, 3) := by decide +kernel
theorem dX9_room_25 : decode cX9_room 25 = .ok (.iload_n 1, 1) := by decide +kernel
theorem dX9_room_26 : decode cX9_room 26 = .ok (.iaload, 1) := by decide +kernel
theorem dX9_room_27 : decode cX9_room 27 = .ok (.if_icmp .lt 9, 3) := by decide +kernel
theorem dX9_room_30 : decode cX9_room 30 = .ok (.aload_n 0, 1) := by decide +kernel
theorem dX9_room_31 : decode cX9_room 31 = .ok (.iconst 1, 1) := by decide +kernel
theorem dX9_room_32 : decode cX9_room 32 = .ok (.invokevirtual 58, 3) := by decide +kernel
theorem dX9_room_35 : decode cX9_room 35 = .ok (.ireturn, 1) := by decide +kernel
theorem dX9_room_36 : decode cX9_room 36 = .ok (.aload_n 0, 1) := by decide +kernel
theorem dX9_room_37 : decode cX9_room 37 = .ok (.iload_n 1, 1) := by decide +kernel
theorem dX9_room_38 : decode cX9_room 38 = .ok (.invokevirtual 572, 3) := by decide +kernel
theorem dX9_room_41 : decode cX9_room 41 = .ok (.pop, 1) := by decide +kernel
theorem dX9_room_42 : decode cX9_room 42 = .ok (.aload_n 0, 1) := by decide +kernel
theorem dX9_room_43 : decode cX9_room 43 = .ok (.aload_n 0, 1) := by decide +kernel
theorem dX9_room_44 : decode cX9_room 44 = .ok (.getfield 17, 3) := by decide +kernel
theorem dX9_room_47 : decode cX9_room 47 = .ok (.iload_n 2, 1) := by decide +kernel
theorem dX9_room_48 : decode cX9_room 48 = .ok (.iaload, 1) := by decide +kernel
theorem dX9_room_49 : decode cX9_room 49 = .ok (.invokevirtual 62, 3) := by decide +kernel
theorem dX9_room_52 : decode cX9_room 52 = .ok (.ireturn, 1) := by decide +kernel
theorem dX9_packed_0 : decode cX9_packed 0 = .ok (.iload_n 1, 1) := by decide +kernel
theorem dX9_packed_1 : decode cX9_packed 1 = .ok (.aload_n 0, 1) := by decide +kernel
theorem dX9_packed_2 : decode cX9_packed 2 = .ok (.getfield 34, 3) := by decide +kernel
theorem dX9_packed_5 : decode cX9_packed 5 = .ok (.iconst 1, 1) := by decide +kernel
theorem dX9_packed_6 : decode cX9_packed 6 = .ok (.iaload, 1) := by decide +kernel
theorem dX9_packed_7 : decode cX9_packed 7 = .ok (.iconst 1, 1) := by decide +kernel
theorem dX9_packed_8 : decode cX9_packed 8 = .ok (.iadd, 1) := by decide +kernel
theorem dX9_packed_9 : decode cX9_packed 9 = .ok (.imul, 1) := by decide +kernel
theorem dX9_packed_10 : decode cX9_packed 10 = .ok (.iload_n 2, 1) := by decide +kernel
theorem dX9_packed_11 : decode cX9_packed 11 = .ok (.iadd, 1) := by decide +kernel
theorem dX9_packed_12 : decode cX9_packed 12 = .ok (.aload_n 0, 1) := by decide +kernel
theorem dX9_packed_13 : decode cX9_packed 13 = .ok (.getfield 34, 3) := by decide +kernel
theorem dX9_packed_16 : decode cX9_packed 16 = .ok (.iconst 2, 1) := by decide +kernel
theorem dX9_packed_17 : decode cX9_packed 17 = .ok (.iaload, 1) := by decide +kernel
theorem dX9_packed_18 : decode cX9_packed 18 = .ok (.iconst 1, 1) := by decide +kernel
theorem dX9_packed_19 : decode cX9_packed 19 = .ok (.iadd, 1) := by decide +kernel
theorem dX9_packed_20 : decode cX9_packed 20 = .ok (.imul, 1) := by decide +kernel
theorem dX9_packed_21 : decode cX9_packed 21 = .ok (.iload_n 3, 1) := by decide +kernel
theorem dX9_packed_22 : decode cX9_packed 22 = .ok (.iadd, 1) := by decide +kernel
theorem dX9_packed_23 : decode cX9_packed 23 = .ok (.aload_n 0, 1) := by decide +kernel
theorem dX9_packed_24 : decode cX9_packed 24 = .ok (.getfield 34, 3) := by decide +kernel
theorem dX9_packed_27 : decode cX9_packed 27 = .ok (.iconst 3, 1) := by decide +kernel
theorem dX9_packed_28 : decode cX9_packed 28 = .ok (.iaload, 1) := by decide +kernel
theorem dX9_packed_29 : decode cX9_packed 29 = .ok (.iconst 1, 1) := by decide +kernel
theorem dX9_packed_30 : decode cX9_packed 30 = .ok (.iadd, 1) := by decide +kernel
theorem dX9_packed_31 : decode cX9_packed 31 = .ok (.imul, 1) := by decide +kernel
theorem dX9_packed_32 : decode cX9_packed 32 = .ok (.iload 4, 2) := by decide +kernel
theorem dX9_packed_34 : decode cX9_packed 34 = .ok (.iadd, 1) := by decide +kernel
theorem dX9_packed_35 : decode cX9_packed 35 = .ok (.ireturn, 1) := by decide +kernel
theorem dX9_shapeOf_0 : decode cX9_shapeOf 0 = .ok (.iload_n 1, 1) := by decide +kernel
theorem dX9_shapeOf_1 : decode cX9_shapeOf 1 = .ok (.aload_n 0, 1) := by decide +kernel
theorem dX9_shapeOf_2 : decode cX9_shapeOf 2 = .ok (.getfield 425, 3) := by decide +kernel
theorem dX9_shapeOf_5 : decode cX9_shapeOf 5 = .ok (.getfield 211, 3) := by decide +kernel
theorem dX9_shapeOf_8 : decode cX9_shapeOf 8 = .ok (.if_icmp .ge 15, 3) := by decide +kernel
theorem dX9_shapeOf_11 : decode cX9_shapeOf 11 = .ok (.aload_n 0, 1) := by decide +kernel
theorem dX9_shapeOf_12 : decode cX9_shapeOf 12 = .ok (.getfield 425, 3) := by decide +kernel
theorem dX9_shapeOf_15 : decode cX9_shapeOf 15 = .ok (.getfield 285, 3) := by decide +kernel
theorem dX9_shapeOf_18 : decode cX9_shapeOf 18 = .ok (.iload_n 1, 1) := by decide +kernel
theorem dX9_shapeOf_19 : decode cX9_shapeOf 19 = .ok (.iaload, 1) := by decide +kernel
theorem dX9_shapeOf_20 : decode cX9_shapeOf 20 = .ok (.goto 4, 3) := by decide +kernel
theorem dX9_shapeOf_23 : decode cX9_shapeOf 23 = .ok (.iconst 0, 1) := by decide +kernel
theorem dX9_shapeOf_24 : decode cX9_shapeOf 24 = .ok (.ireturn, 1) := by decide +kernel
theorem dX9_lastDrawer_0 : decode cX9_lastDrawer 0 = .ok (.iconst (-1), 1) := by decide +kernel
theorem dX9_lastDrawer_1 : decode cX9_lastDrawer 1 = .ok (.istore 6, 2) := by decide +kernel
theorem dX9_lastDrawer_3 : decode cX9_lastDrawer 3 = .ok (.iconst 0, 1) := by decide +kernel
theorem dX9_lastDrawer_4 : decode cX9_lastDrawer 4 = .ok (.istore 7, 2) := by decide +kernel
theorem dX9_lastDrawer_6 : decode cX9_lastDrawer 6 = .ok (.iload 7, 2) := by decide +kernel
theorem dX9_lastDrawer_8 : decode cX9_lastDrawer 8 = .ok (.iload_n 2, 1) := by decide +kernel
theorem dX9_lastDrawer_9 : decode cX9_lastDrawer 9 = .ok (.if_icmp .gt 240, 3) := by decide +kernel
theorem dX9_lastDrawer_12 : decode cX9_lastDrawer 12 = .ok (.iload 7, 2) := by decide +kernel
theorem dX9_lastDrawer_14 : decode cX9_lastDrawer 14 = .ok (.aload_n 0, 1) := by decide +kernel
theorem dX9_lastDrawer_15 : decode cX9_lastDrawer 15 = .ok (.iconst 0, 1) := by decide +kernel
theorem dX9_lastDrawer_16 : decode cX9_lastDrawer 16 = .ok (.invokevirtual 575, 3) := by decide +kernel
theorem dX9_lastDrawer_19 : decode cX9_lastDrawer 19 = .ok (.imul, 1) := by decide +kernel
theorem dX9_lastDrawer_20 : decode cX9_lastDrawer 20 = .ok (.iload_n 1, 1) := by decide +kernel
theorem dX9_lastDrawer_21 : decode cX9_lastDrawer 21 = .ok (.if_icmp .gt 228, 3) := by decide +kernel
theorem dX9_lastDrawer_24 : decode cX9_lastDrawer 24 = .ok (.iconst 0, 1) := by decide +kernel
theorem dX9_lastDrawer_25 : decode cX9_lastDrawer 25 = .ok (.istore 8, 2) := by decide +kernel
theorem dX9_lastDrawer_27 : decode cX9_lastDrawer 27 = .ok (.iload 8, 2) := by decide +kernel
theorem dX9_lastDrawer_29 : decode cX9_lastDrawer 29 = .ok (.iload_n 3, 1) := by decide +kernel
theorem dX9_lastDrawer_30 : decode cX9_lastDrawer 30 = .ok (.if_icmp .gt 213, 3) := by decide +kernel
theorem dX9_lastDrawer_33 : decode cX9_lastDrawer 33 = .ok (.iload 7, 2) := by decide +kernel
theorem dX9_lastDrawer_35 : decode cX9_lastDrawer 35 = .ok (.aload_n 0, 1) := by decide +kernel
theorem dX9_lastDrawer_36 : decode cX9_lastDrawer 36 = .ok (.iconst 0, 1) := by decide +kernel
theorem dX9_lastDrawer_37 : decode cX9_lastDrawer 37 = .ok (.invokevirtual 575, 3) := by decide +kernel
theorem dX9_lastDrawer_40 : decode cX9_lastDrawer 40 = .ok (.imul, 1) := by decide +kernel
theorem dX9_lastDrawer_41 : decode cX9_lastDrawer 41 = .ok (.iload 8, 2) := by decide +kernel
theorem dX9_lastDrawer_43 : decode cX9_lastDrawer 43 = .ok (.aload_n 0, 1) := by decide +kernel
theorem dX9_lastDrawer_44 : decode cX9_lastDrawer 44 = .ok (.iconst 1, 1) := by decide +kernel
theorem dX9_lastDrawer_45 : decode cX9_lastDrawer 45 = .ok (.invokevirtual 575, 3) := by decide +kernel
theorem dX9_lastDrawer_48 : decode cX9_lastDrawer 48 = .ok (.imul, 1) := by decide +kernel
theorem dX9_lastDrawer_49 : decode cX9_lastDrawer 49 = .ok (.iadd, 1) := by decide +kernel
theorem dX9_lastDrawer_50 : decode cX9_lastDrawer 50 = .ok (.iload_n 1, 1) := by decide +kernel
theorem dX9_lastDrawer_51 : decode cX9_lastDrawer 51 = .ok (.if_icmp .gt 192, 3) := by decide +kernel
theorem dX9_lastDrawer_54 : decode cX9_lastDrawer 54 = .ok (.iconst 0, 1) := by decide +kernel
theorem dX9_lastDrawer_55 : decode cX9_lastDrawer 55 = .ok (.istore 9, 2) := by decide +kernel
theorem dX9_lastDrawer_57 : decode cX9_lastDrawer 57 = .ok (.iload 9, 2) := by decide +kernel
theorem dX9_lastDrawer_59 : decode cX9_lastDrawer 59 = .ok (.iload 4, 2) := by decide +kernel
theorem dX9_lastDrawer_61 : decode cX9_lastDrawer 61 = .ok (.if_icmp .gt 176, 3) := by decide +kernel
theorem dX9_lastDrawer_64 : decode cX9_lastDrawer 64 = .ok (.iload 7, 2) := by decide +kernel
theorem dX9_lastDrawer_66 : decode cX9_lastDrawer 66 = .ok (.aload_n 0, 1) := by decide +kernel
theorem dX9_lastDrawer_67 : decode cX9_lastDrawer 67 = .ok (.iconst 0, 1) := by decide +kernel
theorem dX9_lastDrawer_68 : decode cX9_lastDrawer 68 = .ok (.invokevirtual 575, 3) := by decide +kernel
theorem dX9_lastDrawer_71 : decode cX9_lastDrawer 71 = .ok (.imul, 1) := by decide +kernel
theorem dX9_lastDrawer_72 : decode cX9_lastDrawer 72 = .ok (.iload 8, 2) := by decide +kernel
theorem dX9_lastDrawer_74 : decode cX9_lastDrawer 74 = .ok (.aload_n 0, 1) := by decide +kernel
theorem dX9_lastDrawer_75 : decode cX9_lastDrawer 75 = .ok (.iconst 1, 1) := by decide +kernel
theorem dX9_lastDrawer_76 : decode cX9_lastDrawer 76 = .ok (.invokevirtual 575, 3) := by decide +kernel
theorem dX9_lastDrawer_79 : decode cX9_lastDrawer 79 = .ok (.imul, 1) := by decide +kernel
theorem dX9_lastDrawer_80 : decode cX9_lastDrawer 80 = .ok (.iadd, 1) := by decide +kernel
theorem dX9_lastDrawer_81 : decode cX9_lastDrawer 81 = .ok (.iload 9, 2) := by decide +kernel
theorem dX9_lastDrawer_83 : decode cX9_lastDrawer 83 = .ok (.aload_n 0, 1) := by decide +kernel
theorem dX9_lastDrawer_84 : decode cX9_lastDrawer 84 = .ok (.iconst 2, 1) := by decide +kernel
theorem dX9_lastDrawer_85 : decode cX9_lastDrawer 85 = .ok (.invokevirtual 575, 3) := by decide +kernel
theorem dX9_lastDrawer_88 : decode cX9_lastDrawer 88 = .ok (.imul, 1) := by decide +kernel
theorem dX9_lastDrawer_89 : decode cX9_lastDrawer 89 = .ok (.iadd, 1) := by decide +kernel
theorem dX9_lastDrawer_90 : decode cX9_lastDrawer 90 = .ok (.iload_n 1, 1) := by decide +kernel
theorem dX9_lastDrawer_91 : decode cX9_lastDrawer 91 = .ok (.if_icmp .gt 146, 3) := by decide +kernel
theorem dX9_lastDrawer_94 : decode cX9_lastDrawer 94 = .ok (.iload_n 1, 1) := by decide +kernel
theorem dX9_lastDrawer_95 : decode cX9_lastDrawer 95 = .ok (.iload 7, 2) := by decide +kernel
theorem dX9_lastDrawer_97 : decode cX9_lastDrawer 97 = .ok (.aload_n 0, 1) := by decide +kernel
theorem dX9_lastDrawer_98 : decode cX9_lastDrawer 98 = .ok (.iconst 0, 1) := by decide +kernel
theorem dX9_lastDrawer_99 : decode cX9_lastDrawer 99 = .ok (.invokevirtual 575, 3) := by decide +kernel
theorem dX9_lastDrawer_102 : decode cX9_lastDrawer 102 = .ok (.imul, 1) := by decide +kernel
theorem dX9_lastDrawer_103 : decode cX9_lastDrawer 103 = .ok (.isub, 1) := by decide +kernel
theorem dX9_lastDrawer_104 : decode cX9_lastDrawer 104 = .ok (.iload 8, 2) := by decide +kernel
theorem dX9_lastDrawer_106 : decode cX9_lastDrawer 106 = .ok (.aload_n 0, 1) := by decide +kernel
theorem dX9_lastDrawer_107 : decode cX9_lastDrawer 107 = .ok (.iconst 1, 1) := by decide +kernel
theorem dX9_lastDrawer_108 : decode cX9_lastDrawer 108 = .ok (.invokevirtual 575, 3) := by decide +kernel
theorem dX9_lastDrawer_111 : decode cX9_lastDrawer 111 = .ok (.imul, 1) := by decide +kernel
theorem dX9_lastDrawer_112 : decode cX9_lastDrawer 112 = .ok (.isub, 1) := by decide +kernel
theorem dX9_lastDrawer_113 : decode cX9_lastDrawer 113 = .ok (.iload 9, 2) := by decide +kernel
theorem dX9_lastDrawer_115 : decode cX9_lastDrawer 115 = .ok (.aload_n 0, 1) := by decide +kernel
theorem dX9_lastDrawer_116 : decode cX9_lastDrawer 116 = .ok (.iconst 2, 1) := by decide +kernel
theorem dX9_lastDrawer_117 : decode cX9_lastDrawer 117 = .ok (.invokevirtual 575, 3) := by decide +kernel
theorem dX9_lastDrawer_120 : decode cX9_lastDrawer 120 = .ok (.imul, 1) := by decide +kernel
theorem dX9_lastDrawer_121 : decode cX9_lastDrawer 121 = .ok (.isub, 1) := by decide +kernel
theorem dX9_lastDrawer_122 : decode cX9_lastDrawer 122 = .ok (.istore 10, 2) := by decide +kernel
theorem dX9_lastDrawer_124 : decode cX9_lastDrawer 124 = .ok (.iload 5, 2) := by decide +kernel
theorem dX9_lastDrawer_126 : decode cX9_lastDrawer 126 = .ok (.ifCond .ne 7, 3) := by decide +kernel
theorem dX9_lastDrawer_129 : decode cX9_lastDrawer 129 = .ok (.iconst 0, 1) := by decide +kernel
theorem dX9_lastDrawer_130 : decode cX9_lastDrawer 130 = .ok (.goto 29, 3) := by decide +kernel
theorem dX9_lastDrawer_133 : decode cX9_lastDrawer 133 = .ok (.iload 10, 2) := by decide +kernel
theorem dX9_lastDrawer_135 : decode cX9_lastDrawer 135 = .ok (.aload_n 0, 1) := by decide +kernel
theorem dX9_lastDrawer_136 : decode cX9_lastDrawer 136 = .ok (.iconst 3, 1) := by decide +kernel
theorem dX9_lastDrawer_137 : decode cX9_lastDrawer 137 = .ok (.invokevirtual 575, 3) := by decide +kernel
theorem dX9_lastDrawer_140 : decode cX9_lastDrawer 140 = .ok (.idiv, 1) := by decide +kernel
theorem dX9_lastDrawer_141 : decode cX9_lastDrawer 141 = .ok (.iload 5, 2) := by decide +kernel
theorem dX9_lastDrawer_143 : decode cX9_lastDrawer 143 = .ok (.if_icmp .ge 14, 3) := by decide +kernel
theorem dX9_lastDrawer_146 : decode cX9_lastDrawer 146 = .ok (.iload 10, 2) := by decide +kernel
theorem dX9_lastDrawer_148 : decode cX9_lastDrawer 148 = .ok (.aload_n 0, 1) := by decide +kernel
theorem dX9_lastDrawer_149 : decode cX9_lastDrawer 149 = .ok (.iconst 3, 1) := by decide +kernel
theorem dX9_lastDrawer_150 : decode cX9_lastDrawer 150 = .ok (.invokevirtual 575, 3) := by decide +kernel
theorem dX9_lastDrawer_153 : decode cX9_lastDrawer 153 = .ok (.idiv, 1) := by decide +kernel
theorem dX9_lastDrawer_154 : decode cX9_lastDrawer 154 = .ok (.goto 5, 3) := by decide +kernel
theorem dX9_lastDrawer_157 : decode cX9_lastDrawer 157 = .ok (.iload 5, 2) := by decide +kernel
theorem dX9_lastDrawer_159 : decode cX9_lastDrawer 159 = .ok (.istore 11, 2) := by decide +kernel
theorem dX9_lastDrawer_161 : decode cX9_lastDrawer 161 = .ok (.iload 7, 2) := by decide +kernel
theorem dX9_lastDrawer_163 : decode cX9_lastDrawer 163 = .ok (.iload 8, 2) := by decide +kernel
theorem dX9_lastDrawer_165 : decode cX9_lastDrawer 165 = .ok (.iadd, 1) := by decide +kernel
theorem dX9_lastDrawer_166 : decode cX9_lastDrawer 166 = .ok (.iload 9, 2) := by decide +kernel
theorem dX9_lastDrawer_168 : decode cX9_lastDrawer 168 = .ok (.iadd, 1) := by decide +kernel
theorem dX9_lastDrawer_169 : decode cX9_lastDrawer 169 = .ok (.iload 11, 2) := by decide +kernel
theorem dX9_lastDrawer_171 : decode cX9_lastDrawer 171 = .ok (.iadd, 1) := by decide +kernel
theorem dX9_lastDrawer_172 : decode cX9_lastDrawer 172 = .ok (.ifCond .ne 6, 3) := by decide +kernel
theorem dX9_lastDrawer_175 : decode cX9_lastDrawer 175 = .ok (.goto 56, 3) := by decide +kernel
theorem dX9_lastDrawer_178 : decode cX9_lastDrawer 178 = .ok (.iconst 1, 1) := by decide +kernel
theorem dX9_lastDrawer_179 : decode cX9_lastDrawer 179 = .ok (.aload_n 0, 1) := by decide +kernel
theorem dX9_lastDrawer_180 : decode cX9_lastDrawer 180 = .ok (.getfield 31, 3) := by decide +kernel
theorem dX9_lastDrawer_183 : decode cX9_lastDrawer 183 = .ok (.aload_n 0, 1) := by decide +kernel
theorem dX9_lastDrawer_184 : decode cX9_lastDrawer 184 = .ok (.iload_n 2, 1) := by decide +kernel
theorem dX9_lastDrawer_185 : decode cX9_lastDrawer 185 = .ok (.iload 7, 2) := by decide +kernel
theorem dX9_lastDrawer_187 : decode cX9_lastDrawer 187 = .ok (.isub, 1) := by decide +kernel
theorem dX9_lastDrawer_188 : decode cX9_lastDrawer 188 = .ok (.iload_n 3, 1) := by decide +kernel
theorem dX9_lastDrawer_189 : decode cX9_lastDrawer 189 = .ok (.iload 8, 2) := by decide +kernel
theorem dX9_lastDrawer_191 : decode cX9_lastDrawer 191 = .ok (.isub, 1) := by decide +kernel
theorem dX9_lastDrawer_192 : decode cX9_lastDrawer 192 = .ok (.iload 4, 2) := by decide +kernel
theorem dX9_lastDrawer_194 : decode cX9_lastDrawer 194 = .ok (.iload 9, 2) := by decide +kernel
theorem dX9_lastDrawer_196 : decode cX9_lastDrawer 196 = .ok (.isub, 1) := by decide +kernel
theorem dX9_lastDrawer_197 : decode cX9_lastDrawer 197 = .ok (.iload 5, 2) := by decide +kernel
theorem dX9_lastDrawer_199 : decode cX9_lastDrawer 199 = .ok (.iload 11, 2) := by decide +kernel
theorem dX9_lastDrawer_201 : decode cX9_lastDrawer 201 = .ok (.isub, 1) := by decide +kernel
theorem dX9_lastDrawer_202 : decode cX9_lastDrawer 202 = .ok (.invokevirtual 578, 3) := by decide +kernel
theorem dX9_lastDrawer_205 : decode cX9_lastDrawer 205 = .ok (.iaload, 1) := by decide +kernel
theorem dX9_lastDrawer_206 : decode cX9_lastDrawer 206 = .ok (.iadd, 1) := by decide +kernel
theorem dX9_lastDrawer_207 : decode cX9_lastDrawer 207 = .ok (.istore 12, 2) := by decide +kernel
theorem dX9_lastDrawer_209 : decode cX9_lastDrawer 209 = .ok (.iload 6, 2) := by decide +kernel
theorem dX9_lastDrawer_211 : decode cX9_lastDrawer 211 = .ok (.iconst (-1), 1) := by decide +kernel
theorem dX9_lastDrawer_212 : decode cX9_lastDrawer 212 = .ok (.if_icmp .eq 10, 3) := by decide +kernel
theorem dX9_lastDrawer_215 : decode cX9_lastDrawer 215 = .ok (.iload 12, 2) := by decide +kernel
theorem dX9_lastDrawer_217 : decode cX9_lastDrawer 217 = .ok (.iload 6, 2) := by decide +kernel
theorem dX9_lastDrawer_219 : decode cX9_lastDrawer 219 = .ok (.if_icmp .ge 8, 3) := by decide +kernel
theorem dX9_lastDrawer_222 : decode cX9_lastDrawer 222 = .ok (.iload 12, 2) := by decide +kernel
theorem dX9_lastDrawer_224 : decode cX9_lastDrawer 224 = .ok (.goto 5, 3) := by decide +kernel
theorem dX9_lastDrawer_227 : decode cX9_lastDrawer 227 = .ok (.iload 6, 2) := by decide +kernel
theorem dX9_lastDrawer_229 : decode cX9_lastDrawer 229 = .ok (.istore 6, 2) := by decide +kernel
theorem dX9_lastDrawer_231 : decode cX9_lastDrawer 231 = .ok (.iinc 9 1, 3) := by decide +kernel
theorem dX9_lastDrawer_234 : decode cX9_lastDrawer 234 = .ok (.goto (-177), 3) := by decide +kernel
theorem dX9_lastDrawer_237 : decode cX9_lastDrawer 237 = .ok (.iinc 8 1, 3) := by decide +kernel
theorem dX9_lastDrawer_240 : decode cX9_lastDrawer 240 = .ok (.goto (-213), 3) := by decide +kernel
theorem dX9_lastDrawer_243 : decode cX9_lastDrawer 243 = .ok (.iinc 7 1, 3) := by decide +kernel
theorem dX9_lastDrawer_246 : decode cX9_lastDrawer 246 = .ok (.goto (-240), 3) := by decide +kernel
theorem dX9_lastDrawer_249 : decode cX9_lastDrawer 249 = .ok (.iload 6, 2) := by decide +kernel
theorem dX9_lastDrawer_251 : decode cX9_lastDrawer 251 = .ok (.ireturn, 1) := by decide +kernel
theorem dX9_fewest_0 : decode cX9_fewest 0 = .ok (.aload_n 0, 1) := by decide +kernel
theorem dX9_fewest_1 : decode cX9_fewest 1 = .ok (.iconst 0, 1) := by decide +kernel
theorem dX9_fewest_2 : decode cX9_fewest 2 = .ok (.putfield 52, 3) := by decide +kernel
theorem dX9_fewest_5 : decode cX9_fewest 5 = .ok (.aload_n 0, 1) := by decide +kernel
theorem dX9_fewest_6 : decode cX9_fewest 6 = .ok (.iload_n 1, 1) := by decide +kernel
theorem dX9_fewest_7 : decode cX9_fewest 7 = .ok (.invokevirtual 452, 3) := by decide +kernel
theorem dX9_fewest_10 : decode cX9_fewest 10 = .ok (.ifCond .ne 9, 3) := by decide +kernel
theorem dX9_fewest_13 : decode cX9_fewest 13 = .ok (.aload_n 0, 1) := by decide +kernel
theorem dX9_fewest_14 : decode cX9_fewest 14 = .ok (.iconst 1, 1) := by decide +kernel
theorem dX9_fewest_15 : decode cX9_fewest 15 = .ok (.invokevirtual 58, 3) := by decide +kernel
theorem dX9_fewest_18 : decode cX9_fewest 18 = .ok (.ireturn, 1) := by decide +kernel
theorem dX9_fewest_19 : decode cX9_fewest 19 = .ok (.aload_n 0, 1) := by decide +kernel
theorem dX9_fewest_20 : decode cX9_fewest 20 = .ok (.getfield 34, 3) := by decide +kernel
theorem dX9_fewest_23 : decode cX9_fewest 23 = .ok (.iconst 0, 1) := by decide +kernel
theorem dX9_fewest_24 : decode cX9_fewest 24 = .ok (.iload_n 2, 1) := by decide +kernel
theorem dX9_fewest_25 : decode cX9_fewest 25 = .ok (.iastore, 1) := by decide +kernel
theorem dX9_fewest_26 : decode cX9_fewest 26 = .ok (.aload_n 0, 1) := by decide +kernel
theorem dX9_fewest_27 : decode cX9_fewest 27 = .ok (.getfield 34, 3) := by decide +kernel
theorem dX9_fewest_30 : decode cX9_fewest 30 = .ok (.iconst 1, 1) := by decide +kernel
theorem dX9_fewest_31 : decode cX9_fewest 31 = .ok (.iload_n 3, 1) := by decide +kernel
theorem dX9_fewest_32 : decode cX9_fewest 32 = .ok (.iastore, 1) := by decide +kernel
theorem dX9_fewest_33 : decode cX9_fewest 33 = .ok (.aload_n 0, 1) := by decide +kernel
theorem dX9_fewest_34 : decode cX9_fewest 34 = .ok (.getfield 34, 3) := by decide +kernel
theorem dX9_fewest_37 : decode cX9_fewest 37 = .ok (.iconst 2, 1) := by decide +kernel
theorem dX9_fewest_38 : decode cX9_fewest 38 = .ok (.iload 4, 2) := by decide +kernel
theorem dX9_fewest_40 : decode cX9_fewest 40 = .ok (.iastore, 1) := by decide +kernel
theorem dX9_fewest_41 : decode cX9_fewest 41 = .ok (.aload_n 0, 1) := by decide +kernel
theorem dX9_fewest_42 : decode cX9_fewest 42 = .ok (.getfield 34, 3) := by decide +kernel
theorem dX9_fewest_45 : decode cX9_fewest 45 = .ok (.iconst 3, 1) := by decide +kernel
theorem dX9_fewest_46 : decode cX9_fewest 46 = .ok (.iload 5, 2) := by decide +kernel
theorem dX9_fewest_48 : decode cX9_fewest 48 = .ok (.iastore, 1) := by decide +kernel
theorem dX9_fewest_49 : decode cX9_fewest 49 = .ok (.lconst 0, 1) := by decide +kernel
theorem dX9_fewest_50 : decode cX9_fewest 50 = .ok (.lstore 6, 2) := by decide +kernel
theorem dX9_fewest_52 : decode cX9_fewest 52 = .ok (.iconst 0, 1) := by decide +kernel
theorem dX9_fewest_53 : decode cX9_fewest 53 = .ok (.istore 8, 2) := by decide +kernel
theorem dX9_fewest_55 : decode cX9_fewest 55 = .ok (.iload 8, 2) := by decide +kernel
theorem dX9_fewest_57 : decode cX9_fewest 57 = .ok (.iconst 4, 1) := by decide +kernel
theorem dX9_fewest_58 : decode cX9_fewest 58 = .ok (.if_icmp .ge 60, 3) := by decide +kernel
theorem dX9_fewest_61 : decode cX9_fewest 61 = .ok (.aload_n 0, 1) := by decide +kernel
theorem dX9_fewest_62 : decode cX9_fewest 62 = .ok (.getfield 34, 3) := by decide +kernel
theorem dX9_fewest_65 : decode cX9_fewest 65 = .ok (.iload 8, 2) := by decide +kernel
theorem dX9_fewest_67 : decode cX9_fewest 67 = .ok (.iaload, 1) := by decide +kernel
theorem dX9_fewest_68 : decode cX9_fewest 68 = .ok (.ifCond .lt 25, 3) := by decide +kernel
theorem dX9_fewest_71 : decode cX9_fewest 71 = .ok (.iload 8, 2) := by decide +kernel
theorem dX9_fewest_73 : decode cX9_fewest 73 = .ok (.aload_n 0, 1) := by decide +kernel
theorem dX9_fewest_74 : decode cX9_fewest 74 = .ok (.getfield 425, 3) := by decide +kernel
theorem dX9_fewest_77 : decode cX9_fewest 77 = .ok (.getfield 211, 3) := by decide +kernel
theorem dX9_fewest_80 : decode cX9_fewest 80 = .ok (.if_icmp .lt 19, 3) := by decide +kernel
theorem dX9_fewest_83 : decode cX9_fewest 83 = .ok (.aload_n 0, 1) := by decide +kernel
theorem dX9_fewest_84 : decode cX9_fewest 84 = .ok (.getfield 34, 3) := by decide +kernel
theorem dX9_fewest_87 : decode cX9_fewest 87 = .ok (.iload 8, 2) := by decide +kernel
theorem dX9_fewest_89 : decode cX9_fewest 89 = .ok (.iaload, 1) := by decide +kernel
theorem dX9_fewest_90 : decode cX9_fewest 90 = .ok (.ifCond .le 9, 3) := by decide +kernel
theorem dX9_fewest_93 : decode cX9_fewest 93 = .ok (.aload_n 0, 1) := by decide +kernel
theorem dX9_fewest_94 : decode cX9_fewest 94 = .ok (.iconst 2, 1) := by decide +kernel
theorem dX9_fewest_95 : decode cX9_fewest 95 = .ok (.invokevirtual 58, 3) := by decide +kernel
theorem dX9_fewest_98 : decode cX9_fewest 98 = .ok (.ireturn, 1) := by decide +kernel
theorem dX9_fewest_99 : decode cX9_fewest 99 = .ok (.lload 6, 2) := by decide +kernel
theorem dX9_fewest_101 : decode cX9_fewest 101 = .ok (.aload_n 0, 1) := by decide +kernel
theorem dX9_fewest_102 : decode cX9_fewest 102 = .ok (.getfield 34, 3) := by decide +kernel
theorem dX9_fewest_105 : decode cX9_fewest 105 = .ok (.iload 8, 2) := by decide +kernel
theorem dX9_fewest_107 : decode cX9_fewest 107 = .ok (.iaload, 1) := by decide +kernel
