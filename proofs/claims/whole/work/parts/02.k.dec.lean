theorem dX9_init_0 : decode cX9_init 0 = .ok (.aload_n 0, 1) := by decide +kernel
theorem dX9_init_1 : decode cX9_init 1 = .ok (.invokespecial 3, 3) := by decide +kernel
theorem dX9_init_4 : decode cX9_init 4 = .ok (.aload_n 0, 1) := by decide +kernel
theorem dX9_init_5 : decode cX9_init 5 = .ok (.iconst (-1), 1) := by decide +kernel
theorem dX9_init_6 : decode cX9_init 6 = .ok (.putfield 9, 3) := by decide +kernel
theorem dX9_init_9 : decode cX9_init 9 = .ok (.aload_n 0, 1) := by decide +kernel
theorem dX9_init_10 : decode cX9_init 10 = .ok (.sipush 900, 3) := by decide +kernel
theorem dX9_init_13 : decode cX9_init 13 = .ok (.newarray .byte, 2) := by decide +kernel
theorem dX9_init_15 : decode cX9_init 15 = .ok (.putfield 13, 3) := by decide +kernel
theorem dX9_init_18 : decode cX9_init 18 = .ok (.aload_n 0, 1) := by decide +kernel
theorem dX9_init_19 : decode cX9_init 19 = .ok (.bipush 14, 2) := by decide +kernel
theorem dX9_init_21 : decode cX9_init 21 = .ok (.newarray .int, 2) := by decide +kernel
theorem dX9_init_23 : decode cX9_init 23 = .ok (.putfield 17, 3) := by decide +kernel
theorem dX9_init_26 : decode cX9_init 26 = .ok (.aload_n 0, 1) := by decide +kernel
theorem dX9_init_27 : decode cX9_init 27 = .ok (.sipush 431, 3) := by decide +kernel
theorem dX9_init_30 : decode cX9_init 30 = .ok (.newarray .int, 2) := by decide +kernel
theorem dX9_init_32 : decode cX9_init 32 = .ok (.putfield 21, 3) := by decide +kernel
theorem dX9_init_35 : decode cX9_init 35 = .ok (.aload_n 0, 1) := by decide +kernel
theorem dX9_init_36 : decode cX9_init 36 = .ok (.sipush 1724, 3) := by decide +kernel
theorem dX9_init_39 : decode cX9_init 39 = .ok (.newarray .int, 2) := by decide +kernel
theorem dX9_init_41 : decode cX9_init 41 = .ok (.putfield 24, 3) := by decide +kernel
theorem dX9_init_44 : decode cX9_init 44 = .ok (.aload_n 0, 1) := by decide +kernel
theorem dX9_init_45 : decode cX9_init 45 = .ok (.bipush 11, 2) := by decide +kernel
theorem dX9_init_47 : decode cX9_init 47 = .ok (.newarray .long, 2) := by decide +kernel
theorem dX9_init_49 : decode cX9_init 49 = .ok (.putfield 27, 3) := by decide +kernel
theorem dX9_init_52 : decode cX9_init 52 = .ok (.aload_n 0, 1) := by decide +kernel
theorem dX9_init_53 : decode cX9_init 53 = .ok (.sipush 2401, 3) := by decide +kernel
theorem dX9_init_56 : decode cX9_init 56 = .ok (.newarray .int, 2) := by decide +kernel
theorem dX9_init_58 : decode cX9_init 58 = .ok (.putfield 31, 3) := by decide +kernel
theorem dX9_init_61 : decode cX9_init 61 = .ok (.aload_n 0, 1) := by decide +kernel
theorem dX9_init_62 : decode cX9_init 62 = .ok (.iconst 4, 1) := by decide +kernel
theorem dX9_init_63 : decode cX9_init 63 = .ok (.newarray .int, 2) := by decide +kernel
theorem dX9_init_65 : decode cX9_init 65 = .ok (.putfield 34, 3) := by decide +kernel
theorem dX9_init_68 : decode cX9_init 68 = .ok (.aload_n 0, 1) := by decide +kernel
theorem dX9_init_69 : decode cX9_init 69 = .ok (.bipush 6, 2) := by decide +kernel
theorem dX9_init_71 : decode cX9_init 71 = .ok (.newarray .int, 2) := by decide +kernel
theorem dX9_init_73 : decode cX9_init 73 = .ok (.putfield 37, 3) := by decide +kernel
theorem dX9_init_76 : decode cX9_init 76 = .ok (.aload_n 0, 1) := by decide +kernel
theorem dX9_init_77 : decode cX9_init 77 = .ok (.bipush 6, 2) := by decide +kernel
theorem dX9_init_79 : decode cX9_init 79 = .ok (.newarray .int, 2) := by decide +kernel
theorem dX9_init_81 : decode cX9_init 81 = .ok (.putfield 40, 3) := by decide +kernel
theorem dX9_init_84 : decode cX9_init 84 = .ok (.aload_n 0, 1) := by decide +kernel
theorem dX9_init_85 : decode cX9_init 85 = .ok (.bipush 6, 2) := by decide +kernel
theorem dX9_init_87 : decode cX9_init 87 = .ok (.newarray .int, 2) := by decide +kernel
theorem dX9_init_89 : decode cX9_init 89 = .ok (.putfield 43, 3) := by decide +kernel
theorem dX9_init_92 : decode cX9_init 92 = .ok (.aload_n 0, 1) := by decide +kernel
theorem dX9_init_93 : decode cX9_init 93 = .ok (.sipush 1200, 3) := by decide +kernel
theorem dX9_init_96 : decode cX9_init 96 = .ok (.newarray .int, 2) := by decide +kernel
theorem dX9_init_98 : decode cX9_init 98 = .ok (.putfield 46, 3) := by decide +kernel
theorem dX9_init_101 : decode cX9_init 101 = .ok (.aload_n 0, 1) := by decide +kernel
theorem dX9_init_102 : decode cX9_init 102 = .ok (.sipush 200, 3) := by decide +kernel
theorem dX9_init_105 : decode cX9_init 105 = .ok (.newarray .int, 2) := by decide +kernel
theorem dX9_init_107 : decode cX9_init 107 = .ok (.putfield 49, 3) := by decide +kernel
theorem dX9_init_110 : decode cX9_init 110 = .ok (.return_, 1) := by decide +kernel
theorem dX9_thrown_0 : decode cX9_thrown 0 = .ok (.aload_n 0, 1) := by decide +kernel
theorem dX9_thrown_1 : decode cX9_thrown 1 = .ok (.getfield 52, 3) := by decide +kernel
theorem dX9_thrown_4 : decode cX9_thrown 4 = .ok (.ireturn, 1) := by decide +kernel
theorem dX9_refused_0 : decode cX9_refused 0 = .ok (.aload_n 0, 1) := by decide +kernel
theorem dX9_refused_1 : decode cX9_refused 1 = .ok (.iload_n 1, 1) := by decide +kernel
theorem dX9_refused_2 : decode cX9_refused 2 = .ok (.putfield 55, 3) := by decide +kernel
theorem dX9_refused_5 : decode cX9_refused 5 = .ok (.aload_n 0, 1) := by decide +kernel
theorem dX9_refused_6 : decode cX9_refused 6 = .ok (.iconst (-1), 1) := by decide +kernel
theorem dX9_refused_7 : decode cX9_refused 7 = .ok (.putfield 9, 3) := by decide +kernel
theorem dX9_refused_10 : decode cX9_refused 10 = .ok (.iconst (-1), 1) := by decide +kernel
theorem dX9_refused_11 : decode cX9_refused 11 = .ok (.ireturn, 1) := by decide +kernel
theorem dX9_lost_0 : decode cX9_lost 0 = .ok (.aload_n 0, 1) := by decide +kernel
theorem dX9_lost_1 : decode cX9_lost 1 = .ok (.iload_n 1, 1) := by decide +kernel
theorem dX9_lost_2 : decode cX9_lost 2 = .ok (.invokevirtual 58, 3) := by decide +kernel
theorem dX9_lost_5 : decode cX9_lost 5 = .ok (.pop, 1) := by decide +kernel
theorem dX9_lost_6 : decode cX9_lost 6 = .ok (.sipush (-1000), 3) := by decide +kernel
theorem dX9_lost_9 : decode cX9_lost 9 = .ok (.ireturn, 1) := by decide +kernel
theorem dX9_denied_0 : decode cX9_denied 0 = .ok (.aload_n 0, 1) := by decide +kernel
theorem dX9_denied_1 : decode cX9_denied 1 = .ok (.iload_n 1, 1) := by decide +kernel
theorem dX9_denied_2 : decode cX9_denied 2 = .ok (.invokevirtual 58, 3) := by decide +kernel
theorem dX9_denied_5 : decode cX9_denied 5 = .ok (.pop, 1) := by decide +kernel
theorem dX9_denied_6 : decode cX9_denied 6 = .ok (.iconst 0, 1) := by decide +kernel
theorem dX9_denied_7 : decode cX9_denied 7 = .ok (.ireturn, 1) := by decide +kernel
theorem dX9_done_0 : decode cX9_done 0 = .ok (.aload_n 0, 1) := by decide +kernel
theorem dX9_done_1 : decode cX9_done 1 = .ok (.iconst 0, 1) := by decide +kernel
theorem dX9_done_2 : decode cX9_done 2 = .ok (.putfield 55, 3) := by decide +kernel
theorem dX9_done_5 : decode cX9_done 5 = .ok (.aload_n 0, 1) := by decide +kernel
theorem dX9_done_6 : decode cX9_done 6 = .ok (.iconst (-1), 1) := by decide +kernel
theorem dX9_done_7 : decode cX9_done 7 = .ok (.putfield 9, 3) := by decide +kernel
theorem dX9_done_10 : decode cX9_done 10 = .ok (.iload_n 1, 1) := by decide +kernel
theorem dX9_done_11 : decode cX9_done 11 = .ok (.ireturn, 1) := by decide +kernel
theorem dX9_granted_0 : decode cX9_granted 0 = .ok (.aload_n 0, 1) := by decide +kernel
theorem dX9_granted_1 : decode cX9_granted 1 = .ok (.iconst 0, 1) := by decide +kernel
theorem dX9_granted_2 : decode cX9_granted 2 = .ok (.invokevirtual 62, 3) := by decide +kernel
theorem dX9_granted_5 : decode cX9_granted 5 = .ok (.pop, 1) := by decide +kernel
theorem dX9_granted_6 : decode cX9_granted 6 = .ok (.iconst 1, 1) := by decide +kernel
theorem dX9_granted_7 : decode cX9_granted 7 = .ok (.ireturn, 1) := by decide +kernel
theorem dX9_in_0 : decode cX9_in 0 = .ok (.iload_n 0, 1) := by decide +kernel
theorem dX9_in_1 : decode cX9_in 1 = .ok (.iload_n 1, 1) := by decide +kernel
theorem dX9_in_2 : decode cX9_in 2 = .ok (.if_icmp .lt 12, 3) := by decide +kernel
theorem dX9_in_5 : decode cX9_in 5 = .ok (.iload_n 0, 1) := by decide +kernel
theorem dX9_in_6 : decode cX9_in 6 = .ok (.iload_n 2, 1) := by decide +kernel
theorem dX9_in_7 : decode cX9_in 7 = .ok (.if_icmp .gt 7, 3) := by decide +kernel
theorem dX9_in_10 : decode cX9_in 10 = .ok (.iconst 1, 1) := by decide +kernel
theorem dX9_in_11 : decode cX9_in 11 = .ok (.goto 4, 3) := by decide +kernel
theorem dX9_in_14 : decode cX9_in 14 = .ok (.iconst 0, 1) := by decide +kernel
theorem dX9_in_15 : decode cX9_in 15 = .ok (.ireturn, 1) := by decide +kernel
theorem dX9_byteAt_0 : decode cX9_byteAt 0 = .ok (.iload_n 1, 1) := by decide +kernel
theorem dX9_byteAt_1 : decode cX9_byteAt 1 = .ok (.aload_n 0, 1) := by decide +kernel
theorem dX9_byteAt_2 : decode cX9_byteAt 2 = .ok (.getfield 65, 3) := by decide +kernel
theorem dX9_byteAt_5 : decode cX9_byteAt 5 = .ok (.if_icmp .ge 16, 3) := by decide +kernel
theorem dX9_byteAt_8 : decode cX9_byteAt 8 = .ok (.aload_n 0, 1) := by decide +kernel
theorem dX9_byteAt_9 : decode cX9_byteAt 9 = .ok (.getfield 13, 3) := by decide +kernel
theorem dX9_byteAt_12 : decode cX9_byteAt 12 = .ok (.iload_n 1, 1) := by decide +kernel
theorem dX9_byteAt_13 : decode cX9_byteAt 13 = .ok (.baload, 1) := by decide +kernel
theorem dX9_byteAt_14 : decode cX9_byteAt 14 = .ok (.sipush 255, 3) := by decide +kernel
theorem dX9_byteAt_17 : decode cX9_byteAt 17 = .ok (.iand, 1) := by decide +kernel
theorem dX9_byteAt_18 : decode cX9_byteAt 18 = .ok (.goto 4, 3) := by decide +kernel
theorem dX9_byteAt_21 : decode cX9_byteAt 21 = .ok (.iconst (-1), 1) := by decide +kernel
theorem dX9_byteAt_22 : decode cX9_byteAt 22 = .ok (.ireturn, 1) := by decide +kernel
theorem dX9_isLetter_0 : decode cX9_isLetter 0 = .ok (.iload_n 0, 1) := by decide +kernel
theorem dX9_isLetter_1 : decode cX9_isLetter 1 = .ok (.bipush 97, 2) := by decide +kernel
theorem dX9_isLetter_3 : decode cX9_isLetter 3 = .ok (.if_icmp .lt 13, 3) := by decide +kernel
theorem dX9_isLetter_6 : decode cX9_isLetter 6 = .ok (.iload_n 0, 1) := by decide +kernel
theorem dX9_isLetter_7 : decode cX9_isLetter 7 = .ok (.bipush 122, 2) := by decide +kernel
theorem dX9_isLetter_9 : decode cX9_isLetter 9 = .ok (.if_icmp .gt 7, 3) := by decide +kernel
theorem dX9_isLetter_12 : decode cX9_isLetter 12 = .ok (.iconst 1, 1) := by decide +kernel
theorem dX9_isLetter_13 : decode cX9_isLetter 13 = .ok (.goto 4, 3) := by decide +kernel
theorem dX9_isLetter_16 : decode cX9_isLetter 16 = .ok (.iconst 0, 1) := by decide +kernel
theorem dX9_isLetter_17 : decode cX9_isLetter 17 = .ok (.ireturn, 1) := by decide +kernel
theorem dX9_isDigit_0 : decode cX9_isDigit 0 = .ok (.iload_n 0, 1) := by decide +kernel
theorem dX9_isDigit_1 : decode cX9_isDigit 1 = .ok (.bipush 48, 2) := by decide +kernel
theorem dX9_isDigit_3 : decode cX9_isDigit 3 = .ok (.if_icmp .lt 13, 3) := by decide +kernel
theorem dX9_isDigit_6 : decode cX9_isDigit 6 = .ok (.iload_n 0, 1) := by decide +kernel
theorem dX9_isDigit_7 : decode cX9_isDigit 7 = .ok (.bipush 57, 2) := by decide +kernel
theorem dX9_isDigit_9 : decode cX9_isDigit 9 = .ok (.if_icmp .gt 7, 3) := by decide +kernel
theorem dX9_isDigit_12 : decode cX9_isDigit 12 = .ok (.iconst 1, 1) := by decide +kernel
theorem dX9_isDigit_13 : decode cX9_isDigit 13 = .ok (.goto 4, 3) := by decide +kernel
theorem dX9_isDigit_16 : decode cX9_isDigit 16 = .ok (.iconst 0, 1) := by decide +kernel
theorem dX9_isDigit_17 : decode cX9_isDigit 17 = .ok (.ireturn, 1) := by decide +kernel
theorem dX9_wordOf_0 : decode cX9_wordOf 0 = .ok (.lconst 0, 1) := by decide +kernel
theorem dX9_wordOf_1 : decode cX9_wordOf 1 = .ok (.lstore_n 1, 1) := by decide +kernel
theorem dX9_wordOf_2 : decode cX9_wordOf 2 = .ok (.iconst 0, 1) := by decide +kernel
theorem dX9_wordOf_3 : decode cX9_wordOf 3 = .ok (.istore_n 3, 1) := by decide +kernel
theorem dX9_wordOf_4 : decode cX9_wordOf 4 = .ok (.iload_n 3, 1) := by decide +kernel
theorem dX9_wordOf_5 : decode cX9_wordOf 5 = .ok (.aload_n 0, 1) := by decide +kernel
theorem dX9_wordOf_6 : decode cX9_wordOf 6 = .ok (.invokevirtual 68, 3) := by decide +kernel
theorem dX9_wordOf_9 : decode cX9_wordOf 9 = .ok (.if_icmp .ge 27, 3) := by decide +kernel
theorem dX9_wordOf_12 : decode cX9_wordOf 12 = .ok (.ldc2_w 74, 3) := by decide +kernel
theorem dX9_wordOf_15 : decode cX9_wordOf 15 = .ok (.lload_n 1, 1) := by decide +kernel
theorem dX9_wordOf_16 : decode cX9_wordOf 16 = .ok (.lmul, 1) := by decide +kernel
theorem dX9_wordOf_17 : decode cX9_wordOf 17 = .ok (.aload_n 0, 1) := by decide +kernel
theorem dX9_wordOf_18 : decode cX9_wordOf 18 = .ok (.iload_n 3, 1) := by decide +kernel
theorem dX9_wordOf_19 : decode cX9_wordOf 19 = .ok (.invokevirtual 76, 3) := by decide +kernel
theorem dX9_wordOf_22 : decode cX9_wordOf 22 = .ok (.bipush 97, 2) := by decide +kernel
theorem dX9_wordOf_24 : decode cX9_wordOf 24 = .ok (.isub, 1) := by decide +kernel
theorem dX9_wordOf_25 : decode cX9_wordOf 25 = .ok (.iconst 1, 1) := by decide +kernel
theorem dX9_wordOf_26 : decode cX9_wordOf 26 = .ok (.iadd, 1) := by decide +kernel
theorem dX9_wordOf_27 : decode cX9_wordOf 27 = .ok (.i2l, 1) := by decide +kernel
theorem dX9_wordOf_28 : decode cX9_wordOf 28 = .ok (.ladd, 1) := by decide +kernel
theorem dX9_wordOf_29 : decode cX9_wordOf 29 = .ok (.lstore_n 1, 1) := by decide +kernel
theorem dX9_wordOf_30 : decode cX9_wordOf 30 = .ok (.iinc 3 1, 3) := by decide +kernel
theorem dX9_wordOf_33 : decode cX9_wordOf 33 = .ok (.goto (-29), 3) := by decide +kernel
theorem dX9_wordOf_36 : decode cX9_wordOf 36 = .ok (.lload_n 1, 1) := by decide +kernel
theorem dX9_wordOf_37 : decode cX9_wordOf 37 = .ok (.lreturn, 1) := by decide +kernel
theorem dX9_goesOn_0 : decode cX9_goesOn 0 = .ok (.aload_n 0, 1) := by decide +kernel
theorem dX9_goesOn_1 : decode cX9_goesOn 1 = .ok (.getfield 80, 3) := by decide +kernel
theorem dX9_goesOn_4 : decode cX9_goesOn 4 = .ok (.iconst 5, 1) := by decide +kernel
theorem dX9_goesOn_5 : decode cX9_goesOn 5 = .ok (.if_icmp .ne 4, 3) := by decide +kernel
theorem dX9_goesOn_8 : decode cX9_goesOn 8 = .ok (.return_, 1) := by decide +kernel
theorem dX9_goesOn_9 : decode cX9_goesOn 9 = .ok (.aload_n 0, 1) := by decide +kernel
theorem dX9_goesOn_10 : decode cX9_goesOn 10 = .ok (.aload_n 0, 1) := by decide +kernel
theorem dX9_goesOn_11 : decode cX9_goesOn 11 = .ok (.getfield 83, 3) := by decide +kernel
theorem dX9_goesOn_14 : decode cX9_goesOn 14 = .ok (.invokevirtual 86, 3) := by decide +kernel
theorem dX9_goesOn_17 : decode cX9_goesOn 17 = .ok (.bipush 32, 2) := by decide +kernel
theorem dX9_goesOn_19 : decode cX9_goesOn 19 = .ok (.if_icmp .ne 16, 3) := by decide +kernel
theorem dX9_goesOn_22 : decode cX9_goesOn 22 = .ok (.aload_n 0, 1) := by decide +kernel
theorem dX9_goesOn_23 : decode cX9_goesOn 23 = .ok (.dup, 1) := by decide +kernel
theorem dX9_goesOn_24 : decode cX9_goesOn 24 = .ok (.getfield 83, 3) := by decide +kernel
theorem dX9_goesOn_27 : decode cX9_goesOn 27 = .ok (.iconst 1, 1) := by decide +kernel
theorem dX9_goesOn_28 : decode cX9_goesOn 28 = .ok (.iadd, 1) := by decide +kernel
theorem dX9_goesOn_29 : decode cX9_goesOn 29 = .ok (.putfield 83, 3) := by decide +kernel
theorem dX9_goesOn_32 : decode cX9_goesOn 32 = .ok (.goto (-23), 3) := by decide +kernel
theorem dX9_goesOn_35 : decode cX9_goesOn 35 = .ok (.aload_n 0, 1) := by decide +kernel
theorem dX9_goesOn_36 : decode cX9_goesOn 36 = .ok (.aload_n 0, 1) := by decide +kernel
theorem dX9_goesOn_37 : decode cX9_goesOn 37 = .ok (.getfield 83, 3) := by decide +kernel
theorem dX9_goesOn_40 : decode cX9_goesOn 40 = .ok (.putfield 89, 3) := by decide +kernel
theorem dX9_goesOn_43 : decode cX9_goesOn 43 = .ok (.aload_n 0, 1) := by decide +kernel
theorem dX9_goesOn_44 : decode cX9_goesOn 44 = .ok (.iconst 0, 1) := by decide +kernel
theorem dX9_goesOn_45 : decode cX9_goesOn 45 = .ok (.putfield 80, 3) := by decide +kernel
theorem dX9_goesOn_48 : decode cX9_goesOn 48 = .ok (.aload_n 0, 1) := by decide +kernel
theorem dX9_goesOn_49 : decode cX9_goesOn 49 = .ok (.iconst 0, 1) := by decide +kernel
theorem dX9_goesOn_50 : decode cX9_goesOn 50 = .ok (.putfield 92, 3) := by decide +kernel
theorem dX9_goesOn_53 : decode cX9_goesOn 53 = .ok (.aload_n 0, 1) := by decide +kernel
theorem dX9_goesOn_54 : decode cX9_goesOn 54 = .ok (.aload_n 0, 1) := by decide +kernel
theorem dX9_goesOn_55 : decode cX9_goesOn 55 = .ok (.getfield 83, 3) := by decide +kernel
theorem dX9_goesOn_58 : decode cX9_goesOn 58 = .ok (.invokevirtual 86, 3) := by decide +kernel
theorem dX9_goesOn_61 : decode cX9_goesOn 61 = .ok (.istore_n 1, 1) := by decide +kernel
theorem dX9_goesOn_62 : decode cX9_goesOn 62 = .ok (.iconst 0, 1) := by decide +kernel
theorem dX9_goesOn_63 : decode cX9_goesOn 63 = .ok (.istore_n 2, 1) := by decide +kernel
theorem dX9_goesOn_64 : decode cX9_goesOn 64 = .ok (.iload_n 1, 1) := by decide +kernel
theorem dX9_goesOn_65 : decode cX9_goesOn 65 = .ok (.iconst (-1), 1) := by decide +kernel
theorem dX9_goesOn_66 : decode cX9_goesOn 66 = .ok (.if_icmp .ne 11, 3) := by decide +kernel
theorem dX9_goesOn_69 : decode cX9_goesOn 69 = .ok (.aload_n 0, 1) := by decide +kernel
theorem dX9_goesOn_70 : decode cX9_goesOn 70 = .ok (.iconst 1, 1) := by decide +kernel
theorem dX9_goesOn_71 : decode cX9_goesOn 71 = .ok (.putfield 80, 3) := by decide +kernel
theorem dX9_goesOn_74 : decode cX9_goesOn 74 = .ok (.goto 207, 3) := by decide +kernel
theorem dX9_goesOn_77 : decode cX9_goesOn 77 = .ok (.iload_n 1, 1) := by decide +kernel
theorem dX9_goesOn_78 : decode cX9_goesOn 78 = .ok (.invokestatic 95, 3) := by decide +kernel
theorem dX9_goesOn_81 : decode cX9_goesOn 81 = .ok (.ifCond .eq 85, 3) := by decide +kernel
theorem dX9_goesOn_84 : decode cX9_goesOn 84 = .ok (.aload_n 0, 1) := by decide +kernel
theorem dX9_goesOn_85 : decode cX9_goesOn 85 = .ok (.lconst 0, 1) := by decide +kernel
theorem dX9_goesOn_86 : decode cX9_goesOn 86 = .ok (.putfield 99, 3) := by decide +kernel
theorem dX9_goesOn_89 : decode cX9_goesOn 89 = .ok (.aload_n 0, 1) := by decide +kernel
theorem dX9_goesOn_90 : decode cX9_goesOn 90 = .ok (.aload_n 0, 1) := by decide +kernel
theorem dX9_goesOn_91 : decode cX9_goesOn 91 = .ok (.getfield 83, 3) := by decide +kernel
theorem dX9_goesOn_94 : decode cX9_goesOn 94 = .ok (.invokevirtual 86, 3) := by decide +kernel
theorem dX9_goesOn_97 : decode cX9_goesOn 97 = .ok (.invokestatic 95, 3) := by decide +kernel
theorem dX9_goesOn_100 : decode cX9_goesOn 100 = .ok (.ifCond .eq 52, 3) := by decide +kernel
theorem dX9_goesOn_103 : decode cX9_goesOn 103 = .ok (.iload_n 2, 1) := by decide +kernel
theorem dX9_goesOn_104 : decode cX9_goesOn 104 = .ok (.bipush 8, 2) := by decide +kernel
theorem dX9_goesOn_106 : decode cX9_goesOn 106 = .ok (.if_icmp .ge 30, 3) := by decide +kernel
theorem dX9_goesOn_109 : decode cX9_goesOn 109 = .ok (.aload_n 0, 1) := by decide +kernel
theorem dX9_goesOn_110 : decode cX9_goesOn 110 = .ok (.ldc2_w 74, 3) := by decide +kernel
theorem dX9_goesOn_113 : decode cX9_goesOn 113 = .ok (.aload_n 0, 1) := by decide +kernel
theorem dX9_goesOn_114 : decode cX9_goesOn 114 = .ok (.getfield 99, 3) := by decide +kernel
theorem dX9_goesOn_117 : decode cX9_goesOn 117 = .ok (.lmul, 1) := by decide +kernel
theorem dX9_goesOn_118 : decode cX9_goesOn 118 = .ok (.aload_n 0, 1) := by decide +kernel
theorem dX9_goesOn_119 : decode cX9_goesOn 119 = .ok (.aload_n 0, 1) := by decide +kernel
theorem dX9_goesOn_120 : decode cX9_goesOn 120 = .ok (.getfield 83, 3) := by decide +kernel
theorem dX9_goesOn_123 : decode cX9_goesOn 123 = .ok (.invokevirtual 86, 3) := by decide +kernel
theorem dX9_goesOn_126 : decode cX9_goesOn 126 = .ok (.bipush 97, 2) := by decide +kernel
theorem dX9_goesOn_128 : decode cX9_goesOn 128 = .ok (.isub, 1) := by decide +kernel
theorem dX9_goesOn_129 : decode cX9_goesOn 129 = .ok (.iconst 1, 1) := by decide +kernel
theorem dX9_goesOn_130 : decode cX9_goesOn 130 = .ok (.iadd, 1) := by decide +kernel
theorem dX9_goesOn_131 : decode cX9_goesOn 131 = .ok (.i2l, 1) := by decide +kernel
theorem dX9_goesOn_132 : decode cX9_goesOn 132 = .ok (.ladd, 1) := by decide +kernel
theorem dX9_goesOn_133 : decode cX9_goesOn 133 = .ok (.putfield 99, 3) := by decide +kernel
theorem dX9_goesOn_136 : decode cX9_goesOn 136 = .ok (.iinc 2 1, 3) := by decide +kernel
theorem dX9_goesOn_139 : decode cX9_goesOn 139 = .ok (.aload_n 0, 1) := by decide +kernel
theorem dX9_goesOn_140 : decode cX9_goesOn 140 = .ok (.dup, 1) := by decide +kernel
theorem dX9_goesOn_141 : decode cX9_goesOn 141 = .ok (.getfield 83, 3) := by decide +kernel
theorem dX9_goesOn_144 : decode cX9_goesOn 144 = .ok (.iconst 1, 1) := by decide +kernel
theorem dX9_goesOn_145 : decode cX9_goesOn 145 = .ok (.iadd, 1) := by decide +kernel
theorem dX9_goesOn_146 : decode cX9_goesOn 146 = .ok (.putfield 83, 3) := by decide +kernel
theorem dX9_goesOn_149 : decode cX9_goesOn 149 = .ok (.goto (-60), 3) := by decide +kernel
theorem dX9_goesOn_152 : decode cX9_goesOn 152 = .ok (.iload_n 2, 1) := by decide +kernel
theorem dX9_goesOn_153 : decode cX9_goesOn 153 = .ok (.bipush 8, 2) := by decide +kernel
theorem dX9_goesOn_155 : decode cX9_goesOn 155 = .ok (.if_icmp .gt 126, 3) := by decide +kernel
theorem dX9_goesOn_158 : decode cX9_goesOn 158 = .ok (.aload_n 0, 1) := by decide +kernel
theorem dX9_goesOn_159 : decode cX9_goesOn 159 = .ok (.iconst 2, 1) := by decide +kernel
theorem dX9_goesOn_160 : decode cX9_goesOn 160 = .ok (.putfield 80, 3) := by decide +kernel
theorem dX9_goesOn_163 : decode cX9_goesOn 163 = .ok (.goto 118, 3) := by decide +kernel
theorem dX9_goesOn_166 : decode cX9_goesOn 166 = .ok (.iload_n 1, 1) := by decide +kernel
theorem dX9_goesOn_167 : decode cX9_goesOn 167 = .ok (.invokestatic 103, 3) := by decide +kernel
theorem dX9_goesOn_170 : decode cX9_goesOn 170 = .ok (.ifCond .eq 79, 3) := by decide +kernel
theorem dX9_goesOn_173 : decode cX9_goesOn 173 = .ok (.aload_n 0, 1) := by decide +kernel
theorem dX9_goesOn_174 : decode cX9_goesOn 174 = .ok (.iconst 0, 1) := by decide +kernel
theorem dX9_goesOn_175 : decode cX9_goesOn 175 = .ok (.putfield 106, 3) := by decide +kernel
theorem dX9_goesOn_178 : decode cX9_goesOn 178 = .ok (.aload_n 0, 1) := by decide +kernel
theorem dX9_goesOn_179 : decode cX9_goesOn 179 = .ok (.aload_n 0, 1) := by decide +kernel
theorem dX9_goesOn_180 : decode cX9_goesOn 180 = .ok (.getfield 83, 3) := by decide +kernel
theorem dX9_goesOn_183 : decode cX9_goesOn 183 = .ok (.invokevirtual 86, 3) := by decide +kernel
theorem dX9_goesOn_186 : decode cX9_goesOn 186 = .ok (.invokestatic 103, 3) := by decide +kernel
theorem dX9_goesOn_189 : decode cX9_goesOn 189 = .ok (.ifCond .eq 47, 3) := by decide +kernel
theorem dX9_goesOn_192 : decode cX9_goesOn 192 = .ok (.iload_n 2, 1) := by decide +kernel
theorem dX9_goesOn_193 : decode cX9_goesOn 193 = .ok (.iconst 3, 1) := by decide +kernel
theorem dX9_goesOn_194 : decode cX9_goesOn 194 = .ok (.if_icmp .ge 26, 3) := by decide +kernel
theorem dX9_goesOn_197 : decode cX9_goesOn 197 = .ok (.aload_n 0, 1) := by decide +kernel
theorem dX9_goesOn_198 : decode cX9_goesOn 198 = .ok (.bipush 10, 2) := by decide +kernel
theorem dX9_goesOn_200 : decode cX9_goesOn 200 = .ok (.aload_n 0, 1) := by decide +kernel
theorem dX9_goesOn_201 : decode cX9_goesOn 201 = .ok (.getfield 106, 3) := by decide +kernel
theorem dX9_goesOn_204 : decode cX9_goesOn 204 = .ok (.imul, 1) := by decide +kernel
theorem dX9_goesOn_205 : decode cX9_goesOn 205 = .ok (.aload_n 0, 1) := by decide +kernel
theorem dX9_goesOn_206 : decode cX9_goesOn 206 = .ok (.aload_n 0, 1) := by decide +kernel
theorem dX9_goesOn_207 : decode cX9_goesOn 207 = .ok (.getfield 83, 3) := by decide +kernel
theorem dX9_goesOn_210 : decode cX9_goesOn 210 = .ok (.invokevirtual 86, 3) := by decide +kernel
theorem dX9_goesOn_213 : decode cX9_goesOn 213 = .ok (.iadd, 1) := by decide +kernel
theorem dX9_goesOn_214 : decode cX9_goesOn 214 = .ok (.bipush 48, 2) := by decide +kernel
theorem dX9_goesOn_216 : decode cX9_goesOn 216 = .ok (.isub, 1) := by decide +kernel
theorem dX9_goesOn_217 : decode cX9_goesOn 217 = .ok (.putfield 106, 3) := by decide +kernel
theorem dX9_goesOn_220 : decode cX9_goesOn 220 = .ok (.iinc 2 1, 3) := by decide +kernel
theorem dX9_goesOn_223 : decode cX9_goesOn 223 = .ok (.aload_n 0, 1) := by decide +kernel
theorem dX9_goesOn_224 : decode cX9_goesOn 224 = .ok (.dup, 1) := by decide +kernel
theorem dX9_goesOn_225 : decode cX9_goesOn 225 = .ok (.getfield 83, 3) := by decide +kernel
theorem dX9_goesOn_228 : decode cX9_goesOn 228 = .ok (.iconst 1, 1) := by decide +kernel
theorem dX9_goesOn_229 : decode cX9_goesOn 229 = .ok (.iadd, 1) := by decide +kernel
theorem dX9_goesOn_230 : decode cX9_goesOn 230 = .ok (.putfield 83, 3) := by decide +kernel
theorem dX9_goesOn_233 : decode cX9_goesOn 233 = .ok (.goto (-55), 3) := by decide +kernel
theorem dX9_goesOn_236 : decode cX9_goesOn 236 = .ok (.iload_n 2, 1) := by decide +kernel
theorem dX9_goesOn_237 : decode cX9_goesOn 237 = .ok (.iconst 3, 1) := by decide +kernel
theorem dX9_goesOn_238 : decode cX9_goesOn 238 = .ok (.if_icmp .gt 43, 3) := by decide +kernel
theorem dX9_goesOn_241 : decode cX9_goesOn 241 = .ok (.aload_n 0, 1) := by decide +kernel
theorem dX9_goesOn_242 : decode cX9_goesOn 242 = .ok (.iconst 3, 1) := by decide +kernel
theorem dX9_goesOn_243 : decode cX9_goesOn 243 = .ok (.putfield 80, 3) := by decide +kernel
theorem dX9_goesOn_246 : decode cX9_goesOn 246 = .ok (.goto 35, 3) := by decide +kernel
theorem dX9_goesOn_249 : decode cX9_goesOn 249 = .ok (.iload_n 1, 1) := by decide +kernel
theorem dX9_goesOn_250 : decode cX9_goesOn 250 = .ok (.bipush 59, 2) := by decide +kernel
theorem dX9_goesOn_252 : decode cX9_goesOn 252 = .ok (.if_icmp .eq 9, 3) := by decide +kernel
theorem dX9_goesOn_255 : decode cX9_goesOn 255 = .ok (.iload_n 1, 1) := by decide +kernel
theorem dX9_goesOn_256 : decode cX9_goesOn 256 = .ok (.bipush 44, 2) := by decide +kernel
theorem dX9_goesOn_258 : decode cX9_goesOn 258 = .ok (.if_icmp .ne 23, 3) := by decide +kernel
theorem dX9_goesOn_261 : decode cX9_goesOn 261 = .ok (.aload_n 0, 1) := by decide +kernel
theorem dX9_goesOn_262 : decode cX9_goesOn 262 = .ok (.iconst 4, 1) := by decide +kernel
theorem dX9_goesOn_263 : decode cX9_goesOn 263 = .ok (.putfield 80, 3) := by decide +kernel
theorem dX9_goesOn_266 : decode cX9_goesOn 266 = .ok (.aload_n 0, 1) := by decide +kernel
theorem dX9_goesOn_267 : decode cX9_goesOn 267 = .ok (.iload_n 1, 1) := by decide +kernel
theorem dX9_goesOn_268 : decode cX9_goesOn 268 = .ok (.putfield 92, 3) := by decide +kernel
theorem dX9_goesOn_271 : decode cX9_goesOn 271 = .ok (.aload_n 0, 1) := by decide +kernel
theorem dX9_goesOn_272 : decode cX9_goesOn 272 = .ok (.dup, 1) := by decide +kernel
theorem dX9_goesOn_273 : decode cX9_goesOn 273 = .ok (.getfield 83, 3) := by decide +kernel
theorem dX9_goesOn_276 : decode cX9_goesOn 276 = .ok (.iconst 1, 1) := by decide +kernel
theorem dX9_goesOn_277 : decode cX9_goesOn 277 = .ok (.iadd, 1) := by decide +kernel
theorem dX9_goesOn_278 : decode cX9_goesOn 278 = .ok (.putfield 83, 3) := by decide +kernel
theorem dX9_goesOn_281 : decode cX9_goesOn 281 = .ok (.return_, 1) := by decide +kernel
theorem dX9_wrong_0 : decode cX9_wrong 0 = .ok (.aload_n 0, 1) := by decide +kernel
theorem dX9_wrong_1 : decode cX9_wrong 1 = .ok (.getfield 80, 3) := by decide +kernel
theorem dX9_wrong_4 : decode cX9_wrong 4 = .ok (.iconst 5, 1) := by decide +kernel
theorem dX9_wrong_5 : decode cX9_wrong 5 = .ok (.if_icmp .ne 4, 3) := by decide +kernel
theorem dX9_wrong_8 : decode cX9_wrong 8 = .ok (.return_, 1) := by decide +kernel
theorem dX9_wrong_9 : decode cX9_wrong 9 = .ok (.aload_n 0, 1) := by decide +kernel
theorem dX9_wrong_10 : decode cX9_wrong 10 = .ok (.iload_n 1, 1) := by decide +kernel
theorem dX9_wrong_11 : decode cX9_wrong 11 = .ok (.putfield 109, 3) := by decide +kernel
theorem dX9_wrong_14 : decode cX9_wrong 14 = .ok (.aload_n 0, 1) := by decide +kernel
theorem dX9_wrong_15 : decode cX9_wrong 15 = .ok (.aload_n 0, 1) := by decide +kernel
theorem dX9_wrong_16 : decode cX9_wrong 16 = .ok (.getfield 89, 3) := by decide +kernel
theorem dX9_wrong_19 : decode cX9_wrong 19 = .ok (.putfield 112, 3) := by decide +kernel
theorem dX9_wrong_22 : decode cX9_wrong 22 = .ok (.aload_n 0, 1) := by decide +kernel
theorem dX9_wrong_23 : decode cX9_wrong 23 = .ok (.iconst 5, 1) := by decide +kernel
theorem dX9_wrong_24 : decode cX9_wrong 24 = .ok (.putfield 80, 3) := by decide +kernel
theorem dX9_wrong_27 : decode cX9_wrong 27 = .ok (.return_, 1) := by decide +kernel
theorem dX9_isWord_0 : decode cX9_isWord 0 = .ok (.aload_n 0, 1) := by decide +kernel
theorem dX9_isWord_1 : decode cX9_isWord 1 = .ok (.getfield 80, 3) := by decide +kernel
theorem dX9_isWord_4 : decode cX9_isWord 4 = .ok (.iconst 2, 1) := by decide +kernel
theorem dX9_isWord_5 : decode cX9_isWord 5 = .ok (.if_icmp .ne 19, 3) := by decide +kernel
theorem dX9_isWord_8 : decode cX9_isWord 8 = .ok (.aload_n 0, 1) := by decide +kernel
theorem dX9_isWord_9 : decode cX9_isWord 9 = .ok (.getfield 99, 3) := by decide +kernel
theorem dX9_isWord_12 : decode cX9_isWord 12 = .ok (.aload_n 1, 1) := by decide +kernel
theorem dX9_isWord_13 : decode cX9_isWord 13 = .ok (.invokestatic 115, 3) := by decide +kernel
theorem dX9_isWord_16 : decode cX9_isWord 16 = .ok (.lcmp, 1) := by decide +kernel
theorem dX9_isWord_17 : decode cX9_isWord 17 = .ok (.ifCond .ne 7, 3) := by decide +kernel
theorem dX9_isWord_20 : decode cX9_isWord 20 = .ok (.iconst 1, 1) := by decide +kernel
theorem dX9_isWord_21 : decode cX9_isWord 21 = .ok (.goto 4, 3) := by decide +kernel
theorem dX9_isWord_24 : decode cX9_isWord 24 = .ok (.iconst 0, 1) := by decide +kernel
theorem dX9_isWord_25 : decode cX9_isWord 25 = .ok (.ireturn, 1) := by decide +kernel
theorem dX9_eatsWord_0 : decode cX9_eatsWord 0 = .ok (.aload_n 0, 1) := by decide +kernel
theorem dX9_eatsWord_1 : decode cX9_eatsWord 1 = .ok (.aload_n 1, 1) := by decide +kernel
theorem dX9_eatsWord_2 : decode cX9_eatsWord 2 = .ok (.invokevirtual 119, 3) := by decide +kernel
theorem dX9_eatsWord_5 : decode cX9_eatsWord 5 = .ok (.istore_n 2, 1) := by decide +kernel
theorem dX9_eatsWord_6 : decode cX9_eatsWord 6 = .ok (.iload_n 2, 1) := by decide +kernel
theorem dX9_eatsWord_7 : decode cX9_eatsWord 7 = .ok (.ifCond .eq 7, 3) := by decide +kernel
theorem dX9_eatsWord_10 : decode cX9_eatsWord 10 = .ok (.aload_n 0, 1) := by decide +kernel
theorem dX9_eatsWord_11 : decode cX9_eatsWord 11 = .ok (.invokevirtual 123, 3) := by decide +kernel
theorem dX9_eatsWord_14 : decode cX9_eatsWord 14 = .ok (.iload_n 2, 1) := by decide +kernel
theorem dX9_eatsWord_15 : decode cX9_eatsWord 15 = .ok (.ireturn, 1) := by decide +kernel
theorem dX9_eatsSign_0 : decode cX9_eatsSign 0 = .ok (.aload_n 0, 1) := by decide +kernel
theorem dX9_eatsSign_1 : decode cX9_eatsSign 1 = .ok (.getfield 80, 3) := by decide +kernel
theorem dX9_eatsSign_4 : decode cX9_eatsSign 4 = .ok (.iconst 4, 1) := by decide +kernel
theorem dX9_eatsSign_5 : decode cX9_eatsSign 5 = .ok (.if_icmp .ne 15, 3) := by decide +kernel
theorem dX9_eatsSign_8 : decode cX9_eatsSign 8 = .ok (.aload_n 0, 1) := by decide +kernel
theorem dX9_eatsSign_9 : decode cX9_eatsSign 9 = .ok (.getfield 92, 3) := by decide +kernel
theorem dX9_eatsSign_12 : decode cX9_eatsSign 12 = .ok (.iload_n 1, 1) := by decide +kernel
theorem dX9_eatsSign_13 : decode cX9_eatsSign 13 = .ok (.if_icmp .ne 7, 3) := by decide +kernel
theorem dX9_eatsSign_16 : decode cX9_eatsSign 16 = .ok (.iconst 1, 1) := by decide +kernel
theorem dX9_eatsSign_17 : decode cX9_eatsSign 17 = .ok (.goto 4, 3) := by decide +kernel
theorem dX9_eatsSign_20 : decode cX9_eatsSign 20 = .ok (.iconst 0, 1) := by decide +kernel
theorem dX9_eatsSign_21 : decode cX9_eatsSign 21 = .ok (.istore_n 2, 1) := by decide +kernel
theorem dX9_eatsSign_22 : decode cX9_eatsSign 22 = .ok (.iload_n 2, 1) := by decide +kernel
theorem dX9_eatsSign_23 : decode cX9_eatsSign 23 = .ok (.ifCond .eq 7, 3) := by decide +kernel
theorem dX9_eatsSign_26 : decode cX9_eatsSign 26 = .ok (.aload_n 0, 1) := by decide +kernel
theorem dX9_eatsSign_27 : decode cX9_eatsSign 27 = .ok (.invokevirtual 123, 3) := by decide +kernel
theorem dX9_eatsSign_30 : decode cX9_eatsSign 30 = .ok (.iload_n 2, 1) := by decide +kernel
theorem dX9_eatsSign_31 : decode cX9_eatsSign 31 = .ok (.ireturn, 1) := by decide +kernel
theorem dX9_needs_0 : decode cX9_needs 0 = .ok (.aload_n 0, 1) := by decide +kernel
theorem dX9_needs_1 : decode cX9_needs 1 = .ok (.aload_n 1, 1) := by decide +kernel
theorem dX9_needs_2 : decode cX9_needs 2 = .ok (.invokevirtual 119, 3) := by decide +kernel
theorem dX9_needs_5 : decode cX9_needs 5 = .ok (.ifCond .ne 8, 3) := by decide +kernel
theorem dX9_needs_8 : decode cX9_needs 8 = .ok (.aload_n 0, 1) := by decide +kernel
theorem dX9_needs_9 : decode cX9_needs 9 = .ok (.iconst 1, 1) := by decide +kernel
theorem dX9_needs_10 : decode cX9_needs 10 = .ok (.invokevirtual 126, 3) := by decide +kernel
theorem dX9_needs_13 : decode cX9_needs 13 = .ok (.aload_n 0, 1) := by decide +kernel
theorem dX9_needs_14 : decode cX9_needs 14 = .ok (.invokevirtual 123, 3) := by decide +kernel
theorem dX9_needs_17 : decode cX9_needs 17 = .ok (.return_, 1) := by decide +kernel
theorem dX9_readWhole_0 : decode cX9_readWhole 0 = .ok (.aload_n 0, 1) := by decide +kernel
theorem dX9_readWhole_1 : decode cX9_readWhole 1 = .ok (.getfield 80, 3) := by decide +kernel
theorem dX9_readWhole_4 : decode cX9_readWhole 4 = .ok (.iconst 3, 1) := by decide +kernel
theorem dX9_readWhole_5 : decode cX9_readWhole 5 = .ok (.if_icmp .eq 11, 3) := by decide +kernel
theorem dX9_readWhole_8 : decode cX9_readWhole 8 = .ok (.aload_n 0, 1) := by decide +kernel
theorem dX9_readWhole_9 : decode cX9_readWhole 9 = .ok (.iconst 1, 1) := by decide +kernel
theorem dX9_readWhole_10 : decode cX9_readWhole 10 = .ok (.invokevirtual 126, 3) := by decide +kernel
theorem dX9_readWhole_13 : decode cX9_readWhole 13 = .ok (.goto 20, 3) := by decide +kernel
theorem dX9_readWhole_16 : decode cX9_readWhole 16 = .ok (.aload_n 0, 1) := by decide +kernel
theorem dX9_readWhole_17 : decode cX9_readWhole 17 = .ok (.getfield 106, 3) := by decide +kernel
theorem dX9_readWhole_20 : decode cX9_readWhole 20 = .ok (.iload_n 1, 1) := by decide +kernel
theorem dX9_readWhole_21 : decode cX9_readWhole 21 = .ok (.iload_n 2, 1) := by decide +kernel
theorem dX9_readWhole_22 : decode cX9_readWhole 22 = .ok (.invokestatic 130, 3) := by decide +kernel
theorem dX9_readWhole_25 : decode cX9_readWhole 25 = .ok (.ifCond .ne 8, 3) := by decide +kernel
theorem dX9_readWhole_28 : decode cX9_readWhole 28 = .ok (.aload_n 0, 1) := by decide +kernel
theorem dX9_readWhole_29 : decode cX9_readWhole 29 = .ok (.iconst 4, 1) := by decide +kernel
theorem dX9_readWhole_30 : decode cX9_readWhole 30 = .ok (.invokevirtual 126, 3) := by decide +kernel
theorem dX9_readWhole_33 : decode cX9_readWhole 33 = .ok (.aload_n 0, 1) := by decide +kernel
theorem dX9_readWhole_34 : decode cX9_readWhole 34 = .ok (.getfield 106, 3) := by decide +kernel
theorem dX9_readWhole_37 : decode cX9_readWhole 37 = .ok (.istore_n 3, 1) := by decide +kernel
theorem dX9_readWhole_38 : decode cX9_readWhole 38 = .ok (.aload_n 0, 1) := by decide +kernel
theorem dX9_readWhole_39 : decode cX9_readWhole 39 = .ok (.invokevirtual 123, 3) := by decide +kernel
theorem dX9_readWhole_42 : decode cX9_readWhole 42 = .ok (.iload_n 3, 1) := by decide +kernel
theorem dX9_readWhole_43 : decode cX9_readWhole 43 = .ok (.ireturn, 1) := by decide +kernel
theorem dX9_readPart_0 : decode cX9_readPart 0 = .ok (.aload_n 0, 1) := by decide +kernel
theorem dX9_readPart_1 : decode cX9_readPart 1 = .ok (.aload_n 1, 1) := by decide +kernel
theorem dX9_readPart_2 : decode cX9_readPart 2 = .ok (.invokevirtual 134, 3) := by decide +kernel
theorem dX9_readPart_5 : decode cX9_readPart 5 = .ok (.aload_n 0, 1) := by decide +kernel
theorem dX9_readPart_6 : decode cX9_readPart 6 = .ok (.iload_n 2, 1) := by decide +kernel
theorem dX9_readPart_7 : decode cX9_readPart 7 = .ok (.iload_n 3, 1) := by decide +kernel
theorem dX9_readPart_8 : decode cX9_readPart 8 = .ok (.invokevirtual 138, 3) := by decide +kernel
theorem dX9_readPart_11 : decode cX9_readPart 11 = .ok (.ireturn, 1) := by decide +kernel
theorem dX9_isName_0 : decode cX9_isName 0 = .ok (.aload_n 0, 1) := by decide +kernel
theorem dX9_isName_1 : decode cX9_isName 1 = .ok (.getfield 80, 3) := by decide +kernel
theorem dX9_isName_4 : decode cX9_isName 4 = .ok (.iconst 2, 1) := by decide +kernel
theorem dX9_isName_5 : decode cX9_isName 5 = .ok (.if_icmp .ne 66, 3) := by decide +kernel
theorem dX9_isName_8 : decode cX9_isName 8 = .ok (.aload_n 0, 1) := by decide +kernel
theorem dX9_isName_9 : decode cX9_isName 9 = .ok (.ldc 142, 2) := by decide +kernel
theorem dX9_isName_11 : decode cX9_isName 11 = .ok (.invokevirtual 119, 3) := by decide +kernel
theorem dX9_isName_14 : decode cX9_isName 14 = .ok (.ifCond .ne 57, 3) := by decide +kernel
theorem dX9_isName_17 : decode cX9_isName 17 = .ok (.aload_n 0, 1) := by decide +kernel
theorem dX9_isName_18 : decode cX9_isName 18 = .ok (.ldc 144, 2) := by decide +kernel
theorem dX9_isName_20 : decode cX9_isName 20 = .ok (.invokevirtual 119, 3) := by decide +kernel
theorem dX9_isName_23 : decode cX9_isName 23 = .ok (.ifCond .ne 48, 3) := by decide +kernel
theorem dX9_isName_26 : decode cX9_isName 26 = .ok (.aload_n 0, 1) := by decide +kernel
theorem dX9_isName_27 : decode cX9_isName 27 = .ok (.ldc 146, 2) := by decide +kernel
theorem dX9_isName_29 : decode cX9_isName 29 = .ok (.invokevirtual 119, 3) := by decide +kernel
theorem dX9_isName_32 : decode cX9_isName 32 = .ok (.ifCond .ne 39, 3) := by decide +kernel
theorem dX9_isName_35 : decode cX9_isName 35 = .ok (.aload_n 0, 1) := by decide +kernel
theorem dX9_isName_36 : decode cX9_isName 36 = .ok (.ldc 148, 2) := by decide +kernel
theorem dX9_isName_38 : decode cX9_isName 38 = .ok (.invokevirtual 119, 3) := by decide +kernel
theorem dX9_isName_41 : decode cX9_isName 41 = .ok (.ifCond .ne 30, 3) := by decide +kernel
theorem dX9_isName_44 : decode cX9_isName 44 = .ok (.aload_n 0, 1) := by decide +kernel
theorem dX9_isName_45 : decode cX9_isName 45 = .ok (.ldc 150, 2) := by decide +kernel
theorem dX9_isName_47 : decode cX9_isName 47 = .ok (.invokevirtual 119, 3) := by decide +kernel
theorem dX9_isName_50 : decode cX9_isName 50 = .ok (.ifCond .ne 21, 3) := by decide +kernel
theorem dX9_isName_53 : decode cX9_isName 53 = .ok (.aload_n 0, 1) := by decide +kernel
theorem dX9_isName_54 : decode cX9_isName 54 = .ok (.ldc 152, 2) := by decide +kernel
theorem dX9_isName_56 : decode cX9_isName 56 = .ok (.invokevirtual 119, 3) := by decide +kernel
theorem dX9_isName_59 : decode cX9_isName 59 = .ok (.ifCond .ne 12, 3) := by decide +kernel
theorem dX9_isName_62 : decode cX9_isName 62 = .ok (.aload_n 0, 1) := by decide +kernel
theorem dX9_isName_63 : decode cX9_isName 63 = .ok (.ldc 154, 2) := by decide +kernel
theorem dX9_isName_65 : decode cX9_isName 65 = .ok (.invokevirtual 119, 3) := by decide +kernel
theorem dX9_isName_68 : decode cX9_isName 68 = .ok (.ifCond .eq 5, 3) := by decide +kernel
theorem dX9_isName_71 : decode cX9_isName 71 = .ok (.iconst 0, 1) := by decide +kernel
theorem dX9_isName_72 : decode cX9_isName 72 = .ok (.ireturn, 1) := by decide +kernel
theorem dX9_isName_73 : decode cX9_isName 73 = .ok (.aload_n 0, 1) := by decide +kernel
theorem dX9_isName_74 : decode cX9_isName 74 = .ok (.ldc 156, 2) := by decide +kernel
theorem dX9_isName_76 : decode cX9_isName 76 = .ok (.invokevirtual 119, 3) := by decide +kernel
theorem dX9_isName_79 : decode cX9_isName 79 = .ok (.ifCond .ne 61, 3) := by decide +kernel
theorem dX9_isName_82 : decode cX9_isName 82 = .ok (.aload_n 0, 1) := by decide +kernel
theorem dX9_isName_83 : decode cX9_isName 83 = .ok (.ldc 158, 2) := by decide +kernel
theorem dX9_isName_85 : decode cX9_isName 85 = .ok (.invokevirtual 119, 3) := by decide +kernel
theorem dX9_isName_88 : decode cX9_isName 88 = .ok (.ifCond .ne 52, 3) := by decide +kernel
theorem dX9_isName_91 : decode cX9_isName 91 = .ok (.aload_n 0, 1) := by decide +kernel
theorem dX9_isName_92 : decode cX9_isName 92 = .ok (.ldc 160, 2) := by decide +kernel
theorem dX9_isName_94 : decode cX9_isName 94 = .ok (.invokevirtual 119, 3) := by decide +kernel
theorem dX9_isName_97 : decode cX9_isName 97 = .ok (.ifCond .ne 43, 3) := by decide +kernel
theorem dX9_isName_100 : decode cX9_isName 100 = .ok (.aload_n 0, 1) := by decide +kernel
theorem dX9_isName_101 : decode cX9_isName 101 = .ok (.ldc 162, 2) := by decide +kernel
theorem dX9_isName_103 : decode cX9_isName 103 = .ok (.invokevirtual 119, 3) := by decide +kernel
theorem dX9_isName_106 : decode cX9_isName 106 = .ok (.ifCond .ne 34, 3) := by decide +kernel
theorem dX9_isName_109 : decode cX9_isName 109 = .ok (.aload_n 0, 1) := by decide +kernel
theorem dX9_isName_110 : decode cX9_isName 110 = .ok (.ldc 164, 2) := by decide +kernel
theorem dX9_isName_112 : decode cX9_isName 112 = .ok (.invokevirtual 119, 3) := by decide +kernel
theorem dX9_isName_115 : decode cX9_isName 115 = .ok (.ifCond .ne 25, 3) := by decide +kernel
theorem dX9_isName_118 : decode cX9_isName 118 = .ok (.aload_n 0, 1) := by decide +kernel
theorem dX9_isName_119 : decode cX9_isName 119 = .ok (.ldc 166, 2) := by decide +kernel
theorem dX9_isName_121 : decode cX9_isName 121 = .ok (.invokevirtual 119, 3) := by decide +kernel
theorem dX9_isName_124 : decode cX9_isName 124 = .ok (.ifCond .ne 16, 3) := by decide +kernel
theorem dX9_isName_127 : decode cX9_isName 127 = .ok (.aload_n 0, 1) := by decide +kernel
theorem dX9_isName_128 : decode cX9_isName 128 = .ok (.ldc 168, 2) := by decide +kernel
theorem dX9_isName_130 : decode cX9_isName 130 = .ok (.invokevirtual 119, 3) := by decide +kernel
theorem dX9_isName_133 : decode cX9_isName 133 = .ok (.ifCond .ne 7, 3) := by decide +kernel
theorem dX9_isName_136 : decode cX9_isName 136 = .ok (.iconst 1, 1) := by decide +kernel
theorem dX9_isName_137 : decode cX9_isName 137 = .ok (.goto 4, 3) := by decide +kernel
theorem dX9_isName_140 : decode cX9_isName 140 = .ok (.iconst 0, 1) := by decide +kernel
theorem dX9_isName_141 : decode cX9_isName 141 = .ok (.ireturn, 1) := by decide +kernel
theorem dX9_begins_0 : decode cX9_begins 0 = .ok (.iload_n 1, 1) := by decide +kernel
theorem dX9_begins_1 : decode cX9_begins 1 = .ok (.iload_n 2, 1) := by decide +kernel
theorem dX9_begins_2 : decode cX9_begins 2 = .ok (.if_icmp .ne 8, 3) := by decide +kernel
theorem dX9_begins_5 : decode cX9_begins 5 = .ok (.aload_n 0, 1) := by decide +kernel
theorem dX9_begins_6 : decode cX9_begins 6 = .ok (.iconst 5, 1) := by decide +kernel
theorem dX9_begins_7 : decode cX9_begins 7 = .ok (.invokevirtual 126, 3) := by decide +kernel
theorem dX9_begins_10 : decode cX9_begins 10 = .ok (.aload_n 0, 1) := by decide +kernel
theorem dX9_begins_11 : decode cX9_begins 11 = .ok (.invokevirtual 123, 3) := by decide +kernel
theorem dX9_begins_14 : decode cX9_begins 14 = .ok (.return_, 1) := by decide +kernel
theorem dX9_readFresh_0 : decode cX9_readFresh 0 = .ok (.aload_n 0, 1) := by decide +kernel
theorem dX9_readFresh_1 : decode cX9_readFresh 1 = .ok (.invokevirtual 170, 3) := by decide +kernel
theorem dX9_readFresh_4 : decode cX9_readFresh 4 = .ok (.ifCond .ne 8, 3) := by decide +kernel
theorem dX9_readFresh_7 : decode cX9_readFresh 7 = .ok (.aload_n 0, 1) := by decide +kernel
theorem dX9_readFresh_8 : decode cX9_readFresh 8 = .ok (.iconst 1, 1) := by decide +kernel
theorem dX9_readFresh_9 : decode cX9_readFresh 9 = .ok (.invokevirtual 126, 3) := by decide +kernel
theorem dX9_readFresh_12 : decode cX9_readFresh 12 = .ok (.aload_n 0, 1) := by decide +kernel
theorem dX9_readFresh_13 : decode cX9_readFresh 13 = .ok (.getfield 174, 3) := by decide +kernel
theorem dX9_readFresh_16 : decode cX9_readFresh 16 = .ok (.aload_n 0, 1) := by decide +kernel
theorem dX9_readFresh_17 : decode cX9_readFresh 17 = .ok (.getfield 99, 3) := by decide +kernel
theorem dX9_readFresh_20 : decode cX9_readFresh 20 = .ok (.invokevirtual 178, 3) := by decide +kernel
theorem dX9_readFresh_23 : decode cX9_readFresh 23 = .ok (.iconst (-1), 1) := by decide +kernel
theorem dX9_readFresh_24 : decode cX9_readFresh 24 = .ok (.if_icmp .eq 8, 3) := by decide +kernel
theorem dX9_readFresh_27 : decode cX9_readFresh 27 = .ok (.aload_n 0, 1) := by decide +kernel
theorem dX9_readFresh_28 : decode cX9_readFresh 28 = .ok (.iconst 3, 1) := by decide +kernel
theorem dX9_readFresh_29 : decode cX9_readFresh 29 = .ok (.invokevirtual 126, 3) := by decide +kernel
theorem dX9_readFresh_32 : decode cX9_readFresh 32 = .ok (.aload_n 0, 1) := by decide +kernel
theorem dX9_readFresh_33 : decode cX9_readFresh 33 = .ok (.getfield 80, 3) := by decide +kernel
theorem dX9_readFresh_36 : decode cX9_readFresh 36 = .ok (.iconst 5, 1) := by decide +kernel
theorem dX9_readFresh_37 : decode cX9_readFresh 37 = .ok (.if_icmp .ne 4, 3) := by decide +kernel
theorem dX9_readFresh_40 : decode cX9_readFresh 40 = .ok (.return_, 1) := by decide +kernel
theorem dX9_readFresh_41 : decode cX9_readFresh 41 = .ok (.aload_n 0, 1) := by decide +kernel
theorem dX9_readFresh_42 : decode cX9_readFresh 42 = .ok (.getfield 174, 3) := by decide +kernel
theorem dX9_readFresh_45 : decode cX9_readFresh 45 = .ok (.getfield 184, 3) := by decide +kernel
theorem dX9_readFresh_48 : decode cX9_readFresh 48 = .ok (.aload_n 0, 1) := by decide +kernel
theorem dX9_readFresh_49 : decode cX9_readFresh 49 = .ok (.getfield 174, 3) := by decide +kernel
theorem dX9_readFresh_52 : decode cX9_readFresh 52 = .ok (.getfield 187, 3) := by decide +kernel
theorem dX9_readFresh_55 : decode cX9_readFresh 55 = .ok (.aload_n 0, 1) := by decide +kernel
theorem dX9_readFresh_56 : decode cX9_readFresh 56 = .ok (.getfield 99, 3) := by decide +kernel
theorem dX9_readFresh_59 : decode cX9_readFresh 59 = .ok (.lastore, 1) := by decide +kernel
theorem dX9_readFresh_60 : decode cX9_readFresh 60 = .ok (.aload_n 0, 1) := by decide +kernel
theorem dX9_readFresh_61 : decode cX9_readFresh 61 = .ok (.getfield 174, 3) := by decide +kernel
theorem dX9_readFresh_64 : decode cX9_readFresh 64 = .ok (.getfield 190, 3) := by decide +kernel
theorem dX9_readFresh_67 : decode cX9_readFresh 67 = .ok (.aload_n 0, 1) := by decide +kernel
theorem dX9_readFresh_68 : decode cX9_readFresh 68 = .ok (.getfield 174, 3) := by decide +kernel
theorem dX9_readFresh_71 : decode cX9_readFresh 71 = .ok (.getfield 187, 3) := by decide +kernel
theorem dX9_readFresh_74 : decode cX9_readFresh 74 = .ok (.iload_n 1, 1) := by decide +kernel
theorem dX9_readFresh_75 : decode cX9_readFresh 75 = .ok (.iastore, 1) := by decide +kernel
theorem dX9_readFresh_76 : decode cX9_readFresh 76 = .ok (.aload_n 0, 1) := by decide +kernel
theorem dX9_readFresh_77 : decode cX9_readFresh 77 = .ok (.getfield 174, 3) := by decide +kernel
theorem dX9_readFresh_80 : decode cX9_readFresh 80 = .ok (.getfield 193, 3) := by decide +kernel
theorem dX9_readFresh_83 : decode cX9_readFresh 83 = .ok (.aload_n 0, 1) := by decide +kernel
theorem dX9_readFresh_84 : decode cX9_readFresh 84 = .ok (.getfield 174, 3) := by decide +kernel
theorem dX9_readFresh_87 : decode cX9_readFresh 87 = .ok (.getfield 187, 3) := by decide +kernel
theorem dX9_readFresh_90 : decode cX9_readFresh 90 = .ok (.iload_n 2, 1) := by decide +kernel
theorem dX9_readFresh_91 : decode cX9_readFresh 91 = .ok (.iastore, 1) := by decide +kernel
theorem dX9_readFresh_92 : decode cX9_readFresh 92 = .ok (.aload_n 0, 1) := by decide +kernel
theorem dX9_readFresh_93 : decode cX9_readFresh 93 = .ok (.getfield 174, 3) := by decide +kernel
theorem dX9_readFresh_96 : decode cX9_readFresh 96 = .ok (.dup, 1) := by decide +kernel
theorem dX9_readFresh_97 : decode cX9_readFresh 97 = .ok (.getfield 187, 3) := by decide +kernel
theorem dX9_readFresh_100 : decode cX9_readFresh 100 = .ok (.iconst 1, 1) := by decide +kernel
theorem dX9_readFresh_101 : decode cX9_readFresh 101 = .ok (.iadd, 1) := by decide +kernel
theorem dX9_readFresh_102 : decode cX9_readFresh 102 = .ok (.putfield 187, 3) := by decide +kernel
theorem dX9_readFresh_105 : decode cX9_readFresh 105 = .ok (.aload_n 0, 1) := by decide +kernel
theorem dX9_readFresh_106 : decode cX9_readFresh 106 = .ok (.invokevirtual 123, 3) := by decide +kernel
theorem dX9_readFresh_109 : decode cX9_readFresh 109 = .ok (.return_, 1) := by decide +kernel
theorem dX9_known_0 : decode cX9_known 0 = .ok (.aload_n 0, 1) := by decide +kernel
theorem dX9_known_1 : decode cX9_known 1 = .ok (.invokevirtual 170, 3) := by decide +kernel
theorem dX9_known_4 : decode cX9_known 4 = .ok (.ifCond .ne 8, 3) := by decide +kernel
theorem dX9_known_7 : decode cX9_known 7 = .ok (.aload_n 0, 1) := by decide +kernel
theorem dX9_known_8 : decode cX9_known 8 = .ok (.iconst 1, 1) := by decide +kernel
theorem dX9_known_9 : decode cX9_known 9 = .ok (.invokevirtual 126, 3) := by decide +kernel
theorem dX9_known_12 : decode cX9_known 12 = .ok (.aload_n 0, 1) := by decide +kernel
theorem dX9_known_13 : decode cX9_known 13 = .ok (.getfield 174, 3) := by decide +kernel
theorem dX9_known_16 : decode cX9_known 16 = .ok (.aload_n 0, 1) := by decide +kernel
theorem dX9_known_17 : decode cX9_known 17 = .ok (.getfield 99, 3) := by decide +kernel
theorem dX9_known_20 : decode cX9_known 20 = .ok (.invokevirtual 178, 3) := by decide +kernel
theorem dX9_known_23 : decode cX9_known 23 = .ok (.istore_n 2, 1) := by decide +kernel
theorem dX9_known_24 : decode cX9_known 24 = .ok (.iload_n 2, 1) := by decide +kernel
theorem dX9_known_25 : decode cX9_known 25 = .ok (.iconst (-1), 1) := by decide +kernel
theorem dX9_known_26 : decode cX9_known 26 = .ok (.if_icmp .eq 16, 3) := by decide +kernel
theorem dX9_known_29 : decode cX9_known 29 = .ok (.aload_n 0, 1) := by decide +kernel
theorem dX9_known_30 : decode cX9_known 30 = .ok (.getfield 174, 3) := by decide +kernel
theorem dX9_known_33 : decode cX9_known 33 = .ok (.getfield 190, 3) := by decide +kernel
theorem dX9_known_36 : decode cX9_known 36 = .ok (.iload_n 2, 1) := by decide +kernel
theorem dX9_known_37 : decode cX9_known 37 = .ok (.iaload, 1) := by decide +kernel
theorem dX9_known_38 : decode cX9_known 38 = .ok (.iload_n 1, 1) := by decide +kernel
theorem dX9_known_39 : decode cX9_known 39 = .ok (.if_icmp .eq 8, 3) := by decide +kernel
theorem dX9_known_42 : decode cX9_known 42 = .ok (.aload_n 0, 1) := by decide +kernel
theorem dX9_known_43 : decode cX9_known 43 = .ok (.iconst 2, 1) := by decide +kernel
theorem dX9_known_44 : decode cX9_known 44 = .ok (.invokevirtual 126, 3) := by decide +kernel
theorem dX9_known_47 : decode cX9_known 47 = .ok (.aload_n 0, 1) := by decide +kernel
theorem dX9_known_48 : decode cX9_known 48 = .ok (.getfield 80, 3) := by decide +kernel
theorem dX9_known_51 : decode cX9_known 51 = .ok (.iconst 5, 1) := by decide +kernel
theorem dX9_known_52 : decode cX9_known 52 = .ok (.if_icmp .ne 7, 3) := by decide +kernel
theorem dX9_known_55 : decode cX9_known 55 = .ok (.iconst 0, 1) := by decide +kernel
theorem dX9_known_56 : decode cX9_known 56 = .ok (.goto 12, 3) := by decide +kernel
theorem dX9_known_59 : decode cX9_known 59 = .ok (.aload_n 0, 1) := by decide +kernel
theorem dX9_known_60 : decode cX9_known 60 = .ok (.getfield 174, 3) := by decide +kernel
theorem dX9_known_63 : decode cX9_known 63 = .ok (.getfield 193, 3) := by decide +kernel
theorem dX9_known_66 : decode cX9_known 66 = .ok (.iload_n 2, 1) := by decide +kernel
theorem dX9_known_67 : decode cX9_known 67 = .ok (.iaload, 1) := by decide +kernel
theorem dX9_known_68 : decode cX9_known 68 = .ok (.ireturn, 1) := by decide +kernel
theorem dX9_readKnown_0 : decode cX9_readKnown 0 = .ok (.aload_n 0, 1) := by decide +kernel
theorem dX9_readKnown_1 : decode cX9_readKnown 1 = .ok (.iload_n 1, 1) := by decide +kernel
theorem dX9_readKnown_2 : decode cX9_readKnown 2 = .ok (.invokevirtual 196, 3) := by decide +kernel
theorem dX9_readKnown_5 : decode cX9_readKnown 5 = .ok (.istore_n 2, 1) := by decide +kernel
theorem dX9_readKnown_6 : decode cX9_readKnown 6 = .ok (.aload_n 0, 1) := by decide +kernel
theorem dX9_readKnown_7 : decode cX9_readKnown 7 = .ok (.invokevirtual 123, 3) := by decide +kernel
theorem dX9_readKnown_10 : decode cX9_readKnown 10 = .ok (.iload_n 2, 1) := by decide +kernel
theorem dX9_readKnown_11 : decode cX9_readKnown 11 = .ok (.ireturn, 1) := by decide +kernel
theorem dX9_readFlight_0 : decode cX9_readFlight 0 = .ok (.iconst 1, 1) := by decide +kernel
theorem dX9_readFlight_1 : decode cX9_readFlight 1 = .ok (.istore_n 1, 1) := by decide +kernel
theorem dX9_readFlight_2 : decode cX9_readFlight 2 = .ok (.iload_n 1, 1) := by decide +kernel
theorem dX9_readFlight_3 : decode cX9_readFlight 3 = .ok (.ifCond .eq 17, 3) := by decide +kernel
theorem dX9_readFlight_6 : decode cX9_readFlight 6 = .ok (.aload_n 0, 1) := by decide +kernel
theorem dX9_readFlight_7 : decode cX9_readFlight 7 = .ok (.invokevirtual 199, 3) := by decide +kernel
theorem dX9_readFlight_10 : decode cX9_readFlight 10 = .ok (.aload_n 0, 1) := by decide +kernel
theorem dX9_readFlight_11 : decode cX9_readFlight 11 = .ok (.bipush 59, 2) := by decide +kernel
theorem dX9_readFlight_13 : decode cX9_readFlight 13 = .ok (.invokevirtual 202, 3) := by decide +kernel
theorem dX9_readFlight_16 : decode cX9_readFlight 16 = .ok (.istore_n 1, 1) := by decide +kernel
theorem dX9_readFlight_17 : decode cX9_readFlight 17 = .ok (.goto (-15), 3) := by decide +kernel
theorem dX9_readFlight_20 : decode cX9_readFlight 20 = .ok (.aload_n 0, 1) := by decide +kernel
theorem dX9_readFlight_21 : decode cX9_readFlight 21 = .ok (.getfield 80, 3) := by decide +kernel
theorem dX9_readFlight_24 : decode cX9_readFlight 24 = .ok (.iconst 1, 1) := by decide +kernel
theorem dX9_readFlight_25 : decode cX9_readFlight 25 = .ok (.if_icmp .eq 8, 3) := by decide +kernel
theorem dX9_readFlight_28 : decode cX9_readFlight 28 = .ok (.aload_n 0, 1) := by decide +kernel
theorem dX9_readFlight_29 : decode cX9_readFlight 29 = .ok (.iconst 1, 1) := by decide +kernel
theorem dX9_readFlight_30 : decode cX9_readFlight 30 = .ok (.invokevirtual 126, 3) := by decide +kernel
theorem dX9_readFlight_33 : decode cX9_readFlight 33 = .ok (.aload_n 0, 1) := by decide +kernel
theorem dX9_readFlight_34 : decode cX9_readFlight 34 = .ok (.getfield 174, 3) := by decide +kernel
theorem dX9_readFlight_37 : decode cX9_readFlight 37 = .ok (.getfield 205, 3) := by decide +kernel
theorem dX9_readFlight_40 : decode cX9_readFlight 40 = .ok (.ifCond .eq 34, 3) := by decide +kernel
theorem dX9_readFlight_43 : decode cX9_readFlight 43 = .ok (.aload_n 0, 1) := by decide +kernel
theorem dX9_readFlight_44 : decode cX9_readFlight 44 = .ok (.getfield 174, 3) := by decide +kernel
theorem dX9_readFlight_47 : decode cX9_readFlight 47 = .ok (.getfield 208, 3) := by decide +kernel
theorem dX9_readFlight_50 : decode cX9_readFlight 50 = .ok (.iconst (-1), 1) := by decide +kernel
theorem dX9_readFlight_51 : decode cX9_readFlight 51 = .ok (.if_icmp .eq 23, 3) := by decide +kernel
theorem dX9_readFlight_54 : decode cX9_readFlight 54 = .ok (.aload_n 0, 1) := by decide +kernel
theorem dX9_readFlight_55 : decode cX9_readFlight 55 = .ok (.getfield 174, 3) := by decide +kernel
theorem dX9_readFlight_58 : decode cX9_readFlight 58 = .ok (.getfield 211, 3) := by decide +kernel
theorem dX9_readFlight_61 : decode cX9_readFlight 61 = .ok (.ifCond .eq 13, 3) := by decide +kernel
theorem dX9_readFlight_64 : decode cX9_readFlight 64 = .ok (.aload_n 0, 1) := by decide +kernel
theorem dX9_readFlight_65 : decode cX9_readFlight 65 = .ok (.getfield 174, 3) := by decide +kernel
theorem dX9_readFlight_68 : decode cX9_readFlight 68 = .ok (.getfield 214, 3) := by decide +kernel
theorem dX9_readFlight_71 : decode cX9_readFlight 71 = .ok (.ifCond .ne 9, 3) := by decide +kernel
theorem dX9_readFlight_74 : decode cX9_readFlight 74 = .ok (.aload_n 0, 1) := by decide +kernel
theorem dX9_readFlight_75 : decode cX9_readFlight 75 = .ok (.bipush 6, 2) := by decide +kernel
theorem dX9_readFlight_77 : decode cX9_readFlight 77 = .ok (.invokevirtual 126, 3) := by decide +kernel
theorem dX9_readFlight_80 : decode cX9_readFlight 80 = .ok (.return_, 1) := by decide +kernel
theorem dX9_readLine_0 : decode cX9_readLine 0 = .ok (.aload_n 0, 1) := by decide +kernel
theorem dX9_readLine_1 : decode cX9_readLine 1 = .ok (.ldc 142, 2) := by decide +kernel
theorem dX9_readLine_3 : decode cX9_readLine 3 = .ok (.invokevirtual 119, 3) := by decide +kernel
theorem dX9_readLine_6 : decode cX9_readLine 6 = .ok (.ifCond .eq 10, 3) := by decide +kernel
theorem dX9_readLine_9 : decode cX9_readLine 9 = .ok (.aload_n 0, 1) := by decide +kernel
theorem dX9_readLine_10 : decode cX9_readLine 10 = .ok (.invokevirtual 217, 3) := by decide +kernel
theorem dX9_readLine_13 : decode cX9_readLine 13 = .ok (.goto 200, 3) := by decide +kernel
theorem dX9_readLine_16 : decode cX9_readLine 16 = .ok (.aload_n 0, 1) := by decide +kernel
theorem dX9_readLine_17 : decode cX9_readLine 17 = .ok (.ldc 144, 2) := by decide +kernel
theorem dX9_readLine_19 : decode cX9_readLine 19 = .ok (.invokevirtual 119, 3) := by decide +kernel
theorem dX9_readLine_22 : decode cX9_readLine 22 = .ok (.ifCond .eq 10, 3) := by decide +kernel
theorem dX9_readLine_25 : decode cX9_readLine 25 = .ok (.aload_n 0, 1) := by decide +kernel
theorem dX9_readLine_26 : decode cX9_readLine 26 = .ok (.invokevirtual 220, 3) := by decide +kernel
theorem dX9_readLine_29 : decode cX9_readLine 29 = .ok (.goto 184, 3) := by decide +kernel
theorem dX9_readLine_32 : decode cX9_readLine 32 = .ok (.aload_n 0, 1) := by decide +kernel
theorem dX9_readLine_33 : decode cX9_readLine 33 = .ok (.ldc 146, 2) := by decide +kernel
theorem dX9_readLine_35 : decode cX9_readLine 35 = .ok (.invokevirtual 119, 3) := by decide +kernel
theorem dX9_readLine_38 : decode cX9_readLine 38 = .ok (.ifCond .eq 10, 3) := by decide +kernel
theorem dX9_readLine_41 : decode cX9_readLine 41 = .ok (.aload_n 0, 1) := by decide +kernel
theorem dX9_readLine_42 : decode cX9_readLine 42 = .ok (.invokevirtual 223, 3) := by decide +kernel
theorem dX9_readLine_45 : decode cX9_readLine 45 = .ok (.goto 168, 3) := by decide +kernel
theorem dX9_readLine_48 : decode cX9_readLine 48 = .ok (.aload_n 0, 1) := by decide +kernel
theorem dX9_readLine_49 : decode cX9_readLine 49 = .ok (.ldc 148, 2) := by decide +kernel
theorem dX9_readLine_51 : decode cX9_readLine 51 = .ok (.invokevirtual 119, 3) := by decide +kernel
theorem dX9_readLine_54 : decode cX9_readLine 54 = .ok (.ifCond .eq 10, 3) := by decide +kernel
theorem dX9_readLine_57 : decode cX9_readLine 57 = .ok (.aload_n 0, 1) := by decide +kernel
theorem dX9_readLine_58 : decode cX9_readLine 58 = .ok (.invokevirtual 226, 3) := by decide +kernel
theorem dX9_readLine_61 : decode cX9_readLine 61 = .ok (.goto 152, 3) := by decide +kernel
theorem dX9_readLine_64 : decode cX9_readLine 64 = .ok (.aload_n 0, 1) := by decide +kernel
theorem dX9_readLine_65 : decode cX9_readLine 65 = .ok (.ldc 150, 2) := by decide +kernel
theorem dX9_readLine_67 : decode cX9_readLine 67 = .ok (.invokevirtual 119, 3) := by decide +kernel
theorem dX9_readLine_70 : decode cX9_readLine 70 = .ok (.ifCond .eq 10, 3) := by decide +kernel
theorem dX9_readLine_73 : decode cX9_readLine 73 = .ok (.aload_n 0, 1) := by decide +kernel
theorem dX9_readLine_74 : decode cX9_readLine 74 = .ok (.invokevirtual 229, 3) := by decide +kernel
theorem dX9_readLine_77 : decode cX9_readLine 77 = .ok (.goto 136, 3) := by decide +kernel
theorem dX9_readLine_80 : decode cX9_readLine 80 = .ok (.aload_n 0, 1) := by decide +kernel
theorem dX9_readLine_81 : decode cX9_readLine 81 = .ok (.ldc 152, 2) := by decide +kernel
theorem dX9_readLine_83 : decode cX9_readLine 83 = .ok (.invokevirtual 119, 3) := by decide +kernel
theorem dX9_readLine_86 : decode cX9_readLine 86 = .ok (.ifCond .eq 10, 3) := by decide +kernel
theorem dX9_readLine_89 : decode cX9_readLine 89 = .ok (.aload_n 0, 1) := by decide +kernel
theorem dX9_readLine_90 : decode cX9_readLine 90 = .ok (.invokevirtual 232, 3) := by decide +kernel
theorem dX9_readLine_93 : decode cX9_readLine 93 = .ok (.goto 120, 3) := by decide +kernel
theorem dX9_readLine_96 : decode cX9_readLine 96 = .ok (.aload_n 0, 1) := by decide +kernel
theorem dX9_readLine_97 : decode cX9_readLine 97 = .ok (.ldc 154, 2) := by decide +kernel
theorem dX9_readLine_99 : decode cX9_readLine 99 = .ok (.invokevirtual 119, 3) := by decide +kernel
theorem dX9_readLine_102 : decode cX9_readLine 102 = .ok (.ifCond .eq 10, 3) := by decide +kernel
theorem dX9_readLine_105 : decode cX9_readLine 105 = .ok (.aload_n 0, 1) := by decide +kernel
theorem dX9_readLine_106 : decode cX9_readLine 106 = .ok (.invokevirtual 235, 3) := by decide +kernel
theorem dX9_readLine_109 : decode cX9_readLine 109 = .ok (.goto 104, 3) := by decide +kernel
theorem dX9_readLine_112 : decode cX9_readLine 112 = .ok (.aload_n 0, 1) := by decide +kernel
theorem dX9_readLine_113 : decode cX9_readLine 113 = .ok (.ldc 156, 2) := by decide +kernel
theorem dX9_readLine_115 : decode cX9_readLine 115 = .ok (.invokevirtual 119, 3) := by decide +kernel
theorem dX9_readLine_118 : decode cX9_readLine 118 = .ok (.ifCond .eq 10, 3) := by decide +kernel
theorem dX9_readLine_121 : decode cX9_readLine 121 = .ok (.aload_n 0, 1) := by decide +kernel
theorem dX9_readLine_122 : decode cX9_readLine 122 = .ok (.invokevirtual 238, 3) := by decide +kernel
theorem dX9_readLine_125 : decode cX9_readLine 125 = .ok (.goto 88, 3) := by decide +kernel
theorem dX9_readLine_128 : decode cX9_readLine 128 = .ok (.aload_n 0, 1) := by decide +kernel
theorem dX9_readLine_129 : decode cX9_readLine 129 = .ok (.ldc 158, 2) := by decide +kernel
theorem dX9_readLine_131 : decode cX9_readLine 131 = .ok (.invokevirtual 119, 3) := by decide +kernel
theorem dX9_readLine_134 : decode cX9_readLine 134 = .ok (.ifCond .eq 10, 3) := by decide +kernel
theorem dX9_readLine_137 : decode cX9_readLine 137 = .ok (.aload_n 0, 1) := by decide +kernel
theorem dX9_readLine_138 : decode cX9_readLine 138 = .ok (.invokevirtual 241, 3) := by decide +kernel
theorem dX9_readLine_141 : decode cX9_readLine 141 = .ok (.goto 72, 3) := by decide +kernel
theorem dX9_readLine_144 : decode cX9_readLine 144 = .ok (.aload_n 0, 1) := by decide +kernel
theorem dX9_readLine_145 : decode cX9_readLine 145 = .ok (.ldc 160, 2) := by decide +kernel
theorem dX9_readLine_147 : decode cX9_readLine 147 = .ok (.invokevirtual 119, 3) := by decide +kernel
theorem dX9_readLine_150 : decode cX9_readLine 150 = .ok (.ifCond .eq 10, 3) := by decide +kernel
theorem dX9_readLine_153 : decode cX9_readLine 153 = .ok (.aload_n 0, 1) := by decide +kernel
theorem dX9_readLine_154 : decode cX9_readLine 154 = .ok (.invokevirtual 244, 3) := by decide +kernel
theorem dX9_readLine_157 : decode cX9_readLine 157 = .ok (.goto 56, 3) := by decide +kernel
theorem dX9_readLine_160 : decode cX9_readLine 160 = .ok (.aload_n 0, 1) := by decide +kernel
theorem dX9_readLine_161 : decode cX9_readLine 161 = .ok (.ldc 162, 2) := by decide +kernel
theorem dX9_readLine_163 : decode cX9_readLine 163 = .ok (.invokevirtual 119, 3) := by decide +kernel
theorem dX9_readLine_166 : decode cX9_readLine 166 = .ok (.ifCond .eq 10, 3) := by decide +kernel
theorem dX9_readLine_169 : decode cX9_readLine 169 = .ok (.aload_n 0, 1) := by decide +kernel
theorem dX9_readLine_170 : decode cX9_readLine 170 = .ok (.invokevirtual 247, 3) := by decide +kernel
theorem dX9_readLine_173 : decode cX9_readLine 173 = .ok (.goto 40, 3) := by decide +kernel
theorem dX9_readLine_176 : decode cX9_readLine 176 = .ok (.aload_n 0, 1) := by decide +kernel
theorem dX9_readLine_177 : decode cX9_readLine 177 = .ok (.ldc 164, 2) := by decide +kernel
theorem dX9_readLine_179 : decode cX9_readLine 179 = .ok (.invokevirtual 119, 3) := by decide +kernel
theorem dX9_readLine_182 : decode cX9_readLine 182 = .ok (.ifCond .eq 10, 3) := by decide +kernel
theorem dX9_readLine_185 : decode cX9_readLine 185 = .ok (.aload_n 0, 1) := by decide +kernel
theorem dX9_readLine_186 : decode cX9_readLine 186 = .ok (.invokevirtual 250, 3) := by decide +kernel
theorem dX9_readLine_189 : decode cX9_readLine 189 = .ok (.goto 24, 3) := by decide +kernel
theorem dX9_readLine_192 : decode cX9_readLine 192 = .ok (.aload_n 0, 1) := by decide +kernel
theorem dX9_readLine_193 : decode cX9_readLine 193 = .ok (.ldc 166, 2) := by decide +kernel
theorem dX9_readLine_195 : decode cX9_readLine 195 = .ok (.invokevirtual 119, 3) := by decide +kernel
theorem dX9_readLine_198 : decode cX9_readLine 198 = .ok (.ifCond .eq 10, 3) := by decide +kernel
theorem dX9_readLine_201 : decode cX9_readLine 201 = .ok (.aload_n 0, 1) := by decide +kernel
theorem dX9_readLine_202 : decode cX9_readLine 202 = .ok (.invokevirtual 253, 3) := by decide +kernel
theorem dX9_readLine_205 : decode cX9_readLine 205 = .ok (.goto 8, 3) := by decide +kernel
theorem dX9_readLine_208 : decode cX9_readLine 208 = .ok (.aload_n 0, 1) := by decide +kernel
theorem dX9_readLine_209 : decode cX9_readLine 209 = .ok (.iconst 1, 1) := by decide +kernel
theorem dX9_readLine_210 : decode cX9_readLine 210 = .ok (.invokevirtual 126, 3) := by decide +kernel
theorem dX9_readLine_213 : decode cX9_readLine 213 = .ok (.return_, 1) := by decide +kernel
theorem dX9_readCabin_0 : decode cX9_readCabin 0 = .ok (.aload_n 0, 1) := by decide +kernel
theorem dX9_readCabin_1 : decode cX9_readCabin 1 = .ok (.getfield 174, 3) := by decide +kernel
theorem dX9_readCabin_4 : decode cX9_readCabin 4 = .ok (.getfield 205, 3) := by decide +kernel
theorem dX9_readCabin_7 : decode cX9_readCabin 7 = .ok (.ifCond .le 8, 3) := by decide +kernel
theorem dX9_readCabin_10 : decode cX9_readCabin 10 = .ok (.aload_n 0, 1) := by decide +kernel
theorem dX9_readCabin_11 : decode cX9_readCabin 11 = .ok (.iconst 3, 1) := by decide +kernel
theorem dX9_readCabin_12 : decode cX9_readCabin 12 = .ok (.invokevirtual 126, 3) := by decide +kernel
theorem dX9_readCabin_15 : decode cX9_readCabin 15 = .ok (.aload_n 0, 1) := by decide +kernel
theorem dX9_readCabin_16 : decode cX9_readCabin 16 = .ok (.invokevirtual 123, 3) := by decide +kernel
theorem dX9_readCabin_19 : decode cX9_readCabin 19 = .ok (.aload_n 0, 1) := by decide +kernel
theorem dX9_readCabin_20 : decode cX9_readCabin 20 = .ok (.ldc_w 256, 3) := by decide +kernel
theorem dX9_readCabin_23 : decode cX9_readCabin 23 = .ok (.iconst 2, 1) := by decide +kernel
theorem dX9_readCabin_24 : decode cX9_readCabin 24 = .ok (.bipush 40, 2) := by decide +kernel
theorem dX9_readCabin_26 : decode cX9_readCabin 26 = .ok (.invokevirtual 257, 3) := by decide +kernel
theorem dX9_readCabin_29 : decode cX9_readCabin 29 = .ok (.istore_n 1, 1) := by decide +kernel
theorem dX9_readCabin_30 : decode cX9_readCabin 30 = .ok (.aload_n 0, 1) := by decide +kernel
theorem dX9_readCabin_31 : decode cX9_readCabin 31 = .ok (.getfield 174, 3) := by decide +kernel
theorem dX9_readCabin_34 : decode cX9_readCabin 34 = .ok (.aload_n 0, 1) := by decide +kernel
theorem dX9_readCabin_35 : decode cX9_readCabin 35 = .ok (.ldc_w 261, 3) := by decide +kernel
theorem dX9_readCabin_38 : decode cX9_readCabin 38 = .ok (.iconst 0, 1) := by decide +kernel
theorem dX9_readCabin_39 : decode cX9_readCabin 39 = .ok (.bipush 60, 2) := by decide +kernel
theorem dX9_readCabin_41 : decode cX9_readCabin 41 = .ok (.invokevirtual 257, 3) := by decide +kernel
theorem dX9_readCabin_44 : decode cX9_readCabin 44 = .ok (.putfield 263, 3) := by decide +kernel
theorem dX9_readCabin_47 : decode cX9_readCabin 47 = .ok (.aload_n 0, 1) := by decide +kernel
theorem dX9_readCabin_48 : decode cX9_readCabin 48 = .ok (.getfield 174, 3) := by decide +kernel
theorem dX9_readCabin_51 : decode cX9_readCabin 51 = .ok (.aload_n 0, 1) := by decide +kernel
theorem dX9_readCabin_52 : decode cX9_readCabin 52 = .ok (.ldc_w 265, 3) := by decide +kernel
theorem dX9_readCabin_55 : decode cX9_readCabin 55 = .ok (.iconst 1, 1) := by decide +kernel
theorem dX9_readCabin_56 : decode cX9_readCabin 56 = .ok (.bipush 60, 2) := by decide +kernel
theorem dX9_readCabin_58 : decode cX9_readCabin 58 = .ok (.invokevirtual 257, 3) := by decide +kernel
theorem dX9_readCabin_61 : decode cX9_readCabin 61 = .ok (.putfield 267, 3) := by decide +kernel
theorem dX9_readCabin_64 : decode cX9_readCabin 64 = .ok (.aload_n 0, 1) := by decide +kernel
theorem dX9_readCabin_65 : decode cX9_readCabin 65 = .ok (.getfield 80, 3) := by decide +kernel
theorem dX9_readCabin_68 : decode cX9_readCabin 68 = .ok (.iconst 5, 1) := by decide +kernel
theorem dX9_readCabin_69 : decode cX9_readCabin 69 = .ok (.if_icmp .eq 11, 3) := by decide +kernel
theorem dX9_readCabin_72 : decode cX9_readCabin 72 = .ok (.aload_n 0, 1) := by decide +kernel
theorem dX9_readCabin_73 : decode cX9_readCabin 73 = .ok (.getfield 174, 3) := by decide +kernel
theorem dX9_readCabin_76 : decode cX9_readCabin 76 = .ok (.iload_n 1, 1) := by decide +kernel
theorem dX9_readCabin_77 : decode cX9_readCabin 77 = .ok (.putfield 205, 3) := by decide +kernel
theorem dX9_readCabin_80 : decode cX9_readCabin 80 = .ok (.return_, 1) := by decide +kernel
theorem dX9_readHeat_0 : decode cX9_readHeat 0 = .ok (.aload_n 0, 1) := by decide +kernel
theorem dX9_readHeat_1 : decode cX9_readHeat 1 = .ok (.getfield 174, 3) := by decide +kernel
theorem dX9_readHeat_4 : decode cX9_readHeat 4 = .ok (.getfield 208, 3) := by decide +kernel
theorem dX9_readHeat_7 : decode cX9_readHeat 7 = .ok (.iconst (-1), 1) := by decide +kernel
theorem dX9_readHeat_8 : decode cX9_readHeat 8 = .ok (.if_icmp .eq 8, 3) := by decide +kernel
theorem dX9_readHeat_11 : decode cX9_readHeat 11 = .ok (.aload_n 0, 1) := by decide +kernel
theorem dX9_readHeat_12 : decode cX9_readHeat 12 = .ok (.iconst 3, 1) := by decide +kernel
theorem dX9_readHeat_13 : decode cX9_readHeat 13 = .ok (.invokevirtual 126, 3) := by decide +kernel
theorem dX9_readHeat_16 : decode cX9_readHeat 16 = .ok (.aload_n 0, 1) := by decide +kernel
theorem dX9_readHeat_17 : decode cX9_readHeat 17 = .ok (.invokevirtual 123, 3) := by decide +kernel
theorem dX9_readHeat_20 : decode cX9_readHeat 20 = .ok (.aload_n 0, 1) := by decide +kernel
theorem dX9_readHeat_21 : decode cX9_readHeat 21 = .ok (.ldc_w 269, 3) := by decide +kernel
theorem dX9_readHeat_24 : decode cX9_readHeat 24 = .ok (.iconst 0, 1) := by decide +kernel
theorem dX9_readHeat_25 : decode cX9_readHeat 25 = .ok (.bipush 90, 2) := by decide +kernel
theorem dX9_readHeat_27 : decode cX9_readHeat 27 = .ok (.invokevirtual 257, 3) := by decide +kernel
theorem dX9_readHeat_30 : decode cX9_readHeat 30 = .ok (.istore_n 1, 1) := by decide +kernel
theorem dX9_readHeat_31 : decode cX9_readHeat 31 = .ok (.aload_n 0, 1) := by decide +kernel
theorem dX9_readHeat_32 : decode cX9_readHeat 32 = .ok (.getfield 174, 3) := by decide +kernel
theorem dX9_readHeat_35 : decode cX9_readHeat 35 = .ok (.aload_n 0, 1) := by decide +kernel
theorem dX9_readHeat_36 : decode cX9_readHeat 36 = .ok (.ldc_w 270, 3) := by decide +kernel
theorem dX9_readHeat_39 : decode cX9_readHeat 39 = .ok (.iconst 0, 1) := by decide +kernel
theorem dX9_readHeat_40 : decode cX9_readHeat 40 = .ok (.bipush 50, 2) := by decide +kernel
theorem dX9_readHeat_42 : decode cX9_readHeat 42 = .ok (.invokevirtual 257, 3) := by decide +kernel
theorem dX9_readHeat_45 : decode cX9_readHeat 45 = .ok (.putfield 272, 3) := by decide +kernel
theorem dX9_readHeat_48 : decode cX9_readHeat 48 = .ok (.aload_n 0, 1) := by decide +kernel
theorem dX9_readHeat_49 : decode cX9_readHeat 49 = .ok (.getfield 80, 3) := by decide +kernel
theorem dX9_readHeat_52 : decode cX9_readHeat 52 = .ok (.iconst 5, 1) := by decide +kernel
theorem dX9_readHeat_53 : decode cX9_readHeat 53 = .ok (.if_icmp .eq 11, 3) := by decide +kernel
theorem dX9_readHeat_56 : decode cX9_readHeat 56 = .ok (.aload_n 0, 1) := by decide +kernel
theorem dX9_readHeat_57 : decode cX9_readHeat 57 = .ok (.getfield 174, 3) := by decide +kernel
theorem dX9_readHeat_60 : decode cX9_readHeat 60 = .ok (.iload_n 1, 1) := by decide +kernel
theorem dX9_readHeat_61 : decode cX9_readHeat 61 = .ok (.putfield 208, 3) := by decide +kernel
theorem dX9_readHeat_64 : decode cX9_readHeat 64 = .ok (.return_, 1) := by decide +kernel
theorem dX9_readKind_0 : decode cX9_readKind 0 = .ok (.aload_n 0, 1) := by decide +kernel
theorem dX9_readKind_1 : decode cX9_readKind 1 = .ok (.aload_n 0, 1) := by decide +kernel
theorem dX9_readKind_2 : decode cX9_readKind 2 = .ok (.getfield 174, 3) := by decide +kernel
theorem dX9_readKind_5 : decode cX9_readKind 5 = .ok (.getfield 211, 3) := by decide +kernel
theorem dX9_readKind_8 : decode cX9_readKind 8 = .ok (.iconst 4, 1) := by decide +kernel
theorem dX9_readKind_9 : decode cX9_readKind 9 = .ok (.invokevirtual 274, 3) := by decide +kernel
theorem dX9_readKind_12 : decode cX9_readKind 12 = .ok (.aload_n 0, 1) := by decide +kernel
theorem dX9_readKind_13 : decode cX9_readKind 13 = .ok (.iconst 0, 1) := by decide +kernel
theorem dX9_readKind_14 : decode cX9_readKind 14 = .ok (.aload_n 0, 1) := by decide +kernel
theorem dX9_readKind_15 : decode cX9_readKind 15 = .ok (.getfield 174, 3) := by decide +kernel
theorem dX9_readKind_18 : decode cX9_readKind 18 = .ok (.getfield 211, 3) := by decide +kernel
theorem dX9_readKind_21 : decode cX9_readKind 21 = .ok (.invokevirtual 278, 3) := by decide +kernel
theorem dX9_readKind_24 : decode cX9_readKind 24 = .ok (.aload_n 0, 1) := by decide +kernel
theorem dX9_readKind_25 : decode cX9_readKind 25 = .ok (.ldc_w 281, 3) := by decide +kernel
theorem dX9_readKind_28 : decode cX9_readKind 28 = .ok (.iconst 1, 1) := by decide +kernel
theorem dX9_readKind_29 : decode cX9_readKind 29 = .ok (.bipush 8, 2) := by decide +kernel
theorem dX9_readKind_31 : decode cX9_readKind 31 = .ok (.invokevirtual 257, 3) := by decide +kernel
theorem dX9_readKind_34 : decode cX9_readKind 34 = .ok (.istore_n 1, 1) := by decide +kernel
theorem dX9_readKind_35 : decode cX9_readKind 35 = .ok (.aload_n 0, 1) := by decide +kernel
theorem dX9_readKind_36 : decode cX9_readKind 36 = .ok (.ldc_w 283, 3) := by decide +kernel
theorem dX9_readKind_39 : decode cX9_readKind 39 = .ok (.iconst 0, 1) := by decide +kernel
theorem dX9_readKind_40 : decode cX9_readKind 40 = .ok (.bipush 99, 2) := by decide +kernel
theorem dX9_readKind_42 : decode cX9_readKind 42 = .ok (.invokevirtual 257, 3) := by decide +kernel
theorem dX9_readKind_45 : decode cX9_readKind 45 = .ok (.istore_n 2, 1) := by decide +kernel
theorem dX9_readKind_46 : decode cX9_readKind 46 = .ok (.aload_n 0, 1) := by decide +kernel
theorem dX9_readKind_47 : decode cX9_readKind 47 = .ok (.getfield 80, 3) := by decide +kernel
theorem dX9_readKind_50 : decode cX9_readKind 50 = .ok (.iconst 5, 1) := by decide +kernel
theorem dX9_readKind_51 : decode cX9_readKind 51 = .ok (.if_icmp .ne 4, 3) := by decide +kernel
theorem dX9_readKind_54 : decode cX9_readKind 54 = .ok (.return_, 1) := by decide +kernel
theorem dX9_readKind_55 : decode cX9_readKind 55 = .ok (.aload_n 0, 1) := by decide +kernel
theorem dX9_readKind_56 : decode cX9_readKind 56 = .ok (.getfield 174, 3) := by decide +kernel
theorem dX9_readKind_59 : decode cX9_readKind 59 = .ok (.getfield 285, 3) := by decide +kernel
theorem dX9_readKind_62 : decode cX9_readKind 62 = .ok (.aload_n 0, 1) := by decide +kernel
theorem dX9_readKind_63 : decode cX9_readKind 63 = .ok (.getfield 174, 3) := by decide +kernel
theorem dX9_readKind_66 : decode cX9_readKind 66 = .ok (.getfield 211, 3) := by decide +kernel
theorem dX9_readKind_69 : decode cX9_readKind 69 = .ok (.iload_n 1, 1) := by decide +kernel
theorem dX9_readKind_70 : decode cX9_readKind 70 = .ok (.iastore, 1) := by decide +kernel
theorem dX9_readKind_71 : decode cX9_readKind 71 = .ok (.aload_n 0, 1) := by decide +kernel
theorem dX9_readKind_72 : decode cX9_readKind 72 = .ok (.getfield 174, 3) := by decide +kernel
theorem dX9_readKind_75 : decode cX9_readKind 75 = .ok (.getfield 287, 3) := by decide +kernel
theorem dX9_readKind_78 : decode cX9_readKind 78 = .ok (.aload_n 0, 1) := by decide +kernel
theorem dX9_readKind_79 : decode cX9_readKind 79 = .ok (.getfield 174, 3) := by decide +kernel
theorem dX9_readKind_82 : decode cX9_readKind 82 = .ok (.getfield 211, 3) := by decide +kernel
theorem dX9_readKind_85 : decode cX9_readKind 85 = .ok (.iload_n 2, 1) := by decide +kernel
theorem dX9_readKind_86 : decode cX9_readKind 86 = .ok (.iastore, 1) := by decide +kernel
theorem dX9_readKind_87 : decode cX9_readKind 87 = .ok (.aload_n 0, 1) := by decide +kernel
theorem dX9_readKind_88 : decode cX9_readKind 88 = .ok (.getfield 174, 3) := by decide +kernel
theorem dX9_readKind_91 : decode cX9_readKind 91 = .ok (.dup, 1) := by decide +kernel
theorem dX9_readKind_92 : decode cX9_readKind 92 = .ok (.getfield 211, 3) := by decide +kernel
theorem dX9_readKind_95 : decode cX9_readKind 95 = .ok (.iconst 1, 1) := by decide +kernel
theorem dX9_readKind_96 : decode cX9_readKind 96 = .ok (.iadd, 1) := by decide +kernel
theorem dX9_readKind_97 : decode cX9_readKind 97 = .ok (.putfield 211, 3) := by decide +kernel
theorem dX9_readKind_100 : decode cX9_readKind 100 = .ok (.return_, 1) := by decide +kernel
theorem dX9_readBatch_0 : decode cX9_readBatch 0 = .ok (.aload_n 0, 1) := by decide +kernel
theorem dX9_readBatch_1 : decode cX9_readBatch 1 = .ok (.aload_n 0, 1) := by decide +kernel
theorem dX9_readBatch_2 : decode cX9_readBatch 2 = .ok (.getfield 174, 3) := by decide +kernel
theorem dX9_readBatch_5 : decode cX9_readBatch 5 = .ok (.getfield 289, 3) := by decide +kernel
theorem dX9_readBatch_8 : decode cX9_readBatch 8 = .ok (.bipush 6, 2) := by decide +kernel
theorem dX9_readBatch_10 : decode cX9_readBatch 10 = .ok (.invokevirtual 274, 3) := by decide +kernel
theorem dX9_readBatch_13 : decode cX9_readBatch 13 = .ok (.aload_n 0, 1) := by decide +kernel
theorem dX9_readBatch_14 : decode cX9_readBatch 14 = .ok (.iconst 0, 1) := by decide +kernel
theorem dX9_readBatch_15 : decode cX9_readBatch 15 = .ok (.invokevirtual 292, 3) := by decide +kernel
theorem dX9_readBatch_18 : decode cX9_readBatch 18 = .ok (.istore_n 1, 1) := by decide +kernel
theorem dX9_readBatch_19 : decode cX9_readBatch 19 = .ok (.aload_n 0, 1) := by decide +kernel
theorem dX9_readBatch_20 : decode cX9_readBatch 20 = .ok (.ldc_w 295, 3) := by decide +kernel
theorem dX9_readBatch_23 : decode cX9_readBatch 23 = .ok (.iconst 0, 1) := by decide +kernel
theorem dX9_readBatch_24 : decode cX9_readBatch 24 = .ok (.sipush 300, 3) := by decide +kernel
theorem dX9_readBatch_27 : decode cX9_readBatch 27 = .ok (.invokevirtual 257, 3) := by decide +kernel
theorem dX9_readBatch_30 : decode cX9_readBatch 30 = .ok (.istore_n 2, 1) := by decide +kernel
theorem dX9_readBatch_31 : decode cX9_readBatch 31 = .ok (.aload_n 0, 1) := by decide +kernel
theorem dX9_readBatch_32 : decode cX9_readBatch 32 = .ok (.getfield 80, 3) := by decide +kernel
theorem dX9_readBatch_35 : decode cX9_readBatch 35 = .ok (.iconst 5, 1) := by decide +kernel
theorem dX9_readBatch_36 : decode cX9_readBatch 36 = .ok (.if_icmp .ne 4, 3) := by decide +kernel
theorem dX9_readBatch_39 : decode cX9_readBatch 39 = .ok (.return_, 1) := by decide +kernel
theorem dX9_readBatch_40 : decode cX9_readBatch 40 = .ok (.aload_n 0, 1) := by decide +kernel
theorem dX9_readBatch_41 : decode cX9_readBatch 41 = .ok (.getfield 174, 3) := by decide +kernel
theorem dX9_readBatch_44 : decode cX9_readBatch 44 = .ok (.getfield 296, 3) := by decide +kernel
theorem dX9_readBatch_47 : decode cX9_readBatch 47 = .ok (.aload_n 0, 1) := by decide +kernel
theorem dX9_readBatch_48 : decode cX9_readBatch 48 = .ok (.getfield 174, 3) := by decide +kernel
theorem dX9_readBatch_51 : decode cX9_readBatch 51 = .ok (.getfield 289, 3) := by decide +kernel
theorem dX9_readBatch_54 : decode cX9_readBatch 54 = .ok (.iload_n 1, 1) := by decide +kernel
theorem dX9_readBatch_55 : decode cX9_readBatch 55 = .ok (.iastore, 1) := by decide +kernel
theorem dX9_readBatch_56 : decode cX9_readBatch 56 = .ok (.aload_n 0, 1) := by decide +kernel
theorem dX9_readBatch_57 : decode cX9_readBatch 57 = .ok (.getfield 174, 3) := by decide +kernel
theorem dX9_readBatch_60 : decode cX9_readBatch 60 = .ok (.getfield 299, 3) := by decide +kernel
theorem dX9_readBatch_63 : decode cX9_readBatch 63 = .ok (.aload_n 0, 1) := by decide +kernel
theorem dX9_readBatch_64 : decode cX9_readBatch 64 = .ok (.getfield 174, 3) := by decide +kernel
theorem dX9_readBatch_67 : decode cX9_readBatch 67 = .ok (.getfield 289, 3) := by decide +kernel
theorem dX9_readBatch_70 : decode cX9_readBatch 70 = .ok (.iload_n 2, 1) := by decide +kernel
theorem dX9_readBatch_71 : decode cX9_readBatch 71 = .ok (.iastore, 1) := by decide +kernel
theorem dX9_readBatch_72 : decode cX9_readBatch 72 = .ok (.aload_n 0, 1) := by decide +kernel
theorem dX9_readBatch_73 : decode cX9_readBatch 73 = .ok (.getfield 174, 3) := by decide +kernel
theorem dX9_readBatch_76 : decode cX9_readBatch 76 = .ok (.dup, 1) := by decide +kernel
theorem dX9_readBatch_77 : decode cX9_readBatch 77 = .ok (.getfield 289, 3) := by decide +kernel
theorem dX9_readBatch_80 : decode cX9_readBatch 80 = .ok (.iconst 1, 1) := by decide +kernel
theorem dX9_readBatch_81 : decode cX9_readBatch 81 = .ok (.iadd, 1) := by decide +kernel
theorem dX9_readBatch_82 : decode cX9_readBatch 82 = .ok (.putfield 289, 3) := by decide +kernel
theorem dX9_readBatch_85 : decode cX9_readBatch 85 = .ok (.return_, 1) := by decide +kernel
theorem dX9_readTook_0 : decode cX9_readTook 0 = .ok (.aload_n 0, 1) := by decide +kernel
theorem dX9_readTook_1 : decode cX9_readTook 1 = .ok (.aload_n 0, 1) := by decide +kernel
theorem dX9_readTook_2 : decode cX9_readTook 2 = .ok (.getfield 174, 3) := by decide +kernel
theorem dX9_readTook_5 : decode cX9_readTook 5 = .ok (.getfield 302, 3) := by decide +kernel
theorem dX9_readTook_8 : decode cX9_readTook 8 = .ok (.bipush 6, 2) := by decide +kernel
theorem dX9_readTook_10 : decode cX9_readTook 10 = .ok (.invokevirtual 274, 3) := by decide +kernel
theorem dX9_readTook_13 : decode cX9_readTook 13 = .ok (.aload_n 0, 1) := by decide +kernel
theorem dX9_readTook_14 : decode cX9_readTook 14 = .ok (.iconst 0, 1) := by decide +kernel
theorem dX9_readTook_15 : decode cX9_readTook 15 = .ok (.invokevirtual 292, 3) := by decide +kernel
theorem dX9_readTook_18 : decode cX9_readTook 18 = .ok (.istore_n 1, 1) := by decide +kernel
