theorem dX2_init_0 : decode cX2_init 0 = .ok (.aload_n 0, 1) := by decide +kernel
theorem dX2_init_1 : decode cX2_init 1 = .ok (.invokespecial 3, 3) := by decide +kernel
theorem dX2_init_4 : decode cX2_init 4 = .ok (.aload_n 0, 1) := by decide +kernel
theorem dX2_init_5 : decode cX2_init 5 = .ok (.bipush 11, 2) := by decide +kernel
theorem dX2_init_7 : decode cX2_init 7 = .ok (.newarray .long, 2) := by decide +kernel
theorem dX2_init_9 : decode cX2_init 9 = .ok (.putfield 11, 3) := by decide +kernel
theorem dX2_init_12 : decode cX2_init 12 = .ok (.return_, 1) := by decide +kernel
theorem dX2_weigh_0 : decode cX2_weigh 0 = .ok (.aload_n 0, 1) := by decide +kernel
theorem dX2_weigh_1 : decode cX2_weigh 1 = .ok (.getfield 11, 3) := by decide +kernel
theorem dX2_weigh_4 : decode cX2_weigh 4 = .ok (.lconst 0, 1) := by decide +kernel
theorem dX2_weigh_5 : decode cX2_weigh 5 = .ok (.invokestatic 15, 3) := by decide +kernel
theorem dX2_weigh_8 : decode cX2_weigh 8 = .ok (.aload_n 0, 1) := by decide +kernel
theorem dX2_weigh_9 : decode cX2_weigh 9 = .ok (.getfield 11, 3) := by decide +kernel
theorem dX2_weigh_12 : decode cX2_weigh 12 = .ok (.iconst 0, 1) := by decide +kernel
theorem dX2_weigh_13 : decode cX2_weigh 13 = .ok (.lconst 1, 1) := by decide +kernel
theorem dX2_weigh_14 : decode cX2_weigh 14 = .ok (.lastore, 1) := by decide +kernel
theorem dX2_weigh_15 : decode cX2_weigh 15 = .ok (.iconst 0, 1) := by decide +kernel
theorem dX2_weigh_16 : decode cX2_weigh 16 = .ok (.istore 4, 2) := by decide +kernel
theorem dX2_weigh_18 : decode cX2_weigh 18 = .ok (.iconst 1, 1) := by decide +kernel
theorem dX2_weigh_19 : decode cX2_weigh 19 = .ok (.istore 5, 2) := by decide +kernel
theorem dX2_weigh_21 : decode cX2_weigh 21 = .ok (.iload 5, 2) := by decide +kernel
theorem dX2_weigh_23 : decode cX2_weigh 23 = .ok (.iload_n 2, 1) := by decide +kernel
theorem dX2_weigh_24 : decode cX2_weigh 24 = .ok (.if_icmp .ge 84, 3) := by decide +kernel
theorem dX2_weigh_27 : decode cX2_weigh 27 = .ok (.iload 5, 2) := by decide +kernel
theorem dX2_weigh_29 : decode cX2_weigh 29 = .ok (.bipush 40, 2) := by decide +kernel
theorem dX2_weigh_31 : decode cX2_weigh 31 = .ok (.if_icmp .gt 77, 3) := by decide +kernel
theorem dX2_weigh_34 : decode cX2_weigh 34 = .ok (.aload_n 1, 1) := by decide +kernel
theorem dX2_weigh_35 : decode cX2_weigh 35 = .ok (.iload 5, 2) := by decide +kernel
theorem dX2_weigh_37 : decode cX2_weigh 37 = .ok (.invokevirtual 21, 3) := by decide +kernel
theorem dX2_weigh_40 : decode cX2_weigh 40 = .ok (.istore 6, 2) := by decide +kernel
theorem dX2_weigh_42 : decode cX2_weigh 42 = .ok (.iload 4, 2) := by decide +kernel
theorem dX2_weigh_44 : decode cX2_weigh 44 = .ok (.iload 6, 2) := by decide +kernel
theorem dX2_weigh_46 : decode cX2_weigh 46 = .ok (.iadd, 1) := by decide +kernel
theorem dX2_weigh_47 : decode cX2_weigh 47 = .ok (.istore 4, 2) := by decide +kernel
theorem dX2_weigh_49 : decode cX2_weigh 49 = .ok (.iload 4, 2) := by decide +kernel
theorem dX2_weigh_51 : decode cX2_weigh 51 = .ok (.bipush 10, 2) := by decide +kernel
theorem dX2_weigh_53 : decode cX2_weigh 53 = .ok (.if_icmp .le 5, 3) := by decide +kernel
theorem dX2_weigh_56 : decode cX2_weigh 56 = .ok (.iconst 0, 1) := by decide +kernel
theorem dX2_weigh_57 : decode cX2_weigh 57 = .ok (.ireturn, 1) := by decide +kernel
theorem dX2_weigh_58 : decode cX2_weigh 58 = .ok (.aload_n 1, 1) := by decide +kernel
theorem dX2_weigh_59 : decode cX2_weigh 59 = .ok (.iload 5, 2) := by decide +kernel
theorem dX2_weigh_61 : decode cX2_weigh 61 = .ok (.iload_n 3, 1) := by decide +kernel
theorem dX2_weigh_62 : decode cX2_weigh 62 = .ok (.invokevirtual 27, 3) := by decide +kernel
theorem dX2_weigh_65 : decode cX2_weigh 65 = .ok (.istore 7, 2) := by decide +kernel
theorem dX2_weigh_67 : decode cX2_weigh 67 = .ok (.aload_n 1, 1) := by decide +kernel
theorem dX2_weigh_68 : decode cX2_weigh 68 = .ok (.iload 5, 2) := by decide +kernel
theorem dX2_weigh_70 : decode cX2_weigh 70 = .ok (.invokevirtual 31, 3) := by decide +kernel
theorem dX2_weigh_73 : decode cX2_weigh 73 = .ok (.iload 7, 2) := by decide +kernel
theorem dX2_weigh_75 : decode cX2_weigh 75 = .ok (.isub, 1) := by decide +kernel
theorem dX2_weigh_76 : decode cX2_weigh 76 = .ok (.istore 8, 2) := by decide +kernel
theorem dX2_weigh_78 : decode cX2_weigh 78 = .ok (.iconst 0, 1) := by decide +kernel
theorem dX2_weigh_79 : decode cX2_weigh 79 = .ok (.istore 9, 2) := by decide +kernel
theorem dX2_weigh_81 : decode cX2_weigh 81 = .ok (.iload 9, 2) := by decide +kernel
theorem dX2_weigh_83 : decode cX2_weigh 83 = .ok (.iload 6, 2) := by decide +kernel
theorem dX2_weigh_85 : decode cX2_weigh 85 = .ok (.if_icmp .ge 17, 3) := by decide +kernel
theorem dX2_weigh_88 : decode cX2_weigh 88 = .ok (.aload_n 0, 1) := by decide +kernel
theorem dX2_weigh_89 : decode cX2_weigh 89 = .ok (.iload 7, 2) := by decide +kernel
theorem dX2_weigh_91 : decode cX2_weigh 91 = .ok (.iload 8, 2) := by decide +kernel
theorem dX2_weigh_93 : decode cX2_weigh 93 = .ok (.invokevirtual 34, 3) := by decide +kernel
theorem dX2_weigh_96 : decode cX2_weigh 96 = .ok (.iinc 9 1, 3) := by decide +kernel
theorem dX2_weigh_99 : decode cX2_weigh 99 = .ok (.goto (-18), 3) := by decide +kernel
theorem dX2_weigh_102 : decode cX2_weigh 102 = .ok (.iinc 5 1, 3) := by decide +kernel
theorem dX2_weigh_105 : decode cX2_weigh 105 = .ok (.goto (-84), 3) := by decide +kernel
theorem dX2_weigh_108 : decode cX2_weigh 108 = .ok (.iconst 1, 1) := by decide +kernel
theorem dX2_weigh_109 : decode cX2_weigh 109 = .ok (.ireturn, 1) := by decide +kernel
theorem dX2_addOne_0 : decode cX2_addOne 0 = .ok (.bipush 10, 2) := by decide +kernel
theorem dX2_addOne_2 : decode cX2_addOne 2 = .ok (.istore_n 3, 1) := by decide +kernel
theorem dX2_addOne_3 : decode cX2_addOne 3 = .ok (.iload_n 3, 1) := by decide +kernel
theorem dX2_addOne_4 : decode cX2_addOne 4 = .ok (.ifCond .le 36, 3) := by decide +kernel
theorem dX2_addOne_7 : decode cX2_addOne 7 = .ok (.aload_n 0, 1) := by decide +kernel
theorem dX2_addOne_8 : decode cX2_addOne 8 = .ok (.getfield 11, 3) := by decide +kernel
theorem dX2_addOne_11 : decode cX2_addOne 11 = .ok (.iload_n 3, 1) := by decide +kernel
theorem dX2_addOne_12 : decode cX2_addOne 12 = .ok (.aload_n 0, 1) := by decide +kernel
theorem dX2_addOne_13 : decode cX2_addOne 13 = .ok (.getfield 11, 3) := by decide +kernel
theorem dX2_addOne_16 : decode cX2_addOne 16 = .ok (.iload_n 3, 1) := by decide +kernel
theorem dX2_addOne_17 : decode cX2_addOne 17 = .ok (.laload, 1) := by decide +kernel
theorem dX2_addOne_18 : decode cX2_addOne 18 = .ok (.iload_n 2, 1) := by decide +kernel
theorem dX2_addOne_19 : decode cX2_addOne 19 = .ok (.i2l, 1) := by decide +kernel
theorem dX2_addOne_20 : decode cX2_addOne 20 = .ok (.lmul, 1) := by decide +kernel
theorem dX2_addOne_21 : decode cX2_addOne 21 = .ok (.aload_n 0, 1) := by decide +kernel
theorem dX2_addOne_22 : decode cX2_addOne 22 = .ok (.getfield 11, 3) := by decide +kernel
theorem dX2_addOne_25 : decode cX2_addOne 25 = .ok (.iload_n 3, 1) := by decide +kernel
theorem dX2_addOne_26 : decode cX2_addOne 26 = .ok (.iconst 1, 1) := by decide +kernel
theorem dX2_addOne_27 : decode cX2_addOne 27 = .ok (.isub, 1) := by decide +kernel
theorem dX2_addOne_28 : decode cX2_addOne 28 = .ok (.laload, 1) := by decide +kernel
theorem dX2_addOne_29 : decode cX2_addOne 29 = .ok (.iload_n 1, 1) := by decide +kernel
theorem dX2_addOne_30 : decode cX2_addOne 30 = .ok (.i2l, 1) := by decide +kernel
theorem dX2_addOne_31 : decode cX2_addOne 31 = .ok (.lmul, 1) := by decide +kernel
theorem dX2_addOne_32 : decode cX2_addOne 32 = .ok (.ladd, 1) := by decide +kernel
theorem dX2_addOne_33 : decode cX2_addOne 33 = .ok (.lastore, 1) := by decide +kernel
theorem dX2_addOne_34 : decode cX2_addOne 34 = .ok (.iinc 3 (-1), 3) := by decide +kernel
theorem dX2_addOne_37 : decode cX2_addOne 37 = .ok (.goto (-34), 3) := by decide +kernel
theorem dX2_addOne_40 : decode cX2_addOne 40 = .ok (.aload_n 0, 1) := by decide +kernel
theorem dX2_addOne_41 : decode cX2_addOne 41 = .ok (.getfield 11, 3) := by decide +kernel
theorem dX2_addOne_44 : decode cX2_addOne 44 = .ok (.iconst 0, 1) := by decide +kernel
theorem dX2_addOne_45 : decode cX2_addOne 45 = .ok (.dup2, 1) := by decide +kernel
theorem dX2_addOne_46 : decode cX2_addOne 46 = .ok (.laload, 1) := by decide +kernel
theorem dX2_addOne_47 : decode cX2_addOne 47 = .ok (.iload_n 2, 1) := by decide +kernel
theorem dX2_addOne_48 : decode cX2_addOne 48 = .ok (.i2l, 1) := by decide +kernel
theorem dX2_addOne_49 : decode cX2_addOne 49 = .ok (.lmul, 1) := by decide +kernel
theorem dX2_addOne_50 : decode cX2_addOne 50 = .ok (.lastore, 1) := by decide +kernel
theorem dX2_addOne_51 : decode cX2_addOne 51 = .ok (.return_, 1) := by decide +kernel
theorem dX2_waysAbove_0 : decode cX2_waysAbove 0 = .ok (.lconst 0, 1) := by decide +kernel
theorem dX2_waysAbove_1 : decode cX2_waysAbove 1 = .ok (.lstore_n 2, 1) := by decide +kernel
theorem dX2_waysAbove_2 : decode cX2_waysAbove 2 = .ok (.iconst 0, 1) := by decide +kernel
theorem dX2_waysAbove_3 : decode cX2_waysAbove 3 = .ok (.iload_n 1, 1) := by decide +kernel
theorem dX2_waysAbove_4 : decode cX2_waysAbove 4 = .ok (.iconst 1, 1) := by decide +kernel
theorem dX2_waysAbove_5 : decode cX2_waysAbove 5 = .ok (.iadd, 1) := by decide +kernel
theorem dX2_waysAbove_6 : decode cX2_waysAbove 6 = .ok (.invokestatic 38, 3) := by decide +kernel
theorem dX2_waysAbove_9 : decode cX2_waysAbove 9 = .ok (.istore 4, 2) := by decide +kernel
theorem dX2_waysAbove_11 : decode cX2_waysAbove 11 = .ok (.iload 4, 2) := by decide +kernel
theorem dX2_waysAbove_13 : decode cX2_waysAbove 13 = .ok (.bipush 10, 2) := by decide +kernel
theorem dX2_waysAbove_15 : decode cX2_waysAbove 15 = .ok (.if_icmp .gt 19, 3) := by decide +kernel
theorem dX2_waysAbove_18 : decode cX2_waysAbove 18 = .ok (.lload_n 2, 1) := by decide +kernel
theorem dX2_waysAbove_19 : decode cX2_waysAbove 19 = .ok (.aload_n 0, 1) := by decide +kernel
theorem dX2_waysAbove_20 : decode cX2_waysAbove 20 = .ok (.getfield 11, 3) := by decide +kernel
theorem dX2_waysAbove_23 : decode cX2_waysAbove 23 = .ok (.iload 4, 2) := by decide +kernel
theorem dX2_waysAbove_25 : decode cX2_waysAbove 25 = .ok (.laload, 1) := by decide +kernel
theorem dX2_waysAbove_26 : decode cX2_waysAbove 26 = .ok (.ladd, 1) := by decide +kernel
theorem dX2_waysAbove_27 : decode cX2_waysAbove 27 = .ok (.lstore_n 2, 1) := by decide +kernel
theorem dX2_waysAbove_28 : decode cX2_waysAbove 28 = .ok (.iinc 4 1, 3) := by decide +kernel
theorem dX2_waysAbove_31 : decode cX2_waysAbove 31 = .ok (.goto (-20), 3) := by decide +kernel
theorem dX2_waysAbove_34 : decode cX2_waysAbove 34 = .ok (.lload_n 2, 1) := by decide +kernel
theorem dX2_waysAbove_35 : decode cX2_waysAbove 35 = .ok (.lreturn, 1) := by decide +kernel
theorem dX2_allWays_0 : decode cX2_allWays 0 = .ok (.aload_n 0, 1) := by decide +kernel
theorem dX2_allWays_1 : decode cX2_allWays 1 = .ok (.iconst (-1), 1) := by decide +kernel
theorem dX2_allWays_2 : decode cX2_allWays 2 = .ok (.invokevirtual 43, 3) := by decide +kernel
theorem dX2_allWays_5 : decode cX2_allWays 5 = .ok (.lreturn, 1) := by decide +kernel
theorem dX2_fewestFor_0 : decode cX2_fewestFor 0 = .ok (.aload_n 0, 1) := by decide +kernel
theorem dX2_fewestFor_1 : decode cX2_fewestFor 1 = .ok (.invokevirtual 47, 3) := by decide +kernel
theorem dX2_fewestFor_4 : decode cX2_fewestFor 4 = .ok (.iload_n 1, 1) := by decide +kernel
theorem dX2_fewestFor_5 : decode cX2_fewestFor 5 = .ok (.i2l, 1) := by decide +kernel
theorem dX2_fewestFor_6 : decode cX2_fewestFor 6 = .ok (.lmul, 1) := by decide +kernel
theorem dX2_fewestFor_7 : decode cX2_fewestFor 7 = .ok (.lstore_n 2, 1) := by decide +kernel
theorem dX2_fewestFor_8 : decode cX2_fewestFor 8 = .ok (.iconst 0, 1) := by decide +kernel
theorem dX2_fewestFor_9 : decode cX2_fewestFor 9 = .ok (.istore 4, 2) := by decide +kernel
theorem dX2_fewestFor_11 : decode cX2_fewestFor 11 = .ok (.iload 4, 2) := by decide +kernel
theorem dX2_fewestFor_13 : decode cX2_fewestFor 13 = .ok (.bipush 10, 2) := by decide +kernel
theorem dX2_fewestFor_15 : decode cX2_fewestFor 15 = .ok (.if_icmp .ge 24, 3) := by decide +kernel
theorem dX2_fewestFor_18 : decode cX2_fewestFor 18 = .ok (.aload_n 0, 1) := by decide +kernel
theorem dX2_fewestFor_19 : decode cX2_fewestFor 19 = .ok (.iload 4, 2) := by decide +kernel
theorem dX2_fewestFor_21 : decode cX2_fewestFor 21 = .ok (.invokevirtual 43, 3) := by decide +kernel
theorem dX2_fewestFor_24 : decode cX2_fewestFor 24 = .ok (.ldc2_w 51, 3) := by decide +kernel
theorem dX2_fewestFor_27 : decode cX2_fewestFor 27 = .ok (.lmul, 1) := by decide +kernel
theorem dX2_fewestFor_28 : decode cX2_fewestFor 28 = .ok (.lload_n 2, 1) := by decide +kernel
theorem dX2_fewestFor_29 : decode cX2_fewestFor 29 = .ok (.lcmp, 1) := by decide +kernel
theorem dX2_fewestFor_30 : decode cX2_fewestFor 30 = .ok (.ifCond .le 9, 3) := by decide +kernel
theorem dX2_fewestFor_33 : decode cX2_fewestFor 33 = .ok (.iinc 4 1, 3) := by decide +kernel
theorem dX2_fewestFor_36 : decode cX2_fewestFor 36 = .ok (.goto (-25), 3) := by decide +kernel
theorem dX2_fewestFor_39 : decode cX2_fewestFor 39 = .ok (.iload 4, 2) := by decide +kernel
theorem dX2_fewestFor_41 : decode cX2_fewestFor 41 = .ok (.ireturn, 1) := by decide +kernel
theorem dX3_init_0 : decode cX3_init 0 = .ok (.aload_n 0, 1) := by decide +kernel
theorem dX3_init_1 : decode cX3_init 1 = .ok (.invokespecial 3, 3) := by decide +kernel
theorem dX3_init_4 : decode cX3_init 4 = .ok (.aload_n 0, 1) := by decide +kernel
theorem dX3_init_5 : decode cX3_init 5 = .ok (.iconst 2, 1) := by decide +kernel
theorem dX3_init_6 : decode cX3_init 6 = .ok (.newarray .int, 2) := by decide +kernel
theorem dX3_init_8 : decode cX3_init 8 = .ok (.putfield 9, 3) := by decide +kernel
theorem dX3_init_11 : decode cX3_init 11 = .ok (.aload_n 0, 1) := by decide +kernel
theorem dX3_init_12 : decode cX3_init 12 = .ok (.bipush 8, 2) := by decide +kernel
theorem dX3_init_14 : decode cX3_init 14 = .ok (.newarray .int, 2) := by decide +kernel
theorem dX3_init_16 : decode cX3_init 16 = .ok (.putfield 15, 3) := by decide +kernel
theorem dX3_init_19 : decode cX3_init 19 = .ok (.aload_n 0, 1) := by decide +kernel
theorem dX3_init_20 : decode cX3_init 20 = .ok (.sipush 451, 3) := by decide +kernel
theorem dX3_init_23 : decode cX3_init 23 = .ok (.newarray .int, 2) := by decide +kernel
theorem dX3_init_25 : decode cX3_init 25 = .ok (.putfield 18, 3) := by decide +kernel
theorem dX3_init_28 : decode cX3_init 28 = .ok (.aload_n 0, 1) := by decide +kernel
theorem dX3_init_29 : decode cX3_init 29 = .ok (.bipush 6, 2) := by decide +kernel
theorem dX3_init_31 : decode cX3_init 31 = .ok (.newarray .int, 2) := by decide +kernel
theorem dX3_init_33 : decode cX3_init 33 = .ok (.putfield 21, 3) := by decide +kernel
theorem dX3_init_36 : decode cX3_init 36 = .ok (.aload_n 0, 1) := by decide +kernel
theorem dX3_init_37 : decode cX3_init 37 = .ok (.iconst 1, 1) := by decide +kernel
theorem dX3_init_38 : decode cX3_init 38 = .ok (.putfield 24, 3) := by decide +kernel
theorem dX3_init_41 : decode cX3_init 41 = .ok (.return_, 1) := by decide +kernel
theorem dX3_restart_0 : decode cX3_restart 0 = .ok (.aload_n 0, 1) := by decide +kernel
theorem dX3_restart_1 : decode cX3_restart 1 = .ok (.getfield 9, 3) := by decide +kernel
theorem dX3_restart_4 : decode cX3_restart 4 = .ok (.iconst 0, 1) := by decide +kernel
theorem dX3_restart_5 : decode cX3_restart 5 = .ok (.invokestatic 28, 3) := by decide +kernel
theorem dX3_restart_8 : decode cX3_restart 8 = .ok (.aload_n 0, 1) := by decide +kernel
theorem dX3_restart_9 : decode cX3_restart 9 = .ok (.getfield 18, 3) := by decide +kernel
theorem dX3_restart_12 : decode cX3_restart 12 = .ok (.iconst 0, 1) := by decide +kernel
theorem dX3_restart_13 : decode cX3_restart 13 = .ok (.invokestatic 28, 3) := by decide +kernel
theorem dX3_restart_16 : decode cX3_restart 16 = .ok (.aload_n 0, 1) := by decide +kernel
theorem dX3_restart_17 : decode cX3_restart 17 = .ok (.getfield 21, 3) := by decide +kernel
theorem dX3_restart_20 : decode cX3_restart 20 = .ok (.iconst 0, 1) := by decide +kernel
theorem dX3_restart_21 : decode cX3_restart 21 = .ok (.invokestatic 28, 3) := by decide +kernel
theorem dX3_restart_24 : decode cX3_restart 24 = .ok (.iconst 0, 1) := by decide +kernel
theorem dX3_restart_25 : decode cX3_restart 25 = .ok (.istore_n 3, 1) := by decide +kernel
theorem dX3_restart_26 : decode cX3_restart 26 = .ok (.iload_n 3, 1) := by decide +kernel
theorem dX3_restart_27 : decode cX3_restart 27 = .ok (.aload_n 0, 1) := by decide +kernel
theorem dX3_restart_28 : decode cX3_restart 28 = .ok (.getfield 15, 3) := by decide +kernel
theorem dX3_restart_31 : decode cX3_restart 31 = .ok (.arraylength, 1) := by decide +kernel
theorem dX3_restart_32 : decode cX3_restart 32 = .ok (.if_icmp .ge 25, 3) := by decide +kernel
theorem dX3_restart_35 : decode cX3_restart 35 = .ok (.aload_n 0, 1) := by decide +kernel
theorem dX3_restart_36 : decode cX3_restart 36 = .ok (.getfield 15, 3) := by decide +kernel
theorem dX3_restart_39 : decode cX3_restart 39 = .ok (.iload_n 3, 1) := by decide +kernel
theorem dX3_restart_40 : decode cX3_restart 40 = .ok (.aload_n 1, 1) := by decide +kernel
theorem dX3_restart_41 : decode cX3_restart 41 = .ok (.iload_n 3, 1) := by decide +kernel
theorem dX3_restart_42 : decode cX3_restart 42 = .ok (.iconst 4, 1) := by decide +kernel
theorem dX3_restart_43 : decode cX3_restart 43 = .ok (.idiv, 1) := by decide +kernel
theorem dX3_restart_44 : decode cX3_restart 44 = .ok (.iload_n 3, 1) := by decide +kernel
theorem dX3_restart_45 : decode cX3_restart 45 = .ok (.iconst 4, 1) := by decide +kernel
theorem dX3_restart_46 : decode cX3_restart 46 = .ok (.irem, 1) := by decide +kernel
theorem dX3_restart_47 : decode cX3_restart 47 = .ok (.invokevirtual 34, 3) := by decide +kernel
theorem dX3_restart_50 : decode cX3_restart 50 = .ok (.iastore, 1) := by decide +kernel
theorem dX3_restart_51 : decode cX3_restart 51 = .ok (.iinc 3 1, 3) := by decide +kernel
theorem dX3_restart_54 : decode cX3_restart 54 = .ok (.goto (-28), 3) := by decide +kernel
theorem dX3_restart_57 : decode cX3_restart 57 = .ok (.aload_n 0, 1) := by decide +kernel
theorem dX3_restart_58 : decode cX3_restart 58 = .ok (.iconst 1, 1) := by decide +kernel
theorem dX3_restart_59 : decode cX3_restart 59 = .ok (.putfield 24, 3) := by decide +kernel
theorem dX3_restart_62 : decode cX3_restart 62 = .ok (.aload_n 0, 1) := by decide +kernel
theorem dX3_restart_63 : decode cX3_restart 63 = .ok (.aload_n 1, 1) := by decide +kernel
theorem dX3_restart_64 : decode cX3_restart 64 = .ok (.invokevirtual 40, 3) := by decide +kernel
theorem dX3_restart_67 : decode cX3_restart 67 = .ok (.putfield 44, 3) := by decide +kernel
theorem dX3_restart_70 : decode cX3_restart 70 = .ok (.aload_n 0, 1) := by decide +kernel
theorem dX3_restart_71 : decode cX3_restart 71 = .ok (.iconst 0, 1) := by decide +kernel
theorem dX3_restart_72 : decode cX3_restart 72 = .ok (.putfield 47, 3) := by decide +kernel
theorem dX3_restart_75 : decode cX3_restart 75 = .ok (.aload_n 0, 1) := by decide +kernel
theorem dX3_restart_76 : decode cX3_restart 76 = .ok (.iload_n 2, 1) := by decide +kernel
theorem dX3_restart_77 : decode cX3_restart 77 = .ok (.putfield 50, 3) := by decide +kernel
theorem dX3_restart_80 : decode cX3_restart 80 = .ok (.return_, 1) := by decide +kernel
theorem dX3_copy_0 : decode cX3_copy 0 = .ok (.aload_n 1, 1) := by decide +kernel
theorem dX3_copy_1 : decode cX3_copy 1 = .ok (.getfield 9, 3) := by decide +kernel
theorem dX3_copy_4 : decode cX3_copy 4 = .ok (.iconst 0, 1) := by decide +kernel
theorem dX3_copy_5 : decode cX3_copy 5 = .ok (.aload_n 0, 1) := by decide +kernel
theorem dX3_copy_6 : decode cX3_copy 6 = .ok (.getfield 9, 3) := by decide +kernel
theorem dX3_copy_9 : decode cX3_copy 9 = .ok (.iconst 0, 1) := by decide +kernel
theorem dX3_copy_10 : decode cX3_copy 10 = .ok (.aload_n 0, 1) := by decide +kernel
theorem dX3_copy_11 : decode cX3_copy 11 = .ok (.getfield 9, 3) := by decide +kernel
theorem dX3_copy_14 : decode cX3_copy 14 = .ok (.arraylength, 1) := by decide +kernel
theorem dX3_copy_15 : decode cX3_copy 15 = .ok (.invokestatic 53, 3) := by decide +kernel
theorem dX3_copy_18 : decode cX3_copy 18 = .ok (.aload_n 1, 1) := by decide +kernel
theorem dX3_copy_19 : decode cX3_copy 19 = .ok (.getfield 15, 3) := by decide +kernel
theorem dX3_copy_22 : decode cX3_copy 22 = .ok (.iconst 0, 1) := by decide +kernel
theorem dX3_copy_23 : decode cX3_copy 23 = .ok (.aload_n 0, 1) := by decide +kernel
theorem dX3_copy_24 : decode cX3_copy 24 = .ok (.getfield 15, 3) := by decide +kernel
theorem dX3_copy_27 : decode cX3_copy 27 = .ok (.iconst 0, 1) := by decide +kernel
theorem dX3_copy_28 : decode cX3_copy 28 = .ok (.aload_n 0, 1) := by decide +kernel
theorem dX3_copy_29 : decode cX3_copy 29 = .ok (.getfield 15, 3) := by decide +kernel
theorem dX3_copy_32 : decode cX3_copy 32 = .ok (.arraylength, 1) := by decide +kernel
theorem dX3_copy_33 : decode cX3_copy 33 = .ok (.invokestatic 53, 3) := by decide +kernel
theorem dX3_copy_36 : decode cX3_copy 36 = .ok (.aload_n 1, 1) := by decide +kernel
theorem dX3_copy_37 : decode cX3_copy 37 = .ok (.getfield 18, 3) := by decide +kernel
theorem dX3_copy_40 : decode cX3_copy 40 = .ok (.iconst 0, 1) := by decide +kernel
theorem dX3_copy_41 : decode cX3_copy 41 = .ok (.aload_n 0, 1) := by decide +kernel
theorem dX3_copy_42 : decode cX3_copy 42 = .ok (.getfield 18, 3) := by decide +kernel
theorem dX3_copy_45 : decode cX3_copy 45 = .ok (.iconst 0, 1) := by decide +kernel
theorem dX3_copy_46 : decode cX3_copy 46 = .ok (.aload_n 0, 1) := by decide +kernel
theorem dX3_copy_47 : decode cX3_copy 47 = .ok (.getfield 18, 3) := by decide +kernel
theorem dX3_copy_50 : decode cX3_copy 50 = .ok (.arraylength, 1) := by decide +kernel
theorem dX3_copy_51 : decode cX3_copy 51 = .ok (.invokestatic 53, 3) := by decide +kernel
theorem dX3_copy_54 : decode cX3_copy 54 = .ok (.aload_n 1, 1) := by decide +kernel
theorem dX3_copy_55 : decode cX3_copy 55 = .ok (.getfield 21, 3) := by decide +kernel
theorem dX3_copy_58 : decode cX3_copy 58 = .ok (.iconst 0, 1) := by decide +kernel
theorem dX3_copy_59 : decode cX3_copy 59 = .ok (.aload_n 0, 1) := by decide +kernel
theorem dX3_copy_60 : decode cX3_copy 60 = .ok (.getfield 21, 3) := by decide +kernel
theorem dX3_copy_63 : decode cX3_copy 63 = .ok (.iconst 0, 1) := by decide +kernel
theorem dX3_copy_64 : decode cX3_copy 64 = .ok (.aload_n 0, 1) := by decide +kernel
theorem dX3_copy_65 : decode cX3_copy 65 = .ok (.getfield 21, 3) := by decide +kernel
theorem dX3_copy_68 : decode cX3_copy 68 = .ok (.arraylength, 1) := by decide +kernel
theorem dX3_copy_69 : decode cX3_copy 69 = .ok (.invokestatic 53, 3) := by decide +kernel
theorem dX3_copy_72 : decode cX3_copy 72 = .ok (.aload_n 0, 1) := by decide +kernel
theorem dX3_copy_73 : decode cX3_copy 73 = .ok (.aload_n 1, 1) := by decide +kernel
theorem dX3_copy_74 : decode cX3_copy 74 = .ok (.getfield 24, 3) := by decide +kernel
theorem dX3_copy_77 : decode cX3_copy 77 = .ok (.putfield 24, 3) := by decide +kernel
theorem dX3_copy_80 : decode cX3_copy 80 = .ok (.aload_n 0, 1) := by decide +kernel
theorem dX3_copy_81 : decode cX3_copy 81 = .ok (.aload_n 1, 1) := by decide +kernel
theorem dX3_copy_82 : decode cX3_copy 82 = .ok (.getfield 44, 3) := by decide +kernel
theorem dX3_copy_85 : decode cX3_copy 85 = .ok (.putfield 44, 3) := by decide +kernel
theorem dX3_copy_88 : decode cX3_copy 88 = .ok (.aload_n 0, 1) := by decide +kernel
theorem dX3_copy_89 : decode cX3_copy 89 = .ok (.aload_n 1, 1) := by decide +kernel
theorem dX3_copy_90 : decode cX3_copy 90 = .ok (.getfield 47, 3) := by decide +kernel
theorem dX3_copy_93 : decode cX3_copy 93 = .ok (.putfield 47, 3) := by decide +kernel
theorem dX3_copy_96 : decode cX3_copy 96 = .ok (.aload_n 0, 1) := by decide +kernel
theorem dX3_copy_97 : decode cX3_copy 97 = .ok (.aload_n 1, 1) := by decide +kernel
theorem dX3_copy_98 : decode cX3_copy 98 = .ok (.getfield 50, 3) := by decide +kernel
theorem dX3_copy_101 : decode cX3_copy 101 = .ok (.putfield 50, 3) := by decide +kernel
theorem dX3_copy_104 : decode cX3_copy 104 = .ok (.return_, 1) := by decide +kernel
theorem dX3_isOver_0 : decode cX3_isOver 0 = .ok (.aload_n 0, 1) := by decide +kernel
theorem dX3_isOver_1 : decode cX3_isOver 1 = .ok (.getfield 24, 3) := by decide +kernel
theorem dX3_isOver_4 : decode cX3_isOver 4 = .ok (.aload_n 0, 1) := by decide +kernel
theorem dX3_isOver_5 : decode cX3_isOver 5 = .ok (.getfield 44, 3) := by decide +kernel
theorem dX3_isOver_8 : decode cX3_isOver 8 = .ok (.if_icmp .le 7, 3) := by decide +kernel
theorem dX3_isOver_11 : decode cX3_isOver 11 = .ok (.iconst 1, 1) := by decide +kernel
theorem dX3_isOver_12 : decode cX3_isOver 12 = .ok (.goto 4, 3) := by decide +kernel
theorem dX3_isOver_15 : decode cX3_isOver 15 = .ok (.iconst 0, 1) := by decide +kernel
theorem dX3_isOver_16 : decode cX3_isOver 16 = .ok (.ireturn, 1) := by decide +kernel
theorem dX3_isServed_0 : decode cX3_isServed 0 = .ok (.iload_n 1, 1) := by decide +kernel
theorem dX3_isServed_1 : decode cX3_isServed 1 = .ok (.aload_n 0, 1) := by decide +kernel
theorem dX3_isServed_2 : decode cX3_isServed 2 = .ok (.getfield 24, 3) := by decide +kernel
theorem dX3_isServed_5 : decode cX3_isServed 5 = .ok (.if_icmp .lt 11, 3) := by decide +kernel
theorem dX3_isServed_8 : decode cX3_isServed 8 = .ok (.iload_n 1, 1) := by decide +kernel
theorem dX3_isServed_9 : decode cX3_isServed 9 = .ok (.aload_n 0, 1) := by decide +kernel
theorem dX3_isServed_10 : decode cX3_isServed 10 = .ok (.getfield 44, 3) := by decide +kernel
theorem dX3_isServed_13 : decode cX3_isServed 13 = .ok (.if_icmp .le 7, 3) := by decide +kernel
theorem dX3_isServed_16 : decode cX3_isServed 16 = .ok (.iconst 1, 1) := by decide +kernel
theorem dX3_isServed_17 : decode cX3_isServed 17 = .ok (.goto 4, 3) := by decide +kernel
theorem dX3_isServed_20 : decode cX3_isServed 20 = .ok (.iconst 0, 1) := by decide +kernel
theorem dX3_isServed_21 : decode cX3_isServed 21 = .ok (.ireturn, 1) := by decide +kernel
theorem dX3_rowsServed_0 : decode cX3_rowsServed 0 = .ok (.aload_n 1, 1) := by decide +kernel
theorem dX3_rowsServed_1 : decode cX3_rowsServed 1 = .ok (.invokevirtual 40, 3) := by decide +kernel
theorem dX3_rowsServed_4 : decode cX3_rowsServed 4 = .ok (.aload_n 0, 1) := by decide +kernel
theorem dX3_rowsServed_5 : decode cX3_rowsServed 5 = .ok (.getfield 44, 3) := by decide +kernel
theorem dX3_rowsServed_8 : decode cX3_rowsServed 8 = .ok (.aload_n 0, 1) := by decide +kernel
theorem dX3_rowsServed_9 : decode cX3_rowsServed 9 = .ok (.getfield 24, 3) := by decide +kernel
theorem dX3_rowsServed_12 : decode cX3_rowsServed 12 = .ok (.isub, 1) := by decide +kernel
theorem dX3_rowsServed_13 : decode cX3_rowsServed 13 = .ok (.iconst 1, 1) := by decide +kernel
theorem dX3_rowsServed_14 : decode cX3_rowsServed 14 = .ok (.iadd, 1) := by decide +kernel
theorem dX3_rowsServed_15 : decode cX3_rowsServed 15 = .ok (.isub, 1) := by decide +kernel
theorem dX3_rowsServed_16 : decode cX3_rowsServed 16 = .ok (.ireturn, 1) := by decide +kernel
theorem dX3_frontRows_0 : decode cX3_frontRows 0 = .ok (.aload_n 0, 1) := by decide +kernel
theorem dX3_frontRows_1 : decode cX3_frontRows 1 = .ok (.getfield 24, 3) := by decide +kernel
theorem dX3_frontRows_4 : decode cX3_frontRows 4 = .ok (.iconst 1, 1) := by decide +kernel
theorem dX3_frontRows_5 : decode cX3_frontRows 5 = .ok (.isub, 1) := by decide +kernel
theorem dX3_frontRows_6 : decode cX3_frontRows 6 = .ok (.ireturn, 1) := by decide +kernel
theorem dX3_seed_0 : decode cX3_seed 0 = .ok (.aload_n 0, 1) := by decide +kernel
theorem dX3_seed_1 : decode cX3_seed 1 = .ok (.getfield 50, 3) := by decide +kernel
theorem dX3_seed_4 : decode cX3_seed 4 = .ok (.ireturn, 1) := by decide +kernel
theorem dX3_spilt_0 : decode cX3_spilt 0 = .ok (.aload_n 0, 1) := by decide +kernel
theorem dX3_spilt_1 : decode cX3_spilt 1 = .ok (.getfield 47, 3) := by decide +kernel
theorem dX3_spilt_4 : decode cX3_spilt 4 = .ok (.ireturn, 1) := by decide +kernel
theorem dX3_secondsOf_0 : decode cX3_secondsOf 0 = .ok (.iload_n 1, 1) := by decide +kernel
theorem dX3_secondsOf_1 : decode cX3_secondsOf 1 = .ok (.ifCond .lt 17, 3) := by decide +kernel
theorem dX3_secondsOf_4 : decode cX3_secondsOf 4 = .ok (.iload_n 1, 1) := by decide +kernel
theorem dX3_secondsOf_5 : decode cX3_secondsOf 5 = .ok (.iconst 2, 1) := by decide +kernel
theorem dX3_secondsOf_6 : decode cX3_secondsOf 6 = .ok (.if_icmp .ge 12, 3) := by decide +kernel
theorem dX3_secondsOf_9 : decode cX3_secondsOf 9 = .ok (.aload_n 0, 1) := by decide +kernel
theorem dX3_secondsOf_10 : decode cX3_secondsOf 10 = .ok (.getfield 9, 3) := by decide +kernel
theorem dX3_secondsOf_13 : decode cX3_secondsOf 13 = .ok (.iload_n 1, 1) := by decide +kernel
theorem dX3_secondsOf_14 : decode cX3_secondsOf 14 = .ok (.iaload, 1) := by decide +kernel
theorem dX3_secondsOf_15 : decode cX3_secondsOf 15 = .ok (.goto 4, 3) := by decide +kernel
theorem dX3_secondsOf_18 : decode cX3_secondsOf 18 = .ok (.iconst 0, 1) := by decide +kernel
theorem dX3_secondsOf_19 : decode cX3_secondsOf 19 = .ok (.ireturn, 1) := by decide +kernel
theorem dX3_leftOf_0 : decode cX3_leftOf 0 = .ok (.iload_n 1, 1) := by decide +kernel
theorem dX3_leftOf_1 : decode cX3_leftOf 1 = .ok (.iconst 4, 1) := by decide +kernel
theorem dX3_leftOf_2 : decode cX3_leftOf 2 = .ok (.imul, 1) := by decide +kernel
theorem dX3_leftOf_3 : decode cX3_leftOf 3 = .ok (.iload_n 2, 1) := by decide +kernel
theorem dX3_leftOf_4 : decode cX3_leftOf 4 = .ok (.iadd, 1) := by decide +kernel
theorem dX3_leftOf_5 : decode cX3_leftOf 5 = .ok (.istore_n 3, 1) := by decide +kernel
theorem dX3_leftOf_6 : decode cX3_leftOf 6 = .ok (.iload_n 3, 1) := by decide +kernel
theorem dX3_leftOf_7 : decode cX3_leftOf 7 = .ok (.ifCond .lt 21, 3) := by decide +kernel
theorem dX3_leftOf_10 : decode cX3_leftOf 10 = .ok (.iload_n 3, 1) := by decide +kernel
theorem dX3_leftOf_11 : decode cX3_leftOf 11 = .ok (.aload_n 0, 1) := by decide +kernel
theorem dX3_leftOf_12 : decode cX3_leftOf 12 = .ok (.getfield 15, 3) := by decide +kernel
theorem dX3_leftOf_15 : decode cX3_leftOf 15 = .ok (.arraylength, 1) := by decide +kernel
theorem dX3_leftOf_16 : decode cX3_leftOf 16 = .ok (.if_icmp .ge 12, 3) := by decide +kernel
theorem dX3_leftOf_19 : decode cX3_leftOf 19 = .ok (.aload_n 0, 1) := by decide +kernel
theorem dX3_leftOf_20 : decode cX3_leftOf 20 = .ok (.getfield 15, 3) := by decide +kernel
theorem dX3_leftOf_23 : decode cX3_leftOf 23 = .ok (.iload_n 3, 1) := by decide +kernel
theorem dX3_leftOf_24 : decode cX3_leftOf 24 = .ok (.iaload, 1) := by decide +kernel
theorem dX3_leftOf_25 : decode cX3_leftOf 25 = .ok (.goto 4, 3) := by decide +kernel
theorem dX3_leftOf_28 : decode cX3_leftOf 28 = .ok (.iconst 0, 1) := by decide +kernel
theorem dX3_leftOf_29 : decode cX3_leftOf 29 = .ok (.ireturn, 1) := by decide +kernel
theorem dX3_gotOf_0 : decode cX3_gotOf 0 = .ok (.iload_n 1, 1) := by decide +kernel
theorem dX3_gotOf_1 : decode cX3_gotOf 1 = .ok (.ifCond .lt 18, 3) := by decide +kernel
theorem dX3_gotOf_4 : decode cX3_gotOf 4 = .ok (.iload_n 1, 1) := by decide +kernel
theorem dX3_gotOf_5 : decode cX3_gotOf 5 = .ok (.bipush 6, 2) := by decide +kernel
theorem dX3_gotOf_7 : decode cX3_gotOf 7 = .ok (.if_icmp .ge 12, 3) := by decide +kernel
theorem dX3_gotOf_10 : decode cX3_gotOf 10 = .ok (.aload_n 0, 1) := by decide +kernel
theorem dX3_gotOf_11 : decode cX3_gotOf 11 = .ok (.getfield 21, 3) := by decide +kernel
theorem dX3_gotOf_14 : decode cX3_gotOf 14 = .ok (.iload_n 1, 1) := by decide +kernel
theorem dX3_gotOf_15 : decode cX3_gotOf 15 = .ok (.iaload, 1) := by decide +kernel
theorem dX3_gotOf_16 : decode cX3_gotOf 16 = .ok (.goto 4, 3) := by decide +kernel
theorem dX3_gotOf_19 : decode cX3_gotOf 19 = .ok (.iconst 0, 1) := by decide +kernel
theorem dX3_gotOf_20 : decode cX3_gotOf 20 = .ok (.ireturn, 1) := by decide +kernel
theorem dX3_fact_0 : decode cX3_fact 0 = .ok (.iload_n 1, 1) := by decide +kernel
theorem dX3_fact_1 : decode cX3_fact 1 = .ok (.bipush 11, 2) := by decide +kernel
theorem dX3_fact_3 : decode cX3_fact 3 = .ok (.imul, 1) := by decide +kernel
theorem dX3_fact_4 : decode cX3_fact 4 = .ok (.iload_n 2, 1) := by decide +kernel
theorem dX3_fact_5 : decode cX3_fact 5 = .ok (.iadd, 1) := by decide +kernel
theorem dX3_fact_6 : decode cX3_fact 6 = .ok (.istore_n 3, 1) := by decide +kernel
theorem dX3_fact_7 : decode cX3_fact 7 = .ok (.iload_n 3, 1) := by decide +kernel
theorem dX3_fact_8 : decode cX3_fact 8 = .ok (.ifCond .lt 21, 3) := by decide +kernel
theorem dX3_fact_11 : decode cX3_fact 11 = .ok (.iload_n 3, 1) := by decide +kernel
theorem dX3_fact_12 : decode cX3_fact 12 = .ok (.aload_n 0, 1) := by decide +kernel
theorem dX3_fact_13 : decode cX3_fact 13 = .ok (.getfield 18, 3) := by decide +kernel
theorem dX3_fact_16 : decode cX3_fact 16 = .ok (.arraylength, 1) := by decide +kernel
theorem dX3_fact_17 : decode cX3_fact 17 = .ok (.if_icmp .ge 12, 3) := by decide +kernel
theorem dX3_fact_20 : decode cX3_fact 20 = .ok (.aload_n 0, 1) := by decide +kernel
theorem dX3_fact_21 : decode cX3_fact 21 = .ok (.getfield 18, 3) := by decide +kernel
theorem dX3_fact_24 : decode cX3_fact 24 = .ok (.iload_n 3, 1) := by decide +kernel
theorem dX3_fact_25 : decode cX3_fact 25 = .ok (.iaload, 1) := by decide +kernel
theorem dX3_fact_26 : decode cX3_fact 26 = .ok (.goto 4, 3) := by decide +kernel
theorem dX3_fact_29 : decode cX3_fact 29 = .ok (.iconst 0, 1) := by decide +kernel
theorem dX3_fact_30 : decode cX3_fact 30 = .ok (.ireturn, 1) := by decide +kernel
theorem dX3_addFact_0 : decode cX3_addFact 0 = .ok (.iload_n 1, 1) := by decide +kernel
theorem dX3_addFact_1 : decode cX3_addFact 1 = .ok (.bipush 11, 2) := by decide +kernel
theorem dX3_addFact_3 : decode cX3_addFact 3 = .ok (.imul, 1) := by decide +kernel
theorem dX3_addFact_4 : decode cX3_addFact 4 = .ok (.iload_n 2, 1) := by decide +kernel
theorem dX3_addFact_5 : decode cX3_addFact 5 = .ok (.iadd, 1) := by decide +kernel
theorem dX3_addFact_6 : decode cX3_addFact 6 = .ok (.istore 4, 2) := by decide +kernel
theorem dX3_addFact_8 : decode cX3_addFact 8 = .ok (.iload 4, 2) := by decide +kernel
theorem dX3_addFact_10 : decode cX3_addFact 10 = .ok (.ifCond .lt 24, 3) := by decide +kernel
theorem dX3_addFact_13 : decode cX3_addFact 13 = .ok (.iload 4, 2) := by decide +kernel
theorem dX3_addFact_15 : decode cX3_addFact 15 = .ok (.aload_n 0, 1) := by decide +kernel
theorem dX3_addFact_16 : decode cX3_addFact 16 = .ok (.getfield 18, 3) := by decide +kernel
theorem dX3_addFact_19 : decode cX3_addFact 19 = .ok (.arraylength, 1) := by decide +kernel
theorem dX3_addFact_20 : decode cX3_addFact 20 = .ok (.if_icmp .ge 14, 3) := by decide +kernel
theorem dX3_addFact_23 : decode cX3_addFact 23 = .ok (.aload_n 0, 1) := by decide +kernel
theorem dX3_addFact_24 : decode cX3_addFact 24 = .ok (.getfield 18, 3) := by decide +kernel
theorem dX3_addFact_27 : decode cX3_addFact 27 = .ok (.iload 4, 2) := by decide +kernel
theorem dX3_addFact_29 : decode cX3_addFact 29 = .ok (.dup2, 1) := by decide +kernel
theorem dX3_addFact_30 : decode cX3_addFact 30 = .ok (.iaload, 1) := by decide +kernel
theorem dX3_addFact_31 : decode cX3_addFact 31 = .ok (.iload_n 3, 1) := by decide +kernel
theorem dX3_addFact_32 : decode cX3_addFact 32 = .ok (.iadd, 1) := by decide +kernel
theorem dX3_addFact_33 : decode cX3_addFact 33 = .ok (.iastore, 1) := by decide +kernel
theorem dX3_addFact_34 : decode cX3_addFact 34 = .ok (.return_, 1) := by decide +kernel
theorem dX3_sumOf_0 : decode cX3_sumOf 0 = .ok (.iconst 0, 1) := by decide +kernel
theorem dX3_sumOf_1 : decode cX3_sumOf 1 = .ok (.istore_n 2, 1) := by decide +kernel
theorem dX3_sumOf_2 : decode cX3_sumOf 2 = .ok (.iconst 1, 1) := by decide +kernel
theorem dX3_sumOf_3 : decode cX3_sumOf 3 = .ok (.istore_n 3, 1) := by decide +kernel
theorem dX3_sumOf_4 : decode cX3_sumOf 4 = .ok (.iload_n 3, 1) := by decide +kernel
theorem dX3_sumOf_5 : decode cX3_sumOf 5 = .ok (.bipush 40, 2) := by decide +kernel
theorem dX3_sumOf_7 : decode cX3_sumOf 7 = .ok (.if_icmp .gt 18, 3) := by decide +kernel
theorem dX3_sumOf_10 : decode cX3_sumOf 10 = .ok (.iload_n 2, 1) := by decide +kernel
theorem dX3_sumOf_11 : decode cX3_sumOf 11 = .ok (.aload_n 0, 1) := by decide +kernel
theorem dX3_sumOf_12 : decode cX3_sumOf 12 = .ok (.iload_n 3, 1) := by decide +kernel
theorem dX3_sumOf_13 : decode cX3_sumOf 13 = .ok (.iload_n 1, 1) := by decide +kernel
theorem dX3_sumOf_14 : decode cX3_sumOf 14 = .ok (.invokevirtual 59, 3) := by decide +kernel
theorem dX3_sumOf_17 : decode cX3_sumOf 17 = .ok (.iadd, 1) := by decide +kernel
theorem dX3_sumOf_18 : decode cX3_sumOf 18 = .ok (.istore_n 2, 1) := by decide +kernel
theorem dX3_sumOf_19 : decode cX3_sumOf 19 = .ok (.iinc 3 1, 3) := by decide +kernel
theorem dX3_sumOf_22 : decode cX3_sumOf 22 = .ok (.goto (-18), 3) := by decide +kernel
theorem dX3_sumOf_25 : decode cX3_sumOf 25 = .ok (.iload_n 2, 1) := by decide +kernel
theorem dX3_sumOf_26 : decode cX3_sumOf 26 = .ok (.ireturn, 1) := by decide +kernel
theorem dX3_advance_0 : decode cX3_advance 0 = .ok (.aload_n 0, 1) := by decide +kernel
theorem dX3_advance_1 : decode cX3_advance 1 = .ok (.aload_n 1, 1) := by decide +kernel
theorem dX3_advance_2 : decode cX3_advance 2 = .ok (.invokevirtual 62, 3) := by decide +kernel
theorem dX3_advance_5 : decode cX3_advance 5 = .ok (.istore_n 2, 1) := by decide +kernel
theorem dX3_advance_6 : decode cX3_advance 6 = .ok (.aload_n 1, 1) := by decide +kernel
theorem dX3_advance_7 : decode cX3_advance 7 = .ok (.iload_n 2, 1) := by decide +kernel
theorem dX3_advance_8 : decode cX3_advance 8 = .ok (.invokevirtual 66, 3) := by decide +kernel
theorem dX3_advance_11 : decode cX3_advance 11 = .ok (.istore_n 3, 1) := by decide +kernel
theorem dX3_advance_12 : decode cX3_advance 12 = .ok (.iload_n 3, 1) := by decide +kernel
theorem dX3_advance_13 : decode cX3_advance 13 = .ok (.ifCond .eq 10, 3) := by decide +kernel
theorem dX3_advance_16 : decode cX3_advance 16 = .ok (.aload_n 0, 1) := by decide +kernel
theorem dX3_advance_17 : decode cX3_advance 17 = .ok (.getfield 24, 3) := by decide +kernel
theorem dX3_advance_20 : decode cX3_advance 20 = .ok (.goto 7, 3) := by decide +kernel
theorem dX3_advance_23 : decode cX3_advance 23 = .ok (.aload_n 0, 1) := by decide +kernel
theorem dX3_advance_24 : decode cX3_advance 24 = .ok (.getfield 44, 3) := by decide +kernel
theorem dX3_advance_27 : decode cX3_advance 27 = .ok (.istore 4, 2) := by decide +kernel
theorem dX3_advance_29 : decode cX3_advance 29 = .ok (.iload 4, 2) := by decide +kernel
theorem dX3_advance_31 : decode cX3_advance 31 = .ok (.iload_n 3, 1) := by decide +kernel
theorem dX3_advance_32 : decode cX3_advance 32 = .ok (.ifCond .eq 7, 3) := by decide +kernel
theorem dX3_advance_35 : decode cX3_advance 35 = .ok (.iconst 1, 1) := by decide +kernel
theorem dX3_advance_36 : decode cX3_advance 36 = .ok (.goto 7, 3) := by decide +kernel
theorem dX3_advance_39 : decode cX3_advance 39 = .ok (.aload_n 1, 1) := by decide +kernel
theorem dX3_advance_40 : decode cX3_advance 40 = .ok (.invokevirtual 40, 3) := by decide +kernel
theorem dX3_advance_43 : decode cX3_advance 43 = .ok (.if_icmp .ne 7, 3) := by decide +kernel
theorem dX3_advance_46 : decode cX3_advance 46 = .ok (.iconst 1, 1) := by decide +kernel
theorem dX3_advance_47 : decode cX3_advance 47 = .ok (.goto 4, 3) := by decide +kernel
theorem dX3_advance_50 : decode cX3_advance 50 = .ok (.iconst 0, 1) := by decide +kernel
theorem dX3_advance_51 : decode cX3_advance 51 = .ok (.istore 5, 2) := by decide +kernel
theorem dX3_advance_53 : decode cX3_advance 53 = .ok (.aload_n 1, 1) := by decide +kernel
theorem dX3_advance_54 : decode cX3_advance 54 = .ok (.aload_n 0, 1) := by decide +kernel
theorem dX3_advance_55 : decode cX3_advance 55 = .ok (.getfield 9, 3) := by decide +kernel
theorem dX3_advance_58 : decode cX3_advance 58 = .ok (.iload_n 2, 1) := by decide +kernel
theorem dX3_advance_59 : decode cX3_advance 59 = .ok (.iaload, 1) := by decide +kernel
theorem dX3_advance_60 : decode cX3_advance 60 = .ok (.invokevirtual 70, 3) := by decide +kernel
theorem dX3_advance_63 : decode cX3_advance 63 = .ok (.iload 5, 2) := by decide +kernel
theorem dX3_advance_65 : decode cX3_advance 65 = .ok (.ifCond .eq 7, 3) := by decide +kernel
theorem dX3_advance_68 : decode cX3_advance 68 = .ok (.iconst 0, 1) := by decide +kernel
theorem dX3_advance_69 : decode cX3_advance 69 = .ok (.goto 7, 3) := by decide +kernel
theorem dX3_advance_72 : decode cX3_advance 72 = .ok (.aload_n 1, 1) := by decide +kernel
theorem dX3_advance_73 : decode cX3_advance 73 = .ok (.invokevirtual 74, 3) := by decide +kernel
theorem dX3_advance_76 : decode cX3_advance 76 = .ok (.iadd, 1) := by decide +kernel
theorem dX3_advance_77 : decode cX3_advance 77 = .ok (.istore 6, 2) := by decide +kernel
theorem dX3_advance_79 : decode cX3_advance 79 = .ok (.aload_n 0, 1) := by decide +kernel
theorem dX3_advance_80 : decode cX3_advance 80 = .ok (.iload 4, 2) := by decide +kernel
theorem dX3_advance_82 : decode cX3_advance 82 = .ok (.iconst 0, 1) := by decide +kernel
theorem dX3_advance_83 : decode cX3_advance 83 = .ok (.iload_n 2, 1) := by decide +kernel
theorem dX3_advance_84 : decode cX3_advance 84 = .ok (.invokevirtual 77, 3) := by decide +kernel
theorem dX3_advance_87 : decode cX3_advance 87 = .ok (.aload_n 0, 1) := by decide +kernel
theorem dX3_advance_88 : decode cX3_advance 88 = .ok (.iload 4, 2) := by decide +kernel
theorem dX3_advance_90 : decode cX3_advance 90 = .ok (.iconst 1, 1) := by decide +kernel
theorem dX3_advance_91 : decode cX3_advance 91 = .ok (.iload 6, 2) := by decide +kernel
theorem dX3_advance_93 : decode cX3_advance 93 = .ok (.invokevirtual 77, 3) := by decide +kernel
theorem dX3_advance_96 : decode cX3_advance 96 = .ok (.aload_n 0, 1) := by decide +kernel
theorem dX3_advance_97 : decode cX3_advance 97 = .ok (.iload 4, 2) := by decide +kernel
theorem dX3_advance_99 : decode cX3_advance 99 = .ok (.iconst 2, 1) := by decide +kernel
theorem dX3_advance_100 : decode cX3_advance 100 = .ok (.iload 6, 2) := by decide +kernel
theorem dX3_advance_102 : decode cX3_advance 102 = .ok (.invokevirtual 77, 3) := by decide +kernel
theorem dX3_advance_105 : decode cX3_advance 105 = .ok (.aload_n 0, 1) := by decide +kernel
theorem dX3_advance_106 : decode cX3_advance 106 = .ok (.aload_n 1, 1) := by decide +kernel
theorem dX3_advance_107 : decode cX3_advance 107 = .ok (.iload 4, 2) := by decide +kernel
theorem dX3_advance_109 : decode cX3_advance 109 = .ok (.iconst 1, 1) := by decide +kernel
theorem dX3_advance_110 : decode cX3_advance 110 = .ok (.invokevirtual 81, 3) := by decide +kernel
theorem dX3_advance_113 : decode cX3_advance 113 = .ok (.aload_n 0, 1) := by decide +kernel
theorem dX3_advance_114 : decode cX3_advance 114 = .ok (.aload_n 1, 1) := by decide +kernel
theorem dX3_advance_115 : decode cX3_advance 115 = .ok (.iload 4, 2) := by decide +kernel
theorem dX3_advance_117 : decode cX3_advance 117 = .ok (.iconst 0, 1) := by decide +kernel
theorem dX3_advance_118 : decode cX3_advance 118 = .ok (.invokevirtual 81, 3) := by decide +kernel
theorem dX3_advance_121 : decode cX3_advance 121 = .ok (.aload_n 0, 1) := by decide +kernel
theorem dX3_advance_122 : decode cX3_advance 122 = .ok (.aload_n 1, 1) := by decide +kernel
theorem dX3_advance_123 : decode cX3_advance 123 = .ok (.iload 4, 2) := by decide +kernel
theorem dX3_advance_125 : decode cX3_advance 125 = .ok (.invokevirtual 85, 3) := by decide +kernel
theorem dX3_advance_128 : decode cX3_advance 128 = .ok (.aload_n 0, 1) := by decide +kernel
theorem dX3_advance_129 : decode cX3_advance 129 = .ok (.getfield 9, 3) := by decide +kernel
theorem dX3_advance_132 : decode cX3_advance 132 = .ok (.iload_n 2, 1) := by decide +kernel
theorem dX3_advance_133 : decode cX3_advance 133 = .ok (.aload_n 0, 1) := by decide +kernel
theorem dX3_advance_134 : decode cX3_advance 134 = .ok (.iload 4, 2) := by decide +kernel
theorem dX3_advance_136 : decode cX3_advance 136 = .ok (.iconst 2, 1) := by decide +kernel
theorem dX3_advance_137 : decode cX3_advance 137 = .ok (.invokevirtual 59, 3) := by decide +kernel
theorem dX3_advance_140 : decode cX3_advance 140 = .ok (.iastore, 1) := by decide +kernel
theorem dX3_advance_141 : decode cX3_advance 141 = .ok (.aload_n 0, 1) := by decide +kernel
theorem dX3_advance_142 : decode cX3_advance 142 = .ok (.dup, 1) := by decide +kernel
theorem dX3_advance_143 : decode cX3_advance 143 = .ok (.getfield 47, 3) := by decide +kernel
theorem dX3_advance_146 : decode cX3_advance 146 = .ok (.aload_n 1, 1) := by decide +kernel
theorem dX3_advance_147 : decode cX3_advance 147 = .ok (.iload 6, 2) := by decide +kernel
theorem dX3_advance_149 : decode cX3_advance 149 = .ok (.aload_n 0, 1) := by decide +kernel
theorem dX3_advance_150 : decode cX3_advance 150 = .ok (.getfield 9, 3) := by decide +kernel
theorem dX3_advance_153 : decode cX3_advance 153 = .ok (.iload_n 2, 1) := by decide +kernel
theorem dX3_advance_154 : decode cX3_advance 154 = .ok (.iaload, 1) := by decide +kernel
theorem dX3_advance_155 : decode cX3_advance 155 = .ok (.invokevirtual 89, 3) := by decide +kernel
theorem dX3_advance_158 : decode cX3_advance 158 = .ok (.iadd, 1) := by decide +kernel
theorem dX3_advance_159 : decode cX3_advance 159 = .ok (.putfield 47, 3) := by decide +kernel
theorem dX3_advance_162 : decode cX3_advance 162 = .ok (.iload_n 3, 1) := by decide +kernel
theorem dX3_advance_163 : decode cX3_advance 163 = .ok (.ifCond .eq 16, 3) := by decide +kernel
theorem dX3_advance_166 : decode cX3_advance 166 = .ok (.aload_n 0, 1) := by decide +kernel
theorem dX3_advance_167 : decode cX3_advance 167 = .ok (.dup, 1) := by decide +kernel
theorem dX3_advance_168 : decode cX3_advance 168 = .ok (.getfield 24, 3) := by decide +kernel
theorem dX3_advance_171 : decode cX3_advance 171 = .ok (.iconst 1, 1) := by decide +kernel
theorem dX3_advance_172 : decode cX3_advance 172 = .ok (.iadd, 1) := by decide +kernel
theorem dX3_advance_173 : decode cX3_advance 173 = .ok (.putfield 24, 3) := by decide +kernel
theorem dX3_advance_176 : decode cX3_advance 176 = .ok (.goto 13, 3) := by decide +kernel
theorem dX3_advance_179 : decode cX3_advance 179 = .ok (.aload_n 0, 1) := by decide +kernel
theorem dX3_advance_180 : decode cX3_advance 180 = .ok (.dup, 1) := by decide +kernel
theorem dX3_advance_181 : decode cX3_advance 181 = .ok (.getfield 44, 3) := by decide +kernel
theorem dX3_advance_184 : decode cX3_advance 184 = .ok (.iconst 1, 1) := by decide +kernel
theorem dX3_advance_185 : decode cX3_advance 185 = .ok (.isub, 1) := by decide +kernel
theorem dX3_advance_186 : decode cX3_advance 186 = .ok (.putfield 44, 3) := by decide +kernel
theorem dX3_advance_189 : decode cX3_advance 189 = .ok (.iload 4, 2) := by decide +kernel
theorem dX3_advance_191 : decode cX3_advance 191 = .ok (.ireturn, 1) := by decide +kernel
theorem dX3_nextTrolley_0 : decode cX3_nextTrolley 0 = .ok (.aload_n 1, 1) := by decide +kernel
theorem dX3_nextTrolley_1 : decode cX3_nextTrolley 1 = .ok (.iconst 5, 1) := by decide +kernel
theorem dX3_nextTrolley_2 : decode cX3_nextTrolley 2 = .ok (.invokevirtual 92, 3) := by decide +kernel
theorem dX3_nextTrolley_5 : decode cX3_nextTrolley 5 = .ok (.iconst 2, 1) := by decide +kernel
theorem dX3_nextTrolley_6 : decode cX3_nextTrolley 6 = .ok (.if_icmp .ge 5, 3) := by decide +kernel
theorem dX3_nextTrolley_9 : decode cX3_nextTrolley 9 = .ok (.iconst 0, 1) := by decide +kernel
theorem dX3_nextTrolley_10 : decode cX3_nextTrolley 10 = .ok (.ireturn, 1) := by decide +kernel
theorem dX3_nextTrolley_11 : decode cX3_nextTrolley 11 = .ok (.aload_n 0, 1) := by decide +kernel
theorem dX3_nextTrolley_12 : decode cX3_nextTrolley 12 = .ok (.getfield 9, 3) := by decide +kernel
theorem dX3_nextTrolley_15 : decode cX3_nextTrolley 15 = .ok (.iconst 0, 1) := by decide +kernel
theorem dX3_nextTrolley_16 : decode cX3_nextTrolley 16 = .ok (.iaload, 1) := by decide +kernel
theorem dX3_nextTrolley_17 : decode cX3_nextTrolley 17 = .ok (.aload_n 0, 1) := by decide +kernel
theorem dX3_nextTrolley_18 : decode cX3_nextTrolley 18 = .ok (.getfield 9, 3) := by decide +kernel
theorem dX3_nextTrolley_21 : decode cX3_nextTrolley 21 = .ok (.iconst 1, 1) := by decide +kernel
theorem dX3_nextTrolley_22 : decode cX3_nextTrolley 22 = .ok (.iaload, 1) := by decide +kernel
theorem dX3_nextTrolley_23 : decode cX3_nextTrolley 23 = .ok (.if_icmp .ne 17, 3) := by decide +kernel
theorem dX3_nextTrolley_26 : decode cX3_nextTrolley 26 = .ok (.aload_n 1, 1) := by decide +kernel
theorem dX3_nextTrolley_27 : decode cX3_nextTrolley 27 = .ok (.iconst 0, 1) := by decide +kernel
theorem dX3_nextTrolley_28 : decode cX3_nextTrolley 28 = .ok (.invokevirtual 66, 3) := by decide +kernel
theorem dX3_nextTrolley_31 : decode cX3_nextTrolley 31 = .ok (.ifCond .eq 7, 3) := by decide +kernel
theorem dX3_nextTrolley_34 : decode cX3_nextTrolley 34 = .ok (.iconst 0, 1) := by decide +kernel
theorem dX3_nextTrolley_35 : decode cX3_nextTrolley 35 = .ok (.goto 4, 3) := by decide +kernel
theorem dX3_nextTrolley_38 : decode cX3_nextTrolley 38 = .ok (.iconst 1, 1) := by decide +kernel
theorem dX3_nextTrolley_39 : decode cX3_nextTrolley 39 = .ok (.ireturn, 1) := by decide +kernel
theorem dX3_nextTrolley_40 : decode cX3_nextTrolley 40 = .ok (.aload_n 0, 1) := by decide +kernel
theorem dX3_nextTrolley_41 : decode cX3_nextTrolley 41 = .ok (.getfield 9, 3) := by decide +kernel
theorem dX3_nextTrolley_44 : decode cX3_nextTrolley 44 = .ok (.iconst 0, 1) := by decide +kernel
theorem dX3_nextTrolley_45 : decode cX3_nextTrolley 45 = .ok (.iaload, 1) := by decide +kernel
theorem dX3_nextTrolley_46 : decode cX3_nextTrolley 46 = .ok (.aload_n 0, 1) := by decide +kernel
theorem dX3_nextTrolley_47 : decode cX3_nextTrolley 47 = .ok (.getfield 9, 3) := by decide +kernel
theorem dX3_nextTrolley_50 : decode cX3_nextTrolley 50 = .ok (.iconst 1, 1) := by decide +kernel
theorem dX3_nextTrolley_51 : decode cX3_nextTrolley 51 = .ok (.iaload, 1) := by decide +kernel
theorem dX3_nextTrolley_52 : decode cX3_nextTrolley 52 = .ok (.if_icmp .ge 7, 3) := by decide +kernel
theorem dX3_nextTrolley_55 : decode cX3_nextTrolley 55 = .ok (.iconst 0, 1) := by decide +kernel
theorem dX3_nextTrolley_56 : decode cX3_nextTrolley 56 = .ok (.goto 4, 3) := by decide +kernel
theorem dX3_nextTrolley_59 : decode cX3_nextTrolley 59 = .ok (.iconst 1, 1) := by decide +kernel
theorem dX3_nextTrolley_60 : decode cX3_nextTrolley 60 = .ok (.ireturn, 1) := by decide +kernel
theorem dX3_serveNamed_0 : decode cX3_serveNamed 0 = .ok (.iconst 0, 1) := by decide +kernel
theorem dX3_serveNamed_1 : decode cX3_serveNamed 1 = .ok (.istore 4, 2) := by decide +kernel
theorem dX3_serveNamed_3 : decode cX3_serveNamed 3 = .ok (.iload 4, 2) := by decide +kernel
theorem dX3_serveNamed_5 : decode cX3_serveNamed 5 = .ok (.aload_n 1, 1) := by decide +kernel
theorem dX3_serveNamed_6 : decode cX3_serveNamed 6 = .ok (.bipush 8, 2) := by decide +kernel
theorem dX3_serveNamed_8 : decode cX3_serveNamed 8 = .ok (.invokevirtual 92, 3) := by decide +kernel
theorem dX3_serveNamed_11 : decode cX3_serveNamed 11 = .ok (.if_icmp .ge 94, 3) := by decide +kernel
theorem dX3_serveNamed_14 : decode cX3_serveNamed 14 = .ok (.iload 4, 2) := by decide +kernel
theorem dX3_serveNamed_16 : decode cX3_serveNamed 16 = .ok (.bipush 6, 2) := by decide +kernel
theorem dX3_serveNamed_18 : decode cX3_serveNamed 18 = .ok (.if_icmp .ge 87, 3) := by decide +kernel
theorem dX3_serveNamed_21 : decode cX3_serveNamed 21 = .ok (.aload_n 1, 1) := by decide +kernel
theorem dX3_serveNamed_22 : decode cX3_serveNamed 22 = .ok (.bipush 8, 2) := by decide +kernel
theorem dX3_serveNamed_24 : decode cX3_serveNamed 24 = .ok (.iload 4, 2) := by decide +kernel
theorem dX3_serveNamed_26 : decode cX3_serveNamed 26 = .ok (.iconst 0, 1) := by decide +kernel
theorem dX3_serveNamed_27 : decode cX3_serveNamed 27 = .ok (.invokevirtual 95, 3) := by decide +kernel
theorem dX3_serveNamed_30 : decode cX3_serveNamed 30 = .ok (.iload_n 2, 1) := by decide +kernel
theorem dX3_serveNamed_31 : decode cX3_serveNamed 31 = .ok (.if_icmp .ne 68, 3) := by decide +kernel
theorem dX3_serveNamed_34 : decode cX3_serveNamed 34 = .ok (.aload_n 1, 1) := by decide +kernel
theorem dX3_serveNamed_35 : decode cX3_serveNamed 35 = .ok (.bipush 8, 2) := by decide +kernel
theorem dX3_serveNamed_37 : decode cX3_serveNamed 37 = .ok (.iload 4, 2) := by decide +kernel
theorem dX3_serveNamed_39 : decode cX3_serveNamed 39 = .ok (.iconst 2, 1) := by decide +kernel
theorem dX3_serveNamed_40 : decode cX3_serveNamed 40 = .ok (.invokevirtual 95, 3) := by decide +kernel
theorem dX3_serveNamed_43 : decode cX3_serveNamed 43 = .ok (.iload_n 3, 1) := by decide +kernel
theorem dX3_serveNamed_44 : decode cX3_serveNamed 44 = .ok (.if_icmp .ne 55, 3) := by decide +kernel
theorem dX3_serveNamed_47 : decode cX3_serveNamed 47 = .ok (.aload_n 1, 1) := by decide +kernel
theorem dX3_serveNamed_48 : decode cX3_serveNamed 48 = .ok (.bipush 8, 2) := by decide +kernel
theorem dX3_serveNamed_50 : decode cX3_serveNamed 50 = .ok (.iload 4, 2) := by decide +kernel
theorem dX3_serveNamed_52 : decode cX3_serveNamed 52 = .ok (.iconst 1, 1) := by decide +kernel
theorem dX3_serveNamed_53 : decode cX3_serveNamed 53 = .ok (.invokevirtual 95, 3) := by decide +kernel
theorem dX3_serveNamed_56 : decode cX3_serveNamed 56 = .ok (.istore 5, 2) := by decide +kernel
theorem dX3_serveNamed_58 : decode cX3_serveNamed 58 = .ok (.aload_n 0, 1) := by decide +kernel
theorem dX3_serveNamed_59 : decode cX3_serveNamed 59 = .ok (.aload_n 0, 1) := by decide +kernel
theorem dX3_serveNamed_60 : decode cX3_serveNamed 60 = .ok (.iload_n 2, 1) := by decide +kernel
theorem dX3_serveNamed_61 : decode cX3_serveNamed 61 = .ok (.iconst 0, 1) := by decide +kernel
theorem dX3_serveNamed_62 : decode cX3_serveNamed 62 = .ok (.invokevirtual 59, 3) := by decide +kernel
theorem dX3_serveNamed_65 : decode cX3_serveNamed 65 = .ok (.iload 5, 2) := by decide +kernel
theorem dX3_serveNamed_67 : decode cX3_serveNamed 67 = .ok (.invokevirtual 99, 3) := by decide +kernel
theorem dX3_serveNamed_70 : decode cX3_serveNamed 70 = .ok (.ifCond .le 22, 3) := by decide +kernel
theorem dX3_serveNamed_73 : decode cX3_serveNamed 73 = .ok (.aload_n 0, 1) := by decide +kernel
theorem dX3_serveNamed_74 : decode cX3_serveNamed 74 = .ok (.aload_n 1, 1) := by decide +kernel
theorem dX3_serveNamed_75 : decode cX3_serveNamed 75 = .ok (.iload_n 2, 1) := by decide +kernel
theorem dX3_serveNamed_76 : decode cX3_serveNamed 76 = .ok (.iload 5, 2) := by decide +kernel
theorem dX3_serveNamed_78 : decode cX3_serveNamed 78 = .ok (.invokevirtual 102, 3) := by decide +kernel
theorem dX3_serveNamed_81 : decode cX3_serveNamed 81 = .ok (.aload_n 0, 1) := by decide +kernel
theorem dX3_serveNamed_82 : decode cX3_serveNamed 82 = .ok (.getfield 21, 3) := by decide +kernel
theorem dX3_serveNamed_85 : decode cX3_serveNamed 85 = .ok (.iload 4, 2) := by decide +kernel
theorem dX3_serveNamed_87 : decode cX3_serveNamed 87 = .ok (.iconst 1, 1) := by decide +kernel
theorem dX3_serveNamed_88 : decode cX3_serveNamed 88 = .ok (.iastore, 1) := by decide +kernel
theorem dX3_serveNamed_89 : decode cX3_serveNamed 89 = .ok (.goto 10, 3) := by decide +kernel
theorem dX3_serveNamed_92 : decode cX3_serveNamed 92 = .ok (.aload_n 0, 1) := by decide +kernel
theorem dX3_serveNamed_93 : decode cX3_serveNamed 93 = .ok (.iload_n 2, 1) := by decide +kernel
theorem dX3_serveNamed_94 : decode cX3_serveNamed 94 = .ok (.iconst 4, 1) := by decide +kernel
theorem dX3_serveNamed_95 : decode cX3_serveNamed 95 = .ok (.iconst 1, 1) := by decide +kernel
theorem dX3_serveNamed_96 : decode cX3_serveNamed 96 = .ok (.invokevirtual 77, 3) := by decide +kernel
theorem dX3_serveNamed_99 : decode cX3_serveNamed 99 = .ok (.iinc 4 1, 3) := by decide +kernel
theorem dX3_serveNamed_102 : decode cX3_serveNamed 102 = .ok (.goto (-99), 3) := by decide +kernel
theorem dX3_serveNamed_105 : decode cX3_serveNamed 105 = .ok (.return_, 1) := by decide +kernel
theorem dX3_serveOthers_0 : decode cX3_serveOthers 0 = .ok (.aload_n 1, 1) := by decide +kernel
theorem dX3_serveOthers_1 : decode cX3_serveOthers 1 = .ok (.iload_n 2, 1) := by decide +kernel
theorem dX3_serveOthers_2 : decode cX3_serveOthers 2 = .ok (.invokevirtual 105, 3) := by decide +kernel
theorem dX3_serveOthers_5 : decode cX3_serveOthers 5 = .ok (.istore_n 3, 1) := by decide +kernel
theorem dX3_serveOthers_6 : decode cX3_serveOthers 6 = .ok (.iconst 1, 1) := by decide +kernel
theorem dX3_serveOthers_7 : decode cX3_serveOthers 7 = .ok (.aload_n 1, 1) := by decide +kernel
theorem dX3_serveOthers_8 : decode cX3_serveOthers 8 = .ok (.iload_n 2, 1) := by decide +kernel
theorem dX3_serveOthers_9 : decode cX3_serveOthers 9 = .ok (.invokevirtual 108, 3) := by decide +kernel
theorem dX3_serveOthers_12 : decode cX3_serveOthers 12 = .ok (.invokestatic 111, 3) := by decide +kernel
theorem dX3_serveOthers_15 : decode cX3_serveOthers 15 = .ok (.istore 4, 2) := by decide +kernel
theorem dX3_serveOthers_17 : decode cX3_serveOthers 17 = .ok (.aload_n 0, 1) := by decide +kernel
theorem dX3_serveOthers_18 : decode cX3_serveOthers 18 = .ok (.iload_n 2, 1) := by decide +kernel
theorem dX3_serveOthers_19 : decode cX3_serveOthers 19 = .ok (.iconst 0, 1) := by decide +kernel
theorem dX3_serveOthers_20 : decode cX3_serveOthers 20 = .ok (.invokevirtual 59, 3) := by decide +kernel
theorem dX3_serveOthers_23 : decode cX3_serveOthers 23 = .ok (.istore 5, 2) := by decide +kernel
theorem dX3_serveOthers_25 : decode cX3_serveOthers 25 = .ok (.iconst 0, 1) := by decide +kernel
theorem dX3_serveOthers_26 : decode cX3_serveOthers 26 = .ok (.istore 6, 2) := by decide +kernel
theorem dX3_serveOthers_28 : decode cX3_serveOthers 28 = .ok (.iload 6, 2) := by decide +kernel
theorem dX3_serveOthers_30 : decode cX3_serveOthers 30 = .ok (.iload_n 3, 1) := by decide +kernel
theorem dX3_serveOthers_31 : decode cX3_serveOthers 31 = .ok (.if_icmp .ge 106, 3) := by decide +kernel
theorem dX3_serveOthers_34 : decode cX3_serveOthers 34 = .ok (.aload_n 0, 1) := by decide +kernel
theorem dX3_serveOthers_35 : decode cX3_serveOthers 35 = .ok (.bipush 75, 2) := by decide +kernel
theorem dX3_serveOthers_37 : decode cX3_serveOthers 37 = .ok (.aload_n 0, 1) := by decide +kernel
theorem dX3_serveOthers_38 : decode cX3_serveOthers 38 = .ok (.getfield 50, 3) := by decide +kernel
theorem dX3_serveOthers_41 : decode cX3_serveOthers 41 = .ok (.imul, 1) := by decide +kernel
theorem dX3_serveOthers_42 : decode cX3_serveOthers 42 = .ok (.bipush 74, 2) := by decide +kernel
theorem dX3_serveOthers_44 : decode cX3_serveOthers 44 = .ok (.iadd, 1) := by decide +kernel
theorem dX3_serveOthers_45 : decode cX3_serveOthers 45 = .ok (.ldc 116, 2) := by decide +kernel
theorem dX3_serveOthers_47 : decode cX3_serveOthers 47 = .ok (.irem, 1) := by decide +kernel
theorem dX3_serveOthers_48 : decode cX3_serveOthers 48 = .ok (.putfield 50, 3) := by decide +kernel
theorem dX3_serveOthers_51 : decode cX3_serveOthers 51 = .ok (.aload_n 1, 1) := by decide +kernel
theorem dX3_serveOthers_52 : decode cX3_serveOthers 52 = .ok (.iload_n 2, 1) := by decide +kernel
theorem dX3_serveOthers_53 : decode cX3_serveOthers 53 = .ok (.aload_n 0, 1) := by decide +kernel
theorem dX3_serveOthers_54 : decode cX3_serveOthers 54 = .ok (.getfield 50, 3) := by decide +kernel
theorem dX3_serveOthers_57 : decode cX3_serveOthers 57 = .ok (.iload 4, 2) := by decide +kernel
theorem dX3_serveOthers_59 : decode cX3_serveOthers 59 = .ok (.irem, 1) := by decide +kernel
theorem dX3_serveOthers_60 : decode cX3_serveOthers 60 = .ok (.invokevirtual 117, 3) := by decide +kernel
theorem dX3_serveOthers_63 : decode cX3_serveOthers 63 = .ok (.istore 7, 2) := by decide +kernel
theorem dX3_serveOthers_65 : decode cX3_serveOthers 65 = .ok (.aload_n 0, 1) := by decide +kernel
theorem dX3_serveOthers_66 : decode cX3_serveOthers 66 = .ok (.iload 5, 2) := by decide +kernel
theorem dX3_serveOthers_68 : decode cX3_serveOthers 68 = .ok (.iload 7, 2) := by decide +kernel
theorem dX3_serveOthers_70 : decode cX3_serveOthers 70 = .ok (.invokevirtual 99, 3) := by decide +kernel
theorem dX3_serveOthers_73 : decode cX3_serveOthers 73 = .ok (.ifCond .le 8, 3) := by decide +kernel
theorem dX3_serveOthers_76 : decode cX3_serveOthers 76 = .ok (.iload 7, 2) := by decide +kernel
theorem dX3_serveOthers_78 : decode cX3_serveOthers 78 = .ok (.goto 9, 3) := by decide +kernel
theorem dX3_serveOthers_81 : decode cX3_serveOthers 81 = .ok (.aload_n 0, 1) := by decide +kernel
theorem dX3_serveOthers_82 : decode cX3_serveOthers 82 = .ok (.iload 5, 2) := by decide +kernel
theorem dX3_serveOthers_84 : decode cX3_serveOthers 84 = .ok (.invokevirtual 120, 3) := by decide +kernel
theorem dX3_serveOthers_87 : decode cX3_serveOthers 87 = .ok (.istore 8, 2) := by decide +kernel
theorem dX3_serveOthers_89 : decode cX3_serveOthers 89 = .ok (.iload 8, 2) := by decide +kernel
theorem dX3_serveOthers_91 : decode cX3_serveOthers 91 = .ok (.iconst (-1), 1) := by decide +kernel
theorem dX3_serveOthers_92 : decode cX3_serveOthers 92 = .ok (.if_icmp .ne 13, 3) := by decide +kernel
theorem dX3_serveOthers_95 : decode cX3_serveOthers 95 = .ok (.aload_n 0, 1) := by decide +kernel
theorem dX3_serveOthers_96 : decode cX3_serveOthers 96 = .ok (.iload_n 2, 1) := by decide +kernel
theorem dX3_serveOthers_97 : decode cX3_serveOthers 97 = .ok (.iconst 4, 1) := by decide +kernel
theorem dX3_serveOthers_98 : decode cX3_serveOthers 98 = .ok (.iconst 1, 1) := by decide +kernel
theorem dX3_serveOthers_99 : decode cX3_serveOthers 99 = .ok (.invokevirtual 77, 3) := by decide +kernel
theorem dX3_serveOthers_102 : decode cX3_serveOthers 102 = .ok (.goto 29, 3) := by decide +kernel
theorem dX3_serveOthers_105 : decode cX3_serveOthers 105 = .ok (.aload_n 0, 1) := by decide +kernel
theorem dX3_serveOthers_106 : decode cX3_serveOthers 106 = .ok (.iload_n 2, 1) := by decide +kernel
theorem dX3_serveOthers_107 : decode cX3_serveOthers 107 = .ok (.iconst 3, 1) := by decide +kernel
theorem dX3_serveOthers_108 : decode cX3_serveOthers 108 = .ok (.iload 8, 2) := by decide +kernel
theorem dX3_serveOthers_110 : decode cX3_serveOthers 110 = .ok (.iload 7, 2) := by decide +kernel
theorem dX3_serveOthers_112 : decode cX3_serveOthers 112 = .ok (.if_icmp .ne 7, 3) := by decide +kernel
theorem dX3_serveOthers_115 : decode cX3_serveOthers 115 = .ok (.iconst 0, 1) := by decide +kernel
theorem dX3_serveOthers_116 : decode cX3_serveOthers 116 = .ok (.goto 4, 3) := by decide +kernel
theorem dX3_serveOthers_119 : decode cX3_serveOthers 119 = .ok (.iconst 1, 1) := by decide +kernel
theorem dX3_serveOthers_120 : decode cX3_serveOthers 120 = .ok (.invokevirtual 77, 3) := by decide +kernel
theorem dX3_serveOthers_123 : decode cX3_serveOthers 123 = .ok (.aload_n 0, 1) := by decide +kernel
theorem dX3_serveOthers_124 : decode cX3_serveOthers 124 = .ok (.aload_n 1, 1) := by decide +kernel
theorem dX3_serveOthers_125 : decode cX3_serveOthers 125 = .ok (.iload_n 2, 1) := by decide +kernel
theorem dX3_serveOthers_126 : decode cX3_serveOthers 126 = .ok (.iload 8, 2) := by decide +kernel
theorem dX3_serveOthers_128 : decode cX3_serveOthers 128 = .ok (.invokevirtual 102, 3) := by decide +kernel
theorem dX3_serveOthers_131 : decode cX3_serveOthers 131 = .ok (.iinc 6 1, 3) := by decide +kernel
theorem dX3_serveOthers_134 : decode cX3_serveOthers 134 = .ok (.goto (-106), 3) := by decide +kernel
theorem dX3_serveOthers_137 : decode cX3_serveOthers 137 = .ok (.return_, 1) := by decide +kernel
theorem dX3_mostLeft_0 : decode cX3_mostLeft 0 = .ok (.iconst (-1), 1) := by decide +kernel
theorem dX3_mostLeft_1 : decode cX3_mostLeft 1 = .ok (.istore_n 2, 1) := by decide +kernel
theorem dX3_mostLeft_2 : decode cX3_mostLeft 2 = .ok (.iconst 0, 1) := by decide +kernel
theorem dX3_mostLeft_3 : decode cX3_mostLeft 3 = .ok (.istore_n 3, 1) := by decide +kernel
theorem dX3_mostLeft_4 : decode cX3_mostLeft 4 = .ok (.iload_n 3, 1) := by decide +kernel
theorem dX3_mostLeft_5 : decode cX3_mostLeft 5 = .ok (.iconst 4, 1) := by decide +kernel
theorem dX3_mostLeft_6 : decode cX3_mostLeft 6 = .ok (.if_icmp .ge 35, 3) := by decide +kernel
theorem dX3_mostLeft_9 : decode cX3_mostLeft 9 = .ok (.aload_n 0, 1) := by decide +kernel
theorem dX3_mostLeft_10 : decode cX3_mostLeft 10 = .ok (.iload_n 1, 1) := by decide +kernel
theorem dX3_mostLeft_11 : decode cX3_mostLeft 11 = .ok (.iload_n 3, 1) := by decide +kernel
theorem dX3_mostLeft_12 : decode cX3_mostLeft 12 = .ok (.invokevirtual 99, 3) := by decide +kernel
theorem dX3_mostLeft_15 : decode cX3_mostLeft 15 = .ok (.iload_n 2, 1) := by decide +kernel
theorem dX3_mostLeft_16 : decode cX3_mostLeft 16 = .ok (.iconst (-1), 1) := by decide +kernel
theorem dX3_mostLeft_17 : decode cX3_mostLeft 17 = .ok (.if_icmp .ne 7, 3) := by decide +kernel
theorem dX3_mostLeft_20 : decode cX3_mostLeft 20 = .ok (.iconst 0, 1) := by decide +kernel
theorem dX3_mostLeft_21 : decode cX3_mostLeft 21 = .ok (.goto 9, 3) := by decide +kernel
theorem dX3_mostLeft_24 : decode cX3_mostLeft 24 = .ok (.aload_n 0, 1) := by decide +kernel
theorem dX3_mostLeft_25 : decode cX3_mostLeft 25 = .ok (.iload_n 1, 1) := by decide +kernel
theorem dX3_mostLeft_26 : decode cX3_mostLeft 26 = .ok (.iload_n 2, 1) := by decide +kernel
theorem dX3_mostLeft_27 : decode cX3_mostLeft 27 = .ok (.invokevirtual 99, 3) := by decide +kernel
theorem dX3_mostLeft_30 : decode cX3_mostLeft 30 = .ok (.if_icmp .le 5, 3) := by decide +kernel
theorem dX3_mostLeft_33 : decode cX3_mostLeft 33 = .ok (.iload_n 3, 1) := by decide +kernel
theorem dX3_mostLeft_34 : decode cX3_mostLeft 34 = .ok (.istore_n 2, 1) := by decide +kernel
theorem dX3_mostLeft_35 : decode cX3_mostLeft 35 = .ok (.iinc 3 1, 3) := by decide +kernel
theorem dX3_mostLeft_38 : decode cX3_mostLeft 38 = .ok (.goto (-34), 3) := by decide +kernel
theorem dX3_mostLeft_41 : decode cX3_mostLeft 41 = .ok (.iload_n 2, 1) := by decide +kernel
theorem dX3_mostLeft_42 : decode cX3_mostLeft 42 = .ok (.ireturn, 1) := by decide +kernel
theorem dX3_hand_0 : decode cX3_hand 0 = .ok (.aload_n 0, 1) := by decide +kernel
theorem dX3_hand_1 : decode cX3_hand 1 = .ok (.iload_n 2, 1) := by decide +kernel
theorem dX3_hand_2 : decode cX3_hand 2 = .ok (.iconst 0, 1) := by decide +kernel
theorem dX3_hand_3 : decode cX3_hand 3 = .ok (.invokevirtual 59, 3) := by decide +kernel
theorem dX3_hand_6 : decode cX3_hand 6 = .ok (.iconst 4, 1) := by decide +kernel
theorem dX3_hand_7 : decode cX3_hand 7 = .ok (.imul, 1) := by decide +kernel
theorem dX3_hand_8 : decode cX3_hand 8 = .ok (.iload_n 3, 1) := by decide +kernel
theorem dX3_hand_9 : decode cX3_hand 9 = .ok (.iadd, 1) := by decide +kernel
theorem dX3_hand_10 : decode cX3_hand 10 = .ok (.istore 4, 2) := by decide +kernel
theorem dX3_hand_12 : decode cX3_hand 12 = .ok (.iload 4, 2) := by decide +kernel
theorem dX3_hand_14 : decode cX3_hand 14 = .ok (.ifCond .lt 24, 3) := by decide +kernel
theorem dX3_hand_17 : decode cX3_hand 17 = .ok (.iload 4, 2) := by decide +kernel
theorem dX3_hand_19 : decode cX3_hand 19 = .ok (.aload_n 0, 1) := by decide +kernel
theorem dX3_hand_20 : decode cX3_hand 20 = .ok (.getfield 15, 3) := by decide +kernel
theorem dX3_hand_23 : decode cX3_hand 23 = .ok (.arraylength, 1) := by decide +kernel
theorem dX3_hand_24 : decode cX3_hand 24 = .ok (.if_icmp .ge 14, 3) := by decide +kernel
theorem dX3_hand_27 : decode cX3_hand 27 = .ok (.aload_n 0, 1) := by decide +kernel
theorem dX3_hand_28 : decode cX3_hand 28 = .ok (.getfield 15, 3) := by decide +kernel
theorem dX3_hand_31 : decode cX3_hand 31 = .ok (.iload 4, 2) := by decide +kernel
theorem dX3_hand_33 : decode cX3_hand 33 = .ok (.dup2, 1) := by decide +kernel
theorem dX3_hand_34 : decode cX3_hand 34 = .ok (.iaload, 1) := by decide +kernel
theorem dX3_hand_35 : decode cX3_hand 35 = .ok (.iconst 1, 1) := by decide +kernel
theorem dX3_hand_36 : decode cX3_hand 36 = .ok (.isub, 1) := by decide +kernel
theorem dX3_hand_37 : decode cX3_hand 37 = .ok (.iastore, 1) := by decide +kernel
theorem dX3_hand_38 : decode cX3_hand 38 = .ok (.aload_n 0, 1) := by decide +kernel
theorem dX3_hand_39 : decode cX3_hand 39 = .ok (.iload_n 2, 1) := by decide +kernel
theorem dX3_hand_40 : decode cX3_hand 40 = .ok (.iconst 2, 1) := by decide +kernel
theorem dX3_hand_41 : decode cX3_hand 41 = .ok (.aload_n 1, 1) := by decide +kernel
theorem dX3_hand_42 : decode cX3_hand 42 = .ok (.invokevirtual 123, 3) := by decide +kernel
theorem dX3_hand_45 : decode cX3_hand 45 = .ok (.invokevirtual 77, 3) := by decide +kernel
theorem dX3_hand_48 : decode cX3_hand 48 = .ok (.aload_n 0, 1) := by decide +kernel
theorem dX3_hand_49 : decode cX3_hand 49 = .ok (.iload_n 2, 1) := by decide +kernel
theorem dX3_hand_50 : decode cX3_hand 50 = .ok (.bipush 6, 2) := by decide +kernel
theorem dX3_hand_52 : decode cX3_hand 52 = .ok (.iconst 1, 1) := by decide +kernel
theorem dX3_hand_53 : decode cX3_hand 53 = .ok (.invokevirtual 77, 3) := by decide +kernel
theorem dX3_hand_56 : decode cX3_hand 56 = .ok (.aload_n 0, 1) := by decide +kernel
theorem dX3_hand_57 : decode cX3_hand 57 = .ok (.iload_n 2, 1) := by decide +kernel
theorem dX3_hand_58 : decode cX3_hand 58 = .ok (.bipush 7, 2) := by decide +kernel
theorem dX3_hand_60 : decode cX3_hand 60 = .ok (.iload_n 3, 1) := by decide +kernel
theorem dX3_hand_61 : decode cX3_hand 61 = .ok (.iadd, 1) := by decide +kernel
theorem dX3_hand_62 : decode cX3_hand 62 = .ok (.iconst 1, 1) := by decide +kernel
theorem dX3_hand_63 : decode cX3_hand 63 = .ok (.invokevirtual 77, 3) := by decide +kernel
theorem dX3_hand_66 : decode cX3_hand 66 = .ok (.aload_n 1, 1) := by decide +kernel
theorem dX3_hand_67 : decode cX3_hand 67 = .ok (.iload_n 3, 1) := by decide +kernel
theorem dX3_hand_68 : decode cX3_hand 68 = .ok (.aload_n 0, 1) := by decide +kernel
theorem dX3_hand_69 : decode cX3_hand 69 = .ok (.iload_n 2, 1) := by decide +kernel
theorem dX3_hand_70 : decode cX3_hand 70 = .ok (.iconst 2, 1) := by decide +kernel
theorem dX3_hand_71 : decode cX3_hand 71 = .ok (.invokevirtual 59, 3) := by decide +kernel
theorem dX3_hand_74 : decode cX3_hand 74 = .ok (.bipush 60, 2) := by decide +kernel
theorem dX3_hand_76 : decode cX3_hand 76 = .ok (.idiv, 1) := by decide +kernel
theorem dX3_hand_77 : decode cX3_hand 77 = .ok (.invokevirtual 126, 3) := by decide +kernel
theorem dX3_hand_80 : decode cX3_hand 80 = .ok (.ifCond .eq 10, 3) := by decide +kernel
theorem dX3_hand_83 : decode cX3_hand 83 = .ok (.aload_n 0, 1) := by decide +kernel
theorem dX3_hand_84 : decode cX3_hand 84 = .ok (.iload_n 2, 1) := by decide +kernel
theorem dX3_hand_85 : decode cX3_hand 85 = .ok (.iconst 5, 1) := by decide +kernel
theorem dX3_hand_86 : decode cX3_hand 86 = .ok (.iconst 1, 1) := by decide +kernel
theorem dX3_hand_87 : decode cX3_hand 87 = .ok (.invokevirtual 77, 3) := by decide +kernel
theorem dX3_hand_90 : decode cX3_hand 90 = .ok (.return_, 1) := by decide +kernel
theorem dX3_rowOf_0 : decode cX3_rowOf 0 = .ok (.iconst 1, 1) := by decide +kernel
theorem dX3_rowOf_1 : decode cX3_rowOf 1 = .ok (.istore 4, 2) := by decide +kernel
theorem dX3_rowOf_3 : decode cX3_rowOf 3 = .ok (.iload 4, 2) := by decide +kernel
theorem dX3_rowOf_5 : decode cX3_rowOf 5 = .ok (.aload_n 1, 1) := by decide +kernel
theorem dX3_rowOf_6 : decode cX3_rowOf 6 = .ok (.invokevirtual 40, 3) := by decide +kernel
theorem dX3_rowOf_9 : decode cX3_rowOf 9 = .ok (.if_icmp .gt 54, 3) := by decide +kernel
theorem dX3_rowOf_12 : decode cX3_rowOf 12 = .ok (.aload_n 0, 1) := by decide +kernel
theorem dX3_rowOf_13 : decode cX3_rowOf 13 = .ok (.iload 4, 2) := by decide +kernel
theorem dX3_rowOf_15 : decode cX3_rowOf 15 = .ok (.invokevirtual 130, 3) := by decide +kernel
theorem dX3_rowOf_18 : decode cX3_rowOf 18 = .ok (.ifCond .eq 39, 3) := by decide +kernel
theorem dX3_rowOf_21 : decode cX3_rowOf 21 = .ok (.aload_n 0, 1) := by decide +kernel
theorem dX3_rowOf_22 : decode cX3_rowOf 22 = .ok (.iload 4, 2) := by decide +kernel
theorem dX3_rowOf_24 : decode cX3_rowOf 24 = .ok (.iconst 0, 1) := by decide +kernel
theorem dX3_rowOf_25 : decode cX3_rowOf 25 = .ok (.invokevirtual 59, 3) := by decide +kernel
theorem dX3_rowOf_28 : decode cX3_rowOf 28 = .ok (.iload_n 2, 1) := by decide +kernel
theorem dX3_rowOf_29 : decode cX3_rowOf 29 = .ok (.if_icmp .ne 28, 3) := by decide +kernel
theorem dX3_rowOf_32 : decode cX3_rowOf 32 = .ok (.iload_n 3, 1) := by decide +kernel
theorem dX3_rowOf_33 : decode cX3_rowOf 33 = .ok (.aload_n 0, 1) := by decide +kernel
theorem dX3_rowOf_34 : decode cX3_rowOf 34 = .ok (.iload 4, 2) := by decide +kernel
theorem dX3_rowOf_36 : decode cX3_rowOf 36 = .ok (.iconst 1, 1) := by decide +kernel
theorem dX3_rowOf_37 : decode cX3_rowOf 37 = .ok (.invokevirtual 59, 3) := by decide +kernel
theorem dX3_rowOf_40 : decode cX3_rowOf 40 = .ok (.if_icmp .lt 17, 3) := by decide +kernel
theorem dX3_rowOf_43 : decode cX3_rowOf 43 = .ok (.iload_n 3, 1) := by decide +kernel
theorem dX3_rowOf_44 : decode cX3_rowOf 44 = .ok (.aload_n 0, 1) := by decide +kernel
theorem dX3_rowOf_45 : decode cX3_rowOf 45 = .ok (.aload_n 1, 1) := by decide +kernel
theorem dX3_rowOf_46 : decode cX3_rowOf 46 = .ok (.iload 4, 2) := by decide +kernel
theorem dX3_rowOf_48 : decode cX3_rowOf 48 = .ok (.invokevirtual 133, 3) := by decide +kernel
theorem dX3_rowOf_51 : decode cX3_rowOf 51 = .ok (.if_icmp .ge 6, 3) := by decide +kernel
theorem dX3_rowOf_54 : decode cX3_rowOf 54 = .ok (.iload 4, 2) := by decide +kernel
theorem dX3_rowOf_56 : decode cX3_rowOf 56 = .ok (.ireturn, 1) := by decide +kernel
theorem dX3_rowOf_57 : decode cX3_rowOf 57 = .ok (.iinc 4 1, 3) := by decide +kernel
theorem dX3_rowOf_60 : decode cX3_rowOf 60 = .ok (.goto (-57), 3) := by decide +kernel
theorem dX3_rowOf_63 : decode cX3_rowOf 63 = .ok (.iconst (-1), 1) := by decide +kernel
theorem dX3_rowOf_64 : decode cX3_rowOf 64 = .ok (.ireturn, 1) := by decide +kernel
theorem dX3_leaves_0 : decode cX3_leaves 0 = .ok (.aload_n 0, 1) := by decide +kernel
theorem dX3_leaves_1 : decode cX3_leaves 1 = .ok (.iload_n 2, 1) := by decide +kernel
theorem dX3_leaves_2 : decode cX3_leaves 2 = .ok (.iconst 0, 1) := by decide +kernel
theorem dX3_leaves_3 : decode cX3_leaves 3 = .ok (.invokevirtual 59, 3) := by decide +kernel
theorem dX3_leaves_6 : decode cX3_leaves 6 = .ok (.istore_n 3, 1) := by decide +kernel
theorem dX3_leaves_7 : decode cX3_leaves 7 = .ok (.aload_n 1, 1) := by decide +kernel
theorem dX3_leaves_8 : decode cX3_leaves 8 = .ok (.iload_n 3, 1) := by decide +kernel
theorem dX3_leaves_9 : decode cX3_leaves 9 = .ok (.invokevirtual 66, 3) := by decide +kernel
theorem dX3_leaves_12 : decode cX3_leaves 12 = .ok (.ifCond .eq 9, 3) := by decide +kernel
theorem dX3_leaves_15 : decode cX3_leaves 15 = .ok (.iload_n 2, 1) := by decide +kernel
theorem dX3_leaves_16 : decode cX3_leaves 16 = .ok (.iconst 1, 1) := by decide +kernel
theorem dX3_leaves_17 : decode cX3_leaves 17 = .ok (.iadd, 1) := by decide +kernel
theorem dX3_leaves_18 : decode cX3_leaves 18 = .ok (.goto 6, 3) := by decide +kernel
theorem dX3_leaves_21 : decode cX3_leaves 21 = .ok (.iload_n 2, 1) := by decide +kernel
theorem dX3_leaves_22 : decode cX3_leaves 22 = .ok (.iconst 1, 1) := by decide +kernel
theorem dX3_leaves_23 : decode cX3_leaves 23 = .ok (.isub, 1) := by decide +kernel
theorem dX3_leaves_24 : decode cX3_leaves 24 = .ok (.istore 4, 2) := by decide +kernel
theorem dX3_leaves_26 : decode cX3_leaves 26 = .ok (.iload 4, 2) := by decide +kernel
theorem dX3_leaves_28 : decode cX3_leaves 28 = .ok (.iconst 1, 1) := by decide +kernel
theorem dX3_leaves_29 : decode cX3_leaves 29 = .ok (.if_icmp .lt 36, 3) := by decide +kernel
theorem dX3_leaves_32 : decode cX3_leaves 32 = .ok (.iload 4, 2) := by decide +kernel
theorem dX3_leaves_34 : decode cX3_leaves 34 = .ok (.aload_n 1, 1) := by decide +kernel
theorem dX3_leaves_35 : decode cX3_leaves 35 = .ok (.invokevirtual 40, 3) := by decide +kernel
theorem dX3_leaves_38 : decode cX3_leaves 38 = .ok (.if_icmp .gt 27, 3) := by decide +kernel
theorem dX3_leaves_41 : decode cX3_leaves 41 = .ok (.aload_n 0, 1) := by decide +kernel
theorem dX3_leaves_42 : decode cX3_leaves 42 = .ok (.iload 4, 2) := by decide +kernel
theorem dX3_leaves_44 : decode cX3_leaves 44 = .ok (.invokevirtual 130, 3) := by decide +kernel
theorem dX3_leaves_47 : decode cX3_leaves 47 = .ok (.ifCond .eq 18, 3) := by decide +kernel
theorem dX3_leaves_50 : decode cX3_leaves 50 = .ok (.aload_n 0, 1) := by decide +kernel
theorem dX3_leaves_51 : decode cX3_leaves 51 = .ok (.iload 4, 2) := by decide +kernel
theorem dX3_leaves_53 : decode cX3_leaves 53 = .ok (.iconst 0, 1) := by decide +kernel
theorem dX3_leaves_54 : decode cX3_leaves 54 = .ok (.invokevirtual 59, 3) := by decide +kernel
theorem dX3_leaves_57 : decode cX3_leaves 57 = .ok (.iload_n 3, 1) := by decide +kernel
theorem dX3_leaves_58 : decode cX3_leaves 58 = .ok (.if_icmp .ne 7, 3) := by decide +kernel
theorem dX3_leaves_61 : decode cX3_leaves 61 = .ok (.iconst 1, 1) := by decide +kernel
theorem dX3_leaves_62 : decode cX3_leaves 62 = .ok (.goto 4, 3) := by decide +kernel
theorem dX3_leaves_65 : decode cX3_leaves 65 = .ok (.iconst 0, 1) := by decide +kernel
theorem dX3_leaves_66 : decode cX3_leaves 66 = .ok (.istore 5, 2) := by decide +kernel
theorem dX3_leaves_68 : decode cX3_leaves 68 = .ok (.iload 5, 2) := by decide +kernel
theorem dX3_leaves_70 : decode cX3_leaves 70 = .ok (.ifCond .eq 13, 3) := by decide +kernel
theorem dX3_leaves_73 : decode cX3_leaves 73 = .ok (.aload_n 0, 1) := by decide +kernel
theorem dX3_leaves_74 : decode cX3_leaves 74 = .ok (.iload 4, 2) := by decide +kernel
theorem dX3_leaves_76 : decode cX3_leaves 76 = .ok (.iconst 1, 1) := by decide +kernel
theorem dX3_leaves_77 : decode cX3_leaves 77 = .ok (.invokevirtual 59, 3) := by decide +kernel
theorem dX3_leaves_80 : decode cX3_leaves 80 = .ok (.goto 9, 3) := by decide +kernel
theorem dX3_leaves_83 : decode cX3_leaves 83 = .ok (.aload_n 0, 1) := by decide +kernel
theorem dX3_leaves_84 : decode cX3_leaves 84 = .ok (.iload_n 2, 1) := by decide +kernel
theorem dX3_leaves_85 : decode cX3_leaves 85 = .ok (.iconst 2, 1) := by decide +kernel
theorem dX3_leaves_86 : decode cX3_leaves 86 = .ok (.invokevirtual 59, 3) := by decide +kernel
theorem dX3_leaves_89 : decode cX3_leaves 89 = .ok (.ireturn, 1) := by decide +kernel
theorem dX3_waitOf_0 : decode cX3_waitOf 0 = .ok (.aload_n 1, 1) := by decide +kernel
theorem dX3_waitOf_1 : decode cX3_waitOf 1 = .ok (.bipush 11, 2) := by decide +kernel
theorem dX3_waitOf_3 : decode cX3_waitOf 3 = .ok (.iload_n 2, 1) := by decide +kernel
theorem dX3_waitOf_4 : decode cX3_waitOf 4 = .ok (.iconst 0, 1) := by decide +kernel
theorem dX3_waitOf_5 : decode cX3_waitOf 5 = .ok (.invokevirtual 95, 3) := by decide +kernel
theorem dX3_waitOf_8 : decode cX3_waitOf 8 = .ok (.bipush 60, 2) := by decide +kernel
theorem dX3_waitOf_10 : decode cX3_waitOf 10 = .ok (.imul, 1) := by decide +kernel
theorem dX3_waitOf_11 : decode cX3_waitOf 11 = .ok (.istore_n 3, 1) := by decide +kernel
theorem dX3_waitOf_12 : decode cX3_waitOf 12 = .ok (.iload_n 3, 1) := by decide +kernel
theorem dX3_waitOf_13 : decode cX3_waitOf 13 = .ok (.istore 4, 2) := by decide +kernel
theorem dX3_waitOf_15 : decode cX3_waitOf 15 = .ok (.iconst 0, 1) := by decide +kernel
theorem dX3_waitOf_16 : decode cX3_waitOf 16 = .ok (.istore 5, 2) := by decide +kernel
theorem dX3_waitOf_18 : decode cX3_waitOf 18 = .ok (.iload 5, 2) := by decide +kernel
theorem dX3_waitOf_20 : decode cX3_waitOf 20 = .ok (.bipush 40, 2) := by decide +kernel
theorem dX3_waitOf_22 : decode cX3_waitOf 22 = .ok (.if_icmp .gt 37, 3) := by decide +kernel
theorem dX3_waitOf_25 : decode cX3_waitOf 25 = .ok (.aload_n 0, 1) := by decide +kernel
theorem dX3_waitOf_26 : decode cX3_waitOf 26 = .ok (.aload_n 1, 1) := by decide +kernel
theorem dX3_waitOf_27 : decode cX3_waitOf 27 = .ok (.iload_n 2, 1) := by decide +kernel
theorem dX3_waitOf_28 : decode cX3_waitOf 28 = .ok (.iload 4, 2) := by decide +kernel
theorem dX3_waitOf_30 : decode cX3_waitOf 30 = .ok (.invokevirtual 137, 3) := by decide +kernel
theorem dX3_waitOf_33 : decode cX3_waitOf 33 = .ok (.istore 6, 2) := by decide +kernel
theorem dX3_waitOf_35 : decode cX3_waitOf 35 = .ok (.iload 6, 2) := by decide +kernel
theorem dX3_waitOf_37 : decode cX3_waitOf 37 = .ok (.iconst (-1), 1) := by decide +kernel
theorem dX3_waitOf_38 : decode cX3_waitOf 38 = .ok (.if_icmp .ne 6, 3) := by decide +kernel
theorem dX3_waitOf_41 : decode cX3_waitOf 41 = .ok (.goto 18, 3) := by decide +kernel
theorem dX3_waitOf_44 : decode cX3_waitOf 44 = .ok (.aload_n 0, 1) := by decide +kernel
theorem dX3_waitOf_45 : decode cX3_waitOf 45 = .ok (.aload_n 1, 1) := by decide +kernel
theorem dX3_waitOf_46 : decode cX3_waitOf 46 = .ok (.iload 6, 2) := by decide +kernel
theorem dX3_waitOf_48 : decode cX3_waitOf 48 = .ok (.invokevirtual 133, 3) := by decide +kernel
theorem dX3_waitOf_51 : decode cX3_waitOf 51 = .ok (.istore 4, 2) := by decide +kernel
theorem dX3_waitOf_53 : decode cX3_waitOf 53 = .ok (.iinc 5 1, 3) := by decide +kernel
theorem dX3_waitOf_56 : decode cX3_waitOf 56 = .ok (.goto (-38), 3) := by decide +kernel
theorem dX3_waitOf_59 : decode cX3_waitOf 59 = .ok (.iload 4, 2) := by decide +kernel
theorem dX3_waitOf_61 : decode cX3_waitOf 61 = .ok (.iload_n 3, 1) := by decide +kernel
theorem dX3_waitOf_62 : decode cX3_waitOf 62 = .ok (.isub, 1) := by decide +kernel
theorem dX3_waitOf_63 : decode cX3_waitOf 63 = .ok (.ireturn, 1) := by decide +kernel
theorem dX3_rowInTheWay_0 : decode cX3_rowInTheWay 0 = .ok (.aload_n 1, 1) := by decide +kernel
theorem dX3_rowInTheWay_1 : decode cX3_rowInTheWay 1 = .ok (.bipush 11, 2) := by decide +kernel
theorem dX3_rowInTheWay_3 : decode cX3_rowInTheWay 3 = .ok (.iload_n 2, 1) := by decide +kernel
theorem dX3_rowInTheWay_4 : decode cX3_rowInTheWay 4 = .ok (.iconst 1, 1) := by decide +kernel
theorem dX3_rowInTheWay_5 : decode cX3_rowInTheWay 5 = .ok (.invokevirtual 95, 3) := by decide +kernel
theorem dX3_rowInTheWay_8 : decode cX3_rowInTheWay 8 = .ok (.istore 4, 2) := by decide +kernel
theorem dX3_rowInTheWay_10 : decode cX3_rowInTheWay 10 = .ok (.aload_n 1, 1) := by decide +kernel
theorem dX3_rowInTheWay_11 : decode cX3_rowInTheWay 11 = .ok (.bipush 11, 2) := by decide +kernel
theorem dX3_rowInTheWay_13 : decode cX3_rowInTheWay 13 = .ok (.iload_n 2, 1) := by decide +kernel
theorem dX3_rowInTheWay_14 : decode cX3_rowInTheWay 14 = .ok (.iconst 2, 1) := by decide +kernel
theorem dX3_rowInTheWay_15 : decode cX3_rowInTheWay 15 = .ok (.invokevirtual 95, 3) := by decide +kernel
theorem dX3_rowInTheWay_18 : decode cX3_rowInTheWay 18 = .ok (.istore 5, 2) := by decide +kernel
theorem dX3_rowInTheWay_20 : decode cX3_rowInTheWay 20 = .ok (.iconst 0, 1) := by decide +kernel
theorem dX3_rowInTheWay_21 : decode cX3_rowInTheWay 21 = .ok (.istore 6, 2) := by decide +kernel
theorem dX3_rowInTheWay_23 : decode cX3_rowInTheWay 23 = .ok (.iload 6, 2) := by decide +kernel
theorem dX3_rowInTheWay_25 : decode cX3_rowInTheWay 25 = .ok (.aload_n 1, 1) := by decide +kernel
theorem dX3_rowInTheWay_26 : decode cX3_rowInTheWay 26 = .ok (.iconst 5, 1) := by decide +kernel
theorem dX3_rowInTheWay_27 : decode cX3_rowInTheWay 27 = .ok (.invokevirtual 92, 3) := by decide +kernel
theorem dX3_rowInTheWay_30 : decode cX3_rowInTheWay 30 = .ok (.if_icmp .ge 55, 3) := by decide +kernel
theorem dX3_rowInTheWay_33 : decode cX3_rowInTheWay 33 = .ok (.aload_n 0, 1) := by decide +kernel
theorem dX3_rowInTheWay_34 : decode cX3_rowInTheWay 34 = .ok (.aload_n 1, 1) := by decide +kernel
theorem dX3_rowInTheWay_35 : decode cX3_rowInTheWay 35 = .ok (.iload 6, 2) := by decide +kernel
theorem dX3_rowInTheWay_37 : decode cX3_rowInTheWay 37 = .ok (.iload_n 3, 1) := by decide +kernel
theorem dX3_rowInTheWay_38 : decode cX3_rowInTheWay 38 = .ok (.invokevirtual 141, 3) := by decide +kernel
theorem dX3_rowInTheWay_41 : decode cX3_rowInTheWay 41 = .ok (.istore 7, 2) := by decide +kernel
theorem dX3_rowInTheWay_43 : decode cX3_rowInTheWay 43 = .ok (.iload 7, 2) := by decide +kernel
theorem dX3_rowInTheWay_45 : decode cX3_rowInTheWay 45 = .ok (.iload 4, 2) := by decide +kernel
theorem dX3_rowInTheWay_47 : decode cX3_rowInTheWay 47 = .ok (.iload 5, 2) := by decide +kernel
theorem dX3_rowInTheWay_49 : decode cX3_rowInTheWay 49 = .ok (.invokestatic 144, 3) := by decide +kernel
theorem dX3_rowInTheWay_52 : decode cX3_rowInTheWay 52 = .ok (.if_icmp .lt 27, 3) := by decide +kernel
theorem dX3_rowInTheWay_55 : decode cX3_rowInTheWay 55 = .ok (.iload 7, 2) := by decide +kernel
theorem dX3_rowInTheWay_57 : decode cX3_rowInTheWay 57 = .ok (.iload 4, 2) := by decide +kernel
theorem dX3_rowInTheWay_59 : decode cX3_rowInTheWay 59 = .ok (.iload 5, 2) := by decide +kernel
theorem dX3_rowInTheWay_61 : decode cX3_rowInTheWay 61 = .ok (.invokestatic 111, 3) := by decide +kernel
theorem dX3_rowInTheWay_64 : decode cX3_rowInTheWay 64 = .ok (.if_icmp .gt 15, 3) := by decide +kernel
theorem dX3_rowInTheWay_67 : decode cX3_rowInTheWay 67 = .ok (.aload_n 1, 1) := by decide +kernel
theorem dX3_rowInTheWay_68 : decode cX3_rowInTheWay 68 = .ok (.iload 7, 2) := by decide +kernel
theorem dX3_rowInTheWay_70 : decode cX3_rowInTheWay 70 = .ok (.invokevirtual 147, 3) := by decide +kernel
theorem dX3_rowInTheWay_73 : decode cX3_rowInTheWay 73 = .ok (.ifCond .ne 6, 3) := by decide +kernel
theorem dX3_rowInTheWay_76 : decode cX3_rowInTheWay 76 = .ok (.iload 7, 2) := by decide +kernel
theorem dX3_rowInTheWay_78 : decode cX3_rowInTheWay 78 = .ok (.ireturn, 1) := by decide +kernel
theorem dX3_rowInTheWay_79 : decode cX3_rowInTheWay 79 = .ok (.iinc 6 1, 3) := by decide +kernel
theorem dX3_rowInTheWay_82 : decode cX3_rowInTheWay 82 = .ok (.goto (-59), 3) := by decide +kernel
theorem dX3_rowInTheWay_85 : decode cX3_rowInTheWay 85 = .ok (.iconst (-1), 1) := by decide +kernel
theorem dX3_rowInTheWay_86 : decode cX3_rowInTheWay 86 = .ok (.ireturn, 1) := by decide +kernel
