theorem dX9_loaded_7 : decode cX9_loaded 7 = .ok (.invokevirtual 452, 3) := by decide +kernel
theorem dX9_loaded_10 : decode cX9_loaded 10 = .ok (.ifCond .eq 31, 3) := by decide +kernel
theorem dX9_loaded_13 : decode cX9_loaded 13 = .ok (.aload_n 0, 1) := by decide +kernel
theorem dX9_loaded_14 : decode cX9_loaded 14 = .ok (.iload_n 2, 1) := by decide +kernel
theorem dX9_loaded_15 : decode cX9_loaded 15 = .ok (.invokevirtual 446, 3) := by decide +kernel
theorem dX9_loaded_18 : decode cX9_loaded 18 = .ok (.ifCond .eq 23, 3) := by decide +kernel
theorem dX9_loaded_21 : decode cX9_loaded 21 = .ok (.aload_n 0, 1) := by decide +kernel
theorem dX9_loaded_22 : decode cX9_loaded 22 = .ok (.aload_n 0, 1) := by decide +kernel
theorem dX9_loaded_23 : decode cX9_loaded 23 = .ok (.getfield 425, 3) := by decide +kernel
theorem dX9_loaded_26 : decode cX9_loaded 26 = .ok (.getfield 337, 3) := by decide +kernel
theorem dX9_loaded_29 : decode cX9_loaded 29 = .ok (.iconst 4, 1) := by decide +kernel
theorem dX9_loaded_30 : decode cX9_loaded 30 = .ok (.iload_n 1, 1) := by decide +kernel
theorem dX9_loaded_31 : decode cX9_loaded 31 = .ok (.imul, 1) := by decide +kernel
theorem dX9_loaded_32 : decode cX9_loaded 32 = .ok (.iload_n 2, 1) := by decide +kernel
theorem dX9_loaded_33 : decode cX9_loaded 33 = .ok (.iadd, 1) := by decide +kernel
theorem dX9_loaded_34 : decode cX9_loaded 34 = .ok (.iaload, 1) := by decide +kernel
theorem dX9_loaded_35 : decode cX9_loaded 35 = .ok (.invokevirtual 62, 3) := by decide +kernel
theorem dX9_loaded_38 : decode cX9_loaded 38 = .ok (.goto 8, 3) := by decide +kernel
theorem dX9_loaded_41 : decode cX9_loaded 41 = .ok (.aload_n 0, 1) := by decide +kernel
theorem dX9_loaded_42 : decode cX9_loaded 42 = .ok (.iconst 1, 1) := by decide +kernel
theorem dX9_loaded_43 : decode cX9_loaded 43 = .ok (.invokevirtual 58, 3) := by decide +kernel
theorem dX9_loaded_46 : decode cX9_loaded 46 = .ok (.ireturn, 1) := by decide +kernel
theorem dX9_empties_0 : decode cX9_empties 0 = .ok (.iconst 0, 1) := by decide +kernel
theorem dX9_empties_1 : decode cX9_empties 1 = .ok (.istore_n 2, 1) := by decide +kernel
theorem dX9_empties_2 : decode cX9_empties 2 = .ok (.iload_n 2, 1) := by decide +kernel
theorem dX9_empties_3 : decode cX9_empties 3 = .ok (.bipush 14, 2) := by decide +kernel
theorem dX9_empties_5 : decode cX9_empties 5 = .ok (.if_icmp .ge 41, 3) := by decide +kernel
theorem dX9_empties_8 : decode cX9_empties 8 = .ok (.aload_n 0, 1) := by decide +kernel
theorem dX9_empties_9 : decode cX9_empties 9 = .ok (.getfield 17, 3) := by decide +kernel
theorem dX9_empties_12 : decode cX9_empties 12 = .ok (.iload_n 2, 1) := by decide +kernel
theorem dX9_empties_13 : decode cX9_empties 13 = .ok (.iload_n 2, 1) := by decide +kernel
theorem dX9_empties_14 : decode cX9_empties 14 = .ok (.aload_n 0, 1) := by decide +kernel
theorem dX9_empties_15 : decode cX9_empties 15 = .ok (.getfield 425, 3) := by decide +kernel
theorem dX9_empties_18 : decode cX9_empties 18 = .ok (.getfield 329, 3) := by decide +kernel
theorem dX9_empties_21 : decode cX9_empties 21 = .ok (.iload_n 1, 1) := by decide +kernel
theorem dX9_empties_22 : decode cX9_empties 22 = .ok (.iaload, 1) := by decide +kernel
theorem dX9_empties_23 : decode cX9_empties 23 = .ok (.if_icmp .ge 15, 3) := by decide +kernel
theorem dX9_empties_26 : decode cX9_empties 26 = .ok (.aload_n 0, 1) := by decide +kernel
theorem dX9_empties_27 : decode cX9_empties 27 = .ok (.getfield 425, 3) := by decide +kernel
theorem dX9_empties_30 : decode cX9_empties 30 = .ok (.getfield 331, 3) := by decide +kernel
theorem dX9_empties_33 : decode cX9_empties 33 = .ok (.iload_n 1, 1) := by decide +kernel
theorem dX9_empties_34 : decode cX9_empties 34 = .ok (.iaload, 1) := by decide +kernel
theorem dX9_empties_35 : decode cX9_empties 35 = .ok (.goto 4, 3) := by decide +kernel
theorem dX9_empties_38 : decode cX9_empties 38 = .ok (.iconst 0, 1) := by decide +kernel
theorem dX9_empties_39 : decode cX9_empties 39 = .ok (.iastore, 1) := by decide +kernel
theorem dX9_empties_40 : decode cX9_empties 40 = .ok (.iinc 2 1, 3) := by decide +kernel
theorem dX9_empties_43 : decode cX9_empties 43 = .ok (.goto (-41), 3) := by decide +kernel
theorem dX9_empties_46 : decode cX9_empties 46 = .ok (.return_, 1) := by decide +kernel
theorem dX9_goesIn_0 : decode cX9_goesIn 0 = .ok (.iconst 0, 1) := by decide +kernel
theorem dX9_goesIn_1 : decode cX9_goesIn 1 = .ok (.istore_n 3, 1) := by decide +kernel
theorem dX9_goesIn_2 : decode cX9_goesIn 2 = .ok (.iload_n 3, 1) := by decide +kernel
theorem dX9_goesIn_3 : decode cX9_goesIn 3 = .ok (.aload_n 0, 1) := by decide +kernel
theorem dX9_goesIn_4 : decode cX9_goesIn 4 = .ok (.getfield 425, 3) := by decide +kernel
theorem dX9_goesIn_7 : decode cX9_goesIn 7 = .ok (.getfield 329, 3) := by decide +kernel
theorem dX9_goesIn_10 : decode cX9_goesIn 10 = .ok (.iload_n 1, 1) := by decide +kernel
theorem dX9_goesIn_11 : decode cX9_goesIn 11 = .ok (.iaload, 1) := by decide +kernel
theorem dX9_goesIn_12 : decode cX9_goesIn 12 = .ok (.if_icmp .ge 50, 3) := by decide +kernel
theorem dX9_goesIn_15 : decode cX9_goesIn 15 = .ok (.aload_n 0, 1) := by decide +kernel
theorem dX9_goesIn_16 : decode cX9_goesIn 16 = .ok (.getfield 17, 3) := by decide +kernel
theorem dX9_goesIn_19 : decode cX9_goesIn 19 = .ok (.iload_n 3, 1) := by decide +kernel
theorem dX9_goesIn_20 : decode cX9_goesIn 20 = .ok (.iaload, 1) := by decide +kernel
theorem dX9_goesIn_21 : decode cX9_goesIn 21 = .ok (.aload_n 0, 1) := by decide +kernel
theorem dX9_goesIn_22 : decode cX9_goesIn 22 = .ok (.getfield 425, 3) := by decide +kernel
theorem dX9_goesIn_25 : decode cX9_goesIn 25 = .ok (.getfield 285, 3) := by decide +kernel
theorem dX9_goesIn_28 : decode cX9_goesIn 28 = .ok (.iload_n 2, 1) := by decide +kernel
theorem dX9_goesIn_29 : decode cX9_goesIn 29 = .ok (.iaload, 1) := by decide +kernel
theorem dX9_goesIn_30 : decode cX9_goesIn 30 = .ok (.if_icmp .ge 6, 3) := by decide +kernel
theorem dX9_goesIn_33 : decode cX9_goesIn 33 = .ok (.goto 23, 3) := by decide +kernel
theorem dX9_goesIn_36 : decode cX9_goesIn 36 = .ok (.aload_n 0, 1) := by decide +kernel
theorem dX9_goesIn_37 : decode cX9_goesIn 37 = .ok (.getfield 17, 3) := by decide +kernel
theorem dX9_goesIn_40 : decode cX9_goesIn 40 = .ok (.iload_n 3, 1) := by decide +kernel
theorem dX9_goesIn_41 : decode cX9_goesIn 41 = .ok (.dup2, 1) := by decide +kernel
theorem dX9_goesIn_42 : decode cX9_goesIn 42 = .ok (.iaload, 1) := by decide +kernel
theorem dX9_goesIn_43 : decode cX9_goesIn 43 = .ok (.aload_n 0, 1) := by decide +kernel
theorem dX9_goesIn_44 : decode cX9_goesIn 44 = .ok (.getfield 425, 3) := by decide +kernel
theorem dX9_goesIn_47 : decode cX9_goesIn 47 = .ok (.getfield 285, 3) := by decide +kernel
theorem dX9_goesIn_50 : decode cX9_goesIn 50 = .ok (.iload_n 2, 1) := by decide +kernel
theorem dX9_goesIn_51 : decode cX9_goesIn 51 = .ok (.iaload, 1) := by decide +kernel
theorem dX9_goesIn_52 : decode cX9_goesIn 52 = .ok (.isub, 1) := by decide +kernel
theorem dX9_goesIn_53 : decode cX9_goesIn 53 = .ok (.iastore, 1) := by decide +kernel
theorem dX9_goesIn_54 : decode cX9_goesIn 54 = .ok (.iconst 1, 1) := by decide +kernel
theorem dX9_goesIn_55 : decode cX9_goesIn 55 = .ok (.ireturn, 1) := by decide +kernel
theorem dX9_goesIn_56 : decode cX9_goesIn 56 = .ok (.iinc 3 1, 3) := by decide +kernel
theorem dX9_goesIn_59 : decode cX9_goesIn 59 = .ok (.goto (-57), 3) := by decide +kernel
theorem dX9_goesIn_62 : decode cX9_goesIn 62 = .ok (.iconst 0, 1) := by decide +kernel
theorem dX9_goesIn_63 : decode cX9_goesIn 63 = .ok (.ireturn, 1) := by decide +kernel
theorem dX9_fitsIn_0 : decode cX9_fitsIn 0 = .ok (.aload_n 0, 1) := by decide +kernel
theorem dX9_fitsIn_1 : decode cX9_fitsIn 1 = .ok (.iconst 0, 1) := by decide +kernel
theorem dX9_fitsIn_2 : decode cX9_fitsIn 2 = .ok (.putfield 52, 3) := by decide +kernel
theorem dX9_fitsIn_5 : decode cX9_fitsIn 5 = .ok (.aload_n 0, 1) := by decide +kernel
theorem dX9_fitsIn_6 : decode cX9_fitsIn 6 = .ok (.iload_n 1, 1) := by decide +kernel
theorem dX9_fitsIn_7 : decode cX9_fitsIn 7 = .ok (.invokevirtual 452, 3) := by decide +kernel
theorem dX9_fitsIn_10 : decode cX9_fitsIn 10 = .ok (.ifCond .ne 9, 3) := by decide +kernel
theorem dX9_fitsIn_13 : decode cX9_fitsIn 13 = .ok (.aload_n 0, 1) := by decide +kernel
theorem dX9_fitsIn_14 : decode cX9_fitsIn 14 = .ok (.iconst 1, 1) := by decide +kernel
theorem dX9_fitsIn_15 : decode cX9_fitsIn 15 = .ok (.invokevirtual 58, 3) := by decide +kernel
theorem dX9_fitsIn_18 : decode cX9_fitsIn 18 = .ok (.ireturn, 1) := by decide +kernel
theorem dX9_fitsIn_19 : decode cX9_fitsIn 19 = .ok (.aload_n 0, 1) := by decide +kernel
theorem dX9_fitsIn_20 : decode cX9_fitsIn 20 = .ok (.iload_n 1, 1) := by decide +kernel
theorem dX9_fitsIn_21 : decode cX9_fitsIn 21 = .ok (.invokevirtual 455, 3) := by decide +kernel
theorem dX9_fitsIn_24 : decode cX9_fitsIn 24 = .ok (.iconst 1, 1) := by decide +kernel
theorem dX9_fitsIn_25 : decode cX9_fitsIn 25 = .ok (.istore_n 2, 1) := by decide +kernel
theorem dX9_fitsIn_26 : decode cX9_fitsIn 26 = .ok (.iconst 0, 1) := by decide +kernel
theorem dX9_fitsIn_27 : decode cX9_fitsIn 27 = .ok (.istore_n 3, 1) := by decide +kernel
theorem dX9_fitsIn_28 : decode cX9_fitsIn 28 = .ok (.iload_n 3, 1) := by decide +kernel
theorem dX9_fitsIn_29 : decode cX9_fitsIn 29 = .ok (.aload_n 0, 1) := by decide +kernel
theorem dX9_fitsIn_30 : decode cX9_fitsIn 30 = .ok (.getfield 425, 3) := by decide +kernel
theorem dX9_fitsIn_33 : decode cX9_fitsIn 33 = .ok (.getfield 211, 3) := by decide +kernel
theorem dX9_fitsIn_36 : decode cX9_fitsIn 36 = .ok (.if_icmp .ge 47, 3) := by decide +kernel
theorem dX9_fitsIn_39 : decode cX9_fitsIn 39 = .ok (.iconst 0, 1) := by decide +kernel
theorem dX9_fitsIn_40 : decode cX9_fitsIn 40 = .ok (.istore 4, 2) := by decide +kernel
theorem dX9_fitsIn_42 : decode cX9_fitsIn 42 = .ok (.iload 4, 2) := by decide +kernel
theorem dX9_fitsIn_44 : decode cX9_fitsIn 44 = .ok (.aload_n 0, 1) := by decide +kernel
theorem dX9_fitsIn_45 : decode cX9_fitsIn 45 = .ok (.getfield 425, 3) := by decide +kernel
theorem dX9_fitsIn_48 : decode cX9_fitsIn 48 = .ok (.getfield 337, 3) := by decide +kernel
theorem dX9_fitsIn_51 : decode cX9_fitsIn 51 = .ok (.iconst 4, 1) := by decide +kernel
theorem dX9_fitsIn_52 : decode cX9_fitsIn 52 = .ok (.iload_n 1, 1) := by decide +kernel
theorem dX9_fitsIn_53 : decode cX9_fitsIn 53 = .ok (.imul, 1) := by decide +kernel
theorem dX9_fitsIn_54 : decode cX9_fitsIn 54 = .ok (.iload_n 3, 1) := by decide +kernel
theorem dX9_fitsIn_55 : decode cX9_fitsIn 55 = .ok (.iadd, 1) := by decide +kernel
theorem dX9_fitsIn_56 : decode cX9_fitsIn 56 = .ok (.iaload, 1) := by decide +kernel
theorem dX9_fitsIn_57 : decode cX9_fitsIn 57 = .ok (.if_icmp .ge 20, 3) := by decide +kernel
theorem dX9_fitsIn_60 : decode cX9_fitsIn 60 = .ok (.iload_n 2, 1) := by decide +kernel
theorem dX9_fitsIn_61 : decode cX9_fitsIn 61 = .ok (.ifCond .eq 16, 3) := by decide +kernel
theorem dX9_fitsIn_64 : decode cX9_fitsIn 64 = .ok (.aload_n 0, 1) := by decide +kernel
theorem dX9_fitsIn_65 : decode cX9_fitsIn 65 = .ok (.iload_n 1, 1) := by decide +kernel
theorem dX9_fitsIn_66 : decode cX9_fitsIn 66 = .ok (.iload_n 3, 1) := by decide +kernel
theorem dX9_fitsIn_67 : decode cX9_fitsIn 67 = .ok (.invokevirtual 458, 3) := by decide +kernel
theorem dX9_fitsIn_70 : decode cX9_fitsIn 70 = .ok (.istore_n 2, 1) := by decide +kernel
theorem dX9_fitsIn_71 : decode cX9_fitsIn 71 = .ok (.iinc 4 1, 3) := by decide +kernel
theorem dX9_fitsIn_74 : decode cX9_fitsIn 74 = .ok (.goto (-32), 3) := by decide +kernel
theorem dX9_fitsIn_77 : decode cX9_fitsIn 77 = .ok (.iinc 3 1, 3) := by decide +kernel
theorem dX9_fitsIn_80 : decode cX9_fitsIn 80 = .ok (.goto (-52), 3) := by decide +kernel
theorem dX9_fitsIn_83 : decode cX9_fitsIn 83 = .ok (.aload_n 0, 1) := by decide +kernel
theorem dX9_fitsIn_84 : decode cX9_fitsIn 84 = .ok (.iload_n 2, 1) := by decide +kernel
theorem dX9_fitsIn_85 : decode cX9_fitsIn 85 = .ok (.ifCond .eq 7, 3) := by decide +kernel
theorem dX9_fitsIn_88 : decode cX9_fitsIn 88 = .ok (.iconst 1, 1) := by decide +kernel
theorem dX9_fitsIn_89 : decode cX9_fitsIn 89 = .ok (.goto 4, 3) := by decide +kernel
theorem dX9_fitsIn_92 : decode cX9_fitsIn 92 = .ok (.iconst 0, 1) := by decide +kernel
theorem dX9_fitsIn_93 : decode cX9_fitsIn 93 = .ok (.invokevirtual 62, 3) := by decide +kernel
theorem dX9_fitsIn_96 : decode cX9_fitsIn 96 = .ok (.ireturn, 1) := by decide +kernel
theorem dX9_startsAnew_0 : decode cX9_startsAnew 0 = .ok (.iconst 0, 1) := by decide +kernel
theorem dX9_startsAnew_1 : decode cX9_startsAnew 1 = .ok (.istore_n 2, 1) := by decide +kernel
theorem dX9_startsAnew_2 : decode cX9_startsAnew 2 = .ok (.iload_n 2, 1) := by decide +kernel
theorem dX9_startsAnew_3 : decode cX9_startsAnew 3 = .ok (.sipush 431, 3) := by decide +kernel
theorem dX9_startsAnew_6 : decode cX9_startsAnew 6 = .ok (.if_icmp .ge 16, 3) := by decide +kernel
theorem dX9_startsAnew_9 : decode cX9_startsAnew 9 = .ok (.aload_n 0, 1) := by decide +kernel
theorem dX9_startsAnew_10 : decode cX9_startsAnew 10 = .ok (.getfield 21, 3) := by decide +kernel
theorem dX9_startsAnew_13 : decode cX9_startsAnew 13 = .ok (.iload_n 2, 1) := by decide +kernel
theorem dX9_startsAnew_14 : decode cX9_startsAnew 14 = .ok (.iconst 0, 1) := by decide +kernel
theorem dX9_startsAnew_15 : decode cX9_startsAnew 15 = .ok (.iastore, 1) := by decide +kernel
theorem dX9_startsAnew_16 : decode cX9_startsAnew 16 = .ok (.iinc 2 1, 3) := by decide +kernel
theorem dX9_startsAnew_19 : decode cX9_startsAnew 19 = .ok (.goto (-17), 3) := by decide +kernel
theorem dX9_startsAnew_22 : decode cX9_startsAnew 22 = .ok (.iconst 0, 1) := by decide +kernel
theorem dX9_startsAnew_23 : decode cX9_startsAnew 23 = .ok (.istore_n 2, 1) := by decide +kernel
theorem dX9_startsAnew_24 : decode cX9_startsAnew 24 = .ok (.iload_n 2, 1) := by decide +kernel
theorem dX9_startsAnew_25 : decode cX9_startsAnew 25 = .ok (.bipush 40, 2) := by decide +kernel
theorem dX9_startsAnew_27 : decode cX9_startsAnew 27 = .ok (.if_icmp .gt 21, 3) := by decide +kernel
theorem dX9_startsAnew_30 : decode cX9_startsAnew 30 = .ok (.aload_n 0, 1) := by decide +kernel
theorem dX9_startsAnew_31 : decode cX9_startsAnew 31 = .ok (.getfield 21, 3) := by decide +kernel
theorem dX9_startsAnew_34 : decode cX9_startsAnew 34 = .ok (.bipush 10, 2) := by decide +kernel
theorem dX9_startsAnew_36 : decode cX9_startsAnew 36 = .ok (.iload_n 2, 1) := by decide +kernel
theorem dX9_startsAnew_37 : decode cX9_startsAnew 37 = .ok (.imul, 1) := by decide +kernel
theorem dX9_startsAnew_38 : decode cX9_startsAnew 38 = .ok (.iconst 0, 1) := by decide +kernel
theorem dX9_startsAnew_39 : decode cX9_startsAnew 39 = .ok (.iadd, 1) := by decide +kernel
theorem dX9_startsAnew_40 : decode cX9_startsAnew 40 = .ok (.iconst (-1), 1) := by decide +kernel
theorem dX9_startsAnew_41 : decode cX9_startsAnew 41 = .ok (.iastore, 1) := by decide +kernel
theorem dX9_startsAnew_42 : decode cX9_startsAnew 42 = .ok (.iinc 2 1, 3) := by decide +kernel
theorem dX9_startsAnew_45 : decode cX9_startsAnew 45 = .ok (.goto (-21), 3) := by decide +kernel
theorem dX9_startsAnew_48 : decode cX9_startsAnew 48 = .ok (.iconst 0, 1) := by decide +kernel
theorem dX9_startsAnew_49 : decode cX9_startsAnew 49 = .ok (.istore_n 2, 1) := by decide +kernel
theorem dX9_startsAnew_50 : decode cX9_startsAnew 50 = .ok (.iload_n 2, 1) := by decide +kernel
theorem dX9_startsAnew_51 : decode cX9_startsAnew 51 = .ok (.aload_n 0, 1) := by decide +kernel
theorem dX9_startsAnew_52 : decode cX9_startsAnew 52 = .ok (.getfield 425, 3) := by decide +kernel
theorem dX9_startsAnew_55 : decode cX9_startsAnew 55 = .ok (.getfield 214, 3) := by decide +kernel
theorem dX9_startsAnew_58 : decode cX9_startsAnew 58 = .ok (.if_icmp .ge 55, 3) := by decide +kernel
theorem dX9_startsAnew_61 : decode cX9_startsAnew 61 = .ok (.iconst 0, 1) := by decide +kernel
theorem dX9_startsAnew_62 : decode cX9_startsAnew 62 = .ok (.istore_n 3, 1) := by decide +kernel
theorem dX9_startsAnew_63 : decode cX9_startsAnew 63 = .ok (.iload_n 3, 1) := by decide +kernel
theorem dX9_startsAnew_64 : decode cX9_startsAnew 64 = .ok (.aload_n 0, 1) := by decide +kernel
theorem dX9_startsAnew_65 : decode cX9_startsAnew 65 = .ok (.getfield 425, 3) := by decide +kernel
theorem dX9_startsAnew_68 : decode cX9_startsAnew 68 = .ok (.getfield 211, 3) := by decide +kernel
theorem dX9_startsAnew_71 : decode cX9_startsAnew 71 = .ok (.if_icmp .ge 36, 3) := by decide +kernel
theorem dX9_startsAnew_74 : decode cX9_startsAnew 74 = .ok (.aload_n 0, 1) := by decide +kernel
theorem dX9_startsAnew_75 : decode cX9_startsAnew 75 = .ok (.getfield 21, 3) := by decide +kernel
theorem dX9_startsAnew_78 : decode cX9_startsAnew 78 = .ok (.sipush 414, 3) := by decide +kernel
theorem dX9_startsAnew_81 : decode cX9_startsAnew 81 = .ok (.iconst 4, 1) := by decide +kernel
theorem dX9_startsAnew_82 : decode cX9_startsAnew 82 = .ok (.iload_n 2, 1) := by decide +kernel
theorem dX9_startsAnew_83 : decode cX9_startsAnew 83 = .ok (.imul, 1) := by decide +kernel
theorem dX9_startsAnew_84 : decode cX9_startsAnew 84 = .ok (.iadd, 1) := by decide +kernel
theorem dX9_startsAnew_85 : decode cX9_startsAnew 85 = .ok (.iload_n 3, 1) := by decide +kernel
theorem dX9_startsAnew_86 : decode cX9_startsAnew 86 = .ok (.iadd, 1) := by decide +kernel
theorem dX9_startsAnew_87 : decode cX9_startsAnew 87 = .ok (.aload_n 0, 1) := by decide +kernel
theorem dX9_startsAnew_88 : decode cX9_startsAnew 88 = .ok (.getfield 425, 3) := by decide +kernel
theorem dX9_startsAnew_91 : decode cX9_startsAnew 91 = .ok (.getfield 337, 3) := by decide +kernel
theorem dX9_startsAnew_94 : decode cX9_startsAnew 94 = .ok (.iconst 4, 1) := by decide +kernel
theorem dX9_startsAnew_95 : decode cX9_startsAnew 95 = .ok (.iload_n 2, 1) := by decide +kernel
theorem dX9_startsAnew_96 : decode cX9_startsAnew 96 = .ok (.imul, 1) := by decide +kernel
theorem dX9_startsAnew_97 : decode cX9_startsAnew 97 = .ok (.iload_n 3, 1) := by decide +kernel
theorem dX9_startsAnew_98 : decode cX9_startsAnew 98 = .ok (.iadd, 1) := by decide +kernel
theorem dX9_startsAnew_99 : decode cX9_startsAnew 99 = .ok (.iaload, 1) := by decide +kernel
theorem dX9_startsAnew_100 : decode cX9_startsAnew 100 = .ok (.iastore, 1) := by decide +kernel
theorem dX9_startsAnew_101 : decode cX9_startsAnew 101 = .ok (.iinc 3 1, 3) := by decide +kernel
theorem dX9_startsAnew_104 : decode cX9_startsAnew 104 = .ok (.goto (-41), 3) := by decide +kernel
theorem dX9_startsAnew_107 : decode cX9_startsAnew 107 = .ok (.iinc 2 1, 3) := by decide +kernel
theorem dX9_startsAnew_110 : decode cX9_startsAnew 110 = .ok (.goto (-60), 3) := by decide +kernel
theorem dX9_startsAnew_113 : decode cX9_startsAnew 113 = .ok (.aload_n 0, 1) := by decide +kernel
theorem dX9_startsAnew_114 : decode cX9_startsAnew 114 = .ok (.getfield 21, 3) := by decide +kernel
theorem dX9_startsAnew_117 : decode cX9_startsAnew 117 = .ok (.sipush 429, 3) := by decide +kernel
theorem dX9_startsAnew_120 : decode cX9_startsAnew 120 = .ok (.iload_n 1, 1) := by decide +kernel
theorem dX9_startsAnew_121 : decode cX9_startsAnew 121 = .ok (.iastore, 1) := by decide +kernel
theorem dX9_startsAnew_122 : decode cX9_startsAnew 122 = .ok (.return_, 1) := by decide +kernel
theorem dX9_start_0 : decode cX9_start 0 = .ok (.aload_n 0, 1) := by decide +kernel
theorem dX9_start_1 : decode cX9_start 1 = .ok (.iconst 0, 1) := by decide +kernel
theorem dX9_start_2 : decode cX9_start 2 = .ok (.putfield 52, 3) := by decide +kernel
theorem dX9_start_5 : decode cX9_start 5 = .ok (.aload_n 0, 1) := by decide +kernel
theorem dX9_start_6 : decode cX9_start 6 = .ok (.getfield 425, 3) := by decide +kernel
theorem dX9_start_9 : decode cX9_start 9 = .ok (.ifnonnull 9, 3) := by decide +kernel
theorem dX9_start_12 : decode cX9_start 12 = .ok (.aload_n 0, 1) := by decide +kernel
theorem dX9_start_13 : decode cX9_start 13 = .ok (.iconst 1, 1) := by decide +kernel
theorem dX9_start_14 : decode cX9_start 14 = .ok (.invokevirtual 462, 3) := by decide +kernel
theorem dX9_start_17 : decode cX9_start 17 = .ok (.ireturn, 1) := by decide +kernel
theorem dX9_start_18 : decode cX9_start 18 = .ok (.iload_n 1, 1) := by decide +kernel
theorem dX9_start_19 : decode cX9_start 19 = .ok (.iconst 0, 1) := by decide +kernel
theorem dX9_start_20 : decode cX9_start 20 = .ok (.ldc_w 465, 3) := by decide +kernel
theorem dX9_start_23 : decode cX9_start 23 = .ok (.invokestatic 130, 3) := by decide +kernel
theorem dX9_start_26 : decode cX9_start 26 = .ok (.ifCond .ne 9, 3) := by decide +kernel
theorem dX9_start_29 : decode cX9_start 29 = .ok (.aload_n 0, 1) := by decide +kernel
theorem dX9_start_30 : decode cX9_start 30 = .ok (.iconst 2, 1) := by decide +kernel
theorem dX9_start_31 : decode cX9_start 31 = .ok (.invokevirtual 462, 3) := by decide +kernel
theorem dX9_start_34 : decode cX9_start 34 = .ok (.ireturn, 1) := by decide +kernel
theorem dX9_start_35 : decode cX9_start 35 = .ok (.aload_n 0, 1) := by decide +kernel
theorem dX9_start_36 : decode cX9_start 36 = .ok (.iload_n 1, 1) := by decide +kernel
theorem dX9_start_37 : decode cX9_start 37 = .ok (.invokevirtual 431, 3) := by decide +kernel
theorem dX9_start_40 : decode cX9_start 40 = .ok (.aload_n 0, 1) := by decide +kernel
theorem dX9_start_41 : decode cX9_start 41 = .ok (.invokevirtual 466, 3) := by decide +kernel
theorem dX9_start_44 : decode cX9_start 44 = .ok (.ireturn, 1) := by decide +kernel
theorem dX9_isOver_0 : decode cX9_isOver 0 = .ok (.aload_n 0, 1) := by decide +kernel
theorem dX9_isOver_1 : decode cX9_isOver 1 = .ok (.getfield 21, 3) := by decide +kernel
theorem dX9_isOver_4 : decode cX9_isOver 4 = .ok (.sipush 430, 3) := by decide +kernel
theorem dX9_isOver_7 : decode cX9_isOver 7 = .ok (.iaload, 1) := by decide +kernel
theorem dX9_isOver_8 : decode cX9_isOver 8 = .ok (.aload_n 0, 1) := by decide +kernel
theorem dX9_isOver_9 : decode cX9_isOver 9 = .ok (.getfield 425, 3) := by decide +kernel
theorem dX9_isOver_12 : decode cX9_isOver 12 = .ok (.getfield 205, 3) := by decide +kernel
theorem dX9_isOver_15 : decode cX9_isOver 15 = .ok (.if_icmp .ne 7, 3) := by decide +kernel
theorem dX9_isOver_18 : decode cX9_isOver 18 = .ok (.iconst 1, 1) := by decide +kernel
theorem dX9_isOver_19 : decode cX9_isOver 19 = .ok (.goto 4, 3) := by decide +kernel
theorem dX9_isOver_22 : decode cX9_isOver 22 = .ok (.iconst 0, 1) := by decide +kernel
theorem dX9_isOver_23 : decode cX9_isOver 23 = .ok (.ireturn, 1) := by decide +kernel
theorem dX9_isServed_0 : decode cX9_isServed 0 = .ok (.aload_n 0, 1) := by decide +kernel
theorem dX9_isServed_1 : decode cX9_isServed 1 = .ok (.getfield 21, 3) := by decide +kernel
theorem dX9_isServed_4 : decode cX9_isServed 4 = .ok (.bipush 10, 2) := by decide +kernel
theorem dX9_isServed_6 : decode cX9_isServed 6 = .ok (.iload_n 1, 1) := by decide +kernel
theorem dX9_isServed_7 : decode cX9_isServed 7 = .ok (.imul, 1) := by decide +kernel
theorem dX9_isServed_8 : decode cX9_isServed 8 = .ok (.iconst 0, 1) := by decide +kernel
theorem dX9_isServed_9 : decode cX9_isServed 9 = .ok (.iadd, 1) := by decide +kernel
theorem dX9_isServed_10 : decode cX9_isServed 10 = .ok (.iaload, 1) := by decide +kernel
theorem dX9_isServed_11 : decode cX9_isServed 11 = .ok (.iconst (-1), 1) := by decide +kernel
theorem dX9_isServed_12 : decode cX9_isServed 12 = .ok (.if_icmp .eq 7, 3) := by decide +kernel
theorem dX9_isServed_15 : decode cX9_isServed 15 = .ok (.iconst 1, 1) := by decide +kernel
theorem dX9_isServed_16 : decode cX9_isServed 16 = .ok (.goto 4, 3) := by decide +kernel
theorem dX9_isServed_19 : decode cX9_isServed 19 = .ok (.iconst 0, 1) := by decide +kernel
theorem dX9_isServed_20 : decode cX9_isServed 20 = .ok (.ireturn, 1) := by decide +kernel
theorem dX9_nextTrolley_0 : decode cX9_nextTrolley 0 = .ok (.iconst 0, 1) := by decide +kernel
theorem dX9_nextTrolley_1 : decode cX9_nextTrolley 1 = .ok (.istore_n 1, 1) := by decide +kernel
theorem dX9_nextTrolley_2 : decode cX9_nextTrolley 2 = .ok (.iconst 1, 1) := by decide +kernel
theorem dX9_nextTrolley_3 : decode cX9_nextTrolley 3 = .ok (.istore_n 2, 1) := by decide +kernel
theorem dX9_nextTrolley_4 : decode cX9_nextTrolley 4 = .ok (.iload_n 2, 1) := by decide +kernel
theorem dX9_nextTrolley_5 : decode cX9_nextTrolley 5 = .ok (.aload_n 0, 1) := by decide +kernel
theorem dX9_nextTrolley_6 : decode cX9_nextTrolley 6 = .ok (.getfield 425, 3) := by decide +kernel
theorem dX9_nextTrolley_9 : decode cX9_nextTrolley 9 = .ok (.getfield 214, 3) := by decide +kernel
theorem dX9_nextTrolley_12 : decode cX9_nextTrolley 12 = .ok (.if_icmp .ge 53, 3) := by decide +kernel
theorem dX9_nextTrolley_15 : decode cX9_nextTrolley 15 = .ok (.aload_n 0, 1) := by decide +kernel
theorem dX9_nextTrolley_16 : decode cX9_nextTrolley 16 = .ok (.getfield 21, 3) := by decide +kernel
theorem dX9_nextTrolley_19 : decode cX9_nextTrolley 19 = .ok (.sipush 410, 3) := by decide +kernel
theorem dX9_nextTrolley_22 : decode cX9_nextTrolley 22 = .ok (.iload_n 2, 1) := by decide +kernel
theorem dX9_nextTrolley_23 : decode cX9_nextTrolley 23 = .ok (.iadd, 1) := by decide +kernel
theorem dX9_nextTrolley_24 : decode cX9_nextTrolley 24 = .ok (.iaload, 1) := by decide +kernel
theorem dX9_nextTrolley_25 : decode cX9_nextTrolley 25 = .ok (.aload_n 0, 1) := by decide +kernel
theorem dX9_nextTrolley_26 : decode cX9_nextTrolley 26 = .ok (.getfield 21, 3) := by decide +kernel
theorem dX9_nextTrolley_29 : decode cX9_nextTrolley 29 = .ok (.sipush 410, 3) := by decide +kernel
theorem dX9_nextTrolley_32 : decode cX9_nextTrolley 32 = .ok (.iload_n 1, 1) := by decide +kernel
theorem dX9_nextTrolley_33 : decode cX9_nextTrolley 33 = .ok (.iadd, 1) := by decide +kernel
theorem dX9_nextTrolley_34 : decode cX9_nextTrolley 34 = .ok (.iaload, 1) := by decide +kernel
theorem dX9_nextTrolley_35 : decode cX9_nextTrolley 35 = .ok (.isub, 1) := by decide +kernel
theorem dX9_nextTrolley_36 : decode cX9_nextTrolley 36 = .ok (.istore_n 3, 1) := by decide +kernel
theorem dX9_nextTrolley_37 : decode cX9_nextTrolley 37 = .ok (.iload_n 3, 1) := by decide +kernel
theorem dX9_nextTrolley_38 : decode cX9_nextTrolley 38 = .ok (.ifCond .lt 19, 3) := by decide +kernel
theorem dX9_nextTrolley_41 : decode cX9_nextTrolley 41 = .ok (.iload_n 3, 1) := by decide +kernel
theorem dX9_nextTrolley_42 : decode cX9_nextTrolley 42 = .ok (.ifCond .ne 17, 3) := by decide +kernel
theorem dX9_nextTrolley_45 : decode cX9_nextTrolley 45 = .ok (.aload_n 0, 1) := by decide +kernel
theorem dX9_nextTrolley_46 : decode cX9_nextTrolley 46 = .ok (.getfield 425, 3) := by decide +kernel
theorem dX9_nextTrolley_49 : decode cX9_nextTrolley 49 = .ok (.getfield 326, 3) := by decide +kernel
theorem dX9_nextTrolley_52 : decode cX9_nextTrolley 52 = .ok (.iload_n 2, 1) := by decide +kernel
theorem dX9_nextTrolley_53 : decode cX9_nextTrolley 53 = .ok (.iaload, 1) := by decide +kernel
theorem dX9_nextTrolley_54 : decode cX9_nextTrolley 54 = .ok (.ifCond .ne 5, 3) := by decide +kernel
theorem dX9_nextTrolley_57 : decode cX9_nextTrolley 57 = .ok (.iload_n 2, 1) := by decide +kernel
theorem dX9_nextTrolley_58 : decode cX9_nextTrolley 58 = .ok (.istore_n 1, 1) := by decide +kernel
theorem dX9_nextTrolley_59 : decode cX9_nextTrolley 59 = .ok (.iinc 2 1, 3) := by decide +kernel
theorem dX9_nextTrolley_62 : decode cX9_nextTrolley 62 = .ok (.goto (-58), 3) := by decide +kernel
theorem dX9_nextTrolley_65 : decode cX9_nextTrolley 65 = .ok (.iload_n 1, 1) := by decide +kernel
theorem dX9_nextTrolley_66 : decode cX9_nextTrolley 66 = .ok (.ireturn, 1) := by decide +kernel
theorem dX9_nextRow_0 : decode cX9_nextRow 0 = .ok (.aload_n 0, 1) := by decide +kernel
theorem dX9_nextRow_1 : decode cX9_nextRow 1 = .ok (.getfield 425, 3) := by decide +kernel
theorem dX9_nextRow_4 : decode cX9_nextRow 4 = .ok (.getfield 326, 3) := by decide +kernel
theorem dX9_nextRow_7 : decode cX9_nextRow 7 = .ok (.iload_n 1, 1) := by decide +kernel
theorem dX9_nextRow_8 : decode cX9_nextRow 8 = .ok (.iaload, 1) := by decide +kernel
theorem dX9_nextRow_9 : decode cX9_nextRow 9 = .ok (.ifCond .ne 7, 3) := by decide +kernel
theorem dX9_nextRow_12 : decode cX9_nextRow 12 = .ok (.iconst 1, 1) := by decide +kernel
theorem dX9_nextRow_13 : decode cX9_nextRow 13 = .ok (.goto 4, 3) := by decide +kernel
theorem dX9_nextRow_16 : decode cX9_nextRow 16 = .ok (.iconst 0, 1) := by decide +kernel
theorem dX9_nextRow_17 : decode cX9_nextRow 17 = .ok (.istore_n 2, 1) := by decide +kernel
theorem dX9_nextRow_18 : decode cX9_nextRow 18 = .ok (.iload_n 2, 1) := by decide +kernel
theorem dX9_nextRow_19 : decode cX9_nextRow 19 = .ok (.ifCond .eq 7, 3) := by decide +kernel
theorem dX9_nextRow_22 : decode cX9_nextRow 22 = .ok (.iconst 1, 1) := by decide +kernel
theorem dX9_nextRow_23 : decode cX9_nextRow 23 = .ok (.goto 10, 3) := by decide +kernel
theorem dX9_nextRow_26 : decode cX9_nextRow 26 = .ok (.aload_n 0, 1) := by decide +kernel
theorem dX9_nextRow_27 : decode cX9_nextRow 27 = .ok (.getfield 425, 3) := by decide +kernel
theorem dX9_nextRow_30 : decode cX9_nextRow 30 = .ok (.getfield 205, 3) := by decide +kernel
theorem dX9_nextRow_33 : decode cX9_nextRow 33 = .ok (.istore_n 3, 1) := by decide +kernel
theorem dX9_nextRow_34 : decode cX9_nextRow 34 = .ok (.aload_n 0, 1) := by decide +kernel
theorem dX9_nextRow_35 : decode cX9_nextRow 35 = .ok (.iload_n 3, 1) := by decide +kernel
theorem dX9_nextRow_36 : decode cX9_nextRow 36 = .ok (.invokevirtual 469, 3) := by decide +kernel
theorem dX9_nextRow_39 : decode cX9_nextRow 39 = .ok (.ifCond .eq 18, 3) := by decide +kernel
theorem dX9_nextRow_42 : decode cX9_nextRow 42 = .ok (.iload_n 3, 1) := by decide +kernel
theorem dX9_nextRow_43 : decode cX9_nextRow 43 = .ok (.iload_n 2, 1) := by decide +kernel
theorem dX9_nextRow_44 : decode cX9_nextRow 44 = .ok (.ifCond .eq 7, 3) := by decide +kernel
theorem dX9_nextRow_47 : decode cX9_nextRow 47 = .ok (.iconst 1, 1) := by decide +kernel
theorem dX9_nextRow_48 : decode cX9_nextRow 48 = .ok (.goto 4, 3) := by decide +kernel
theorem dX9_nextRow_51 : decode cX9_nextRow 51 = .ok (.iconst (-1), 1) := by decide +kernel
theorem dX9_nextRow_52 : decode cX9_nextRow 52 = .ok (.iadd, 1) := by decide +kernel
theorem dX9_nextRow_53 : decode cX9_nextRow 53 = .ok (.istore_n 3, 1) := by decide +kernel
theorem dX9_nextRow_54 : decode cX9_nextRow 54 = .ok (.goto (-20), 3) := by decide +kernel
theorem dX9_nextRow_57 : decode cX9_nextRow 57 = .ok (.iload_n 3, 1) := by decide +kernel
theorem dX9_nextRow_58 : decode cX9_nextRow 58 = .ok (.ireturn, 1) := by decide +kernel
theorem dX9_behindBelts_0 : decode cX9_behindBelts 0 = .ok (.iload_n 1, 1) := by decide +kernel
theorem dX9_behindBelts_1 : decode cX9_behindBelts 1 = .ok (.istore_n 2, 1) := by decide +kernel
theorem dX9_behindBelts_2 : decode cX9_behindBelts 2 = .ok (.iconst 1, 1) := by decide +kernel
theorem dX9_behindBelts_3 : decode cX9_behindBelts 3 = .ok (.istore_n 3, 1) := by decide +kernel
theorem dX9_behindBelts_4 : decode cX9_behindBelts 4 = .ok (.iload_n 3, 1) := by decide +kernel
theorem dX9_behindBelts_5 : decode cX9_behindBelts 5 = .ok (.ifCond .eq 80, 3) := by decide +kernel
theorem dX9_behindBelts_8 : decode cX9_behindBelts 8 = .ok (.iconst 0, 1) := by decide +kernel
theorem dX9_behindBelts_9 : decode cX9_behindBelts 9 = .ok (.istore_n 3, 1) := by decide +kernel
theorem dX9_behindBelts_10 : decode cX9_behindBelts 10 = .ok (.iconst 0, 1) := by decide +kernel
theorem dX9_behindBelts_11 : decode cX9_behindBelts 11 = .ok (.istore 4, 2) := by decide +kernel
theorem dX9_behindBelts_13 : decode cX9_behindBelts 13 = .ok (.iload 4, 2) := by decide +kernel
theorem dX9_behindBelts_15 : decode cX9_behindBelts 15 = .ok (.aload_n 0, 1) := by decide +kernel
theorem dX9_behindBelts_16 : decode cX9_behindBelts 16 = .ok (.getfield 425, 3) := by decide +kernel
theorem dX9_behindBelts_19 : decode cX9_behindBelts 19 = .ok (.getfield 384, 3) := by decide +kernel
theorem dX9_behindBelts_22 : decode cX9_behindBelts 22 = .ok (.if_icmp .ge 60, 3) := by decide +kernel
theorem dX9_behindBelts_25 : decode cX9_behindBelts 25 = .ok (.iload_n 2, 1) := by decide +kernel
theorem dX9_behindBelts_26 : decode cX9_behindBelts 26 = .ok (.bipush 60, 2) := by decide +kernel
theorem dX9_behindBelts_28 : decode cX9_behindBelts 28 = .ok (.idiv, 1) := by decide +kernel
theorem dX9_behindBelts_29 : decode cX9_behindBelts 29 = .ok (.aload_n 0, 1) := by decide +kernel
theorem dX9_behindBelts_30 : decode cX9_behindBelts 30 = .ok (.getfield 425, 3) := by decide +kernel
theorem dX9_behindBelts_33 : decode cX9_behindBelts 33 = .ok (.getfield 386, 3) := by decide +kernel
theorem dX9_behindBelts_36 : decode cX9_behindBelts 36 = .ok (.iload 4, 2) := by decide +kernel
theorem dX9_behindBelts_38 : decode cX9_behindBelts 38 = .ok (.iaload, 1) := by decide +kernel
theorem dX9_behindBelts_39 : decode cX9_behindBelts 39 = .ok (.aload_n 0, 1) := by decide +kernel
theorem dX9_behindBelts_40 : decode cX9_behindBelts 40 = .ok (.getfield 425, 3) := by decide +kernel
theorem dX9_behindBelts_43 : decode cX9_behindBelts 43 = .ok (.getfield 389, 3) := by decide +kernel
theorem dX9_behindBelts_46 : decode cX9_behindBelts 46 = .ok (.iload 4, 2) := by decide +kernel
theorem dX9_behindBelts_48 : decode cX9_behindBelts 48 = .ok (.iaload, 1) := by decide +kernel
theorem dX9_behindBelts_49 : decode cX9_behindBelts 49 = .ok (.iconst 1, 1) := by decide +kernel
theorem dX9_behindBelts_50 : decode cX9_behindBelts 50 = .ok (.isub, 1) := by decide +kernel
theorem dX9_behindBelts_51 : decode cX9_behindBelts 51 = .ok (.invokestatic 130, 3) := by decide +kernel
theorem dX9_behindBelts_54 : decode cX9_behindBelts 54 = .ok (.ifCond .ne 6, 3) := by decide +kernel
theorem dX9_behindBelts_57 : decode cX9_behindBelts 57 = .ok (.goto 19, 3) := by decide +kernel
theorem dX9_behindBelts_60 : decode cX9_behindBelts 60 = .ok (.bipush 60, 2) := by decide +kernel
theorem dX9_behindBelts_62 : decode cX9_behindBelts 62 = .ok (.aload_n 0, 1) := by decide +kernel
theorem dX9_behindBelts_63 : decode cX9_behindBelts 63 = .ok (.getfield 425, 3) := by decide +kernel
theorem dX9_behindBelts_66 : decode cX9_behindBelts 66 = .ok (.getfield 389, 3) := by decide +kernel
theorem dX9_behindBelts_69 : decode cX9_behindBelts 69 = .ok (.iload 4, 2) := by decide +kernel
theorem dX9_behindBelts_71 : decode cX9_behindBelts 71 = .ok (.iaload, 1) := by decide +kernel
theorem dX9_behindBelts_72 : decode cX9_behindBelts 72 = .ok (.imul, 1) := by decide +kernel
theorem dX9_behindBelts_73 : decode cX9_behindBelts 73 = .ok (.istore_n 2, 1) := by decide +kernel
theorem dX9_behindBelts_74 : decode cX9_behindBelts 74 = .ok (.iconst 1, 1) := by decide +kernel
theorem dX9_behindBelts_75 : decode cX9_behindBelts 75 = .ok (.istore_n 3, 1) := by decide +kernel
theorem dX9_behindBelts_76 : decode cX9_behindBelts 76 = .ok (.iinc 4 1, 3) := by decide +kernel
theorem dX9_behindBelts_79 : decode cX9_behindBelts 79 = .ok (.goto (-66), 3) := by decide +kernel
theorem dX9_behindBelts_82 : decode cX9_behindBelts 82 = .ok (.goto (-78), 3) := by decide +kernel
theorem dX9_behindBelts_85 : decode cX9_behindBelts 85 = .ok (.iload_n 2, 1) := by decide +kernel
theorem dX9_behindBelts_86 : decode cX9_behindBelts 86 = .ok (.ireturn, 1) := by decide +kernel
theorem dX9_drawn_0 : decode cX9_drawn 0 = .ok (.aload_n 0, 1) := by decide +kernel
theorem dX9_drawn_1 : decode cX9_drawn 1 = .ok (.getfield 21, 3) := by decide +kernel
theorem dX9_drawn_4 : decode cX9_drawn 4 = .ok (.sipush 429, 3) := by decide +kernel
theorem dX9_drawn_7 : decode cX9_drawn 7 = .ok (.ldc2_w 472, 3) := by decide +kernel
theorem dX9_drawn_10 : decode cX9_drawn 10 = .ok (.aload_n 0, 1) := by decide +kernel
theorem dX9_drawn_11 : decode cX9_drawn 11 = .ok (.getfield 21, 3) := by decide +kernel
theorem dX9_drawn_14 : decode cX9_drawn 14 = .ok (.sipush 429, 3) := by decide +kernel
theorem dX9_drawn_17 : decode cX9_drawn 17 = .ok (.iaload, 1) := by decide +kernel
theorem dX9_drawn_18 : decode cX9_drawn 18 = .ok (.i2l, 1) := by decide +kernel
theorem dX9_drawn_19 : decode cX9_drawn 19 = .ok (.lmul, 1) := by decide +kernel
theorem dX9_drawn_20 : decode cX9_drawn 20 = .ok (.ldc2_w 474, 3) := by decide +kernel
theorem dX9_drawn_23 : decode cX9_drawn 23 = .ok (.ladd, 1) := by decide +kernel
theorem dX9_drawn_24 : decode cX9_drawn 24 = .ok (.ldc2_w 476, 3) := by decide +kernel
theorem dX9_drawn_27 : decode cX9_drawn 27 = .ok (.lrem, 1) := by decide +kernel
theorem dX9_drawn_28 : decode cX9_drawn 28 = .ok (.l2i, 1) := by decide +kernel
theorem dX9_drawn_29 : decode cX9_drawn 29 = .ok (.iastore, 1) := by decide +kernel
theorem dX9_drawn_30 : decode cX9_drawn 30 = .ok (.aload_n 0, 1) := by decide +kernel
theorem dX9_drawn_31 : decode cX9_drawn 31 = .ok (.getfield 21, 3) := by decide +kernel
theorem dX9_drawn_34 : decode cX9_drawn 34 = .ok (.sipush 429, 3) := by decide +kernel
theorem dX9_drawn_37 : decode cX9_drawn 37 = .ok (.iaload, 1) := by decide +kernel
theorem dX9_drawn_38 : decode cX9_drawn 38 = .ok (.iload_n 1, 1) := by decide +kernel
theorem dX9_drawn_39 : decode cX9_drawn 39 = .ok (.irem, 1) := by decide +kernel
theorem dX9_drawn_40 : decode cX9_drawn 40 = .ok (.ireturn, 1) := by decide +kernel
theorem dX9_heatOf_0 : decode cX9_heatOf 0 = .ok (.iconst 0, 1) := by decide +kernel
theorem dX9_heatOf_1 : decode cX9_heatOf 1 = .ok (.istore_n 3, 1) := by decide +kernel
theorem dX9_heatOf_2 : decode cX9_heatOf 2 = .ok (.iconst 0, 1) := by decide +kernel
theorem dX9_heatOf_3 : decode cX9_heatOf 3 = .ok (.istore 4, 2) := by decide +kernel
theorem dX9_heatOf_5 : decode cX9_heatOf 5 = .ok (.iload 4, 2) := by decide +kernel
theorem dX9_heatOf_7 : decode cX9_heatOf 7 = .ok (.aload_n 0, 1) := by decide +kernel
theorem dX9_heatOf_8 : decode cX9_heatOf 8 = .ok (.getfield 425, 3) := by decide +kernel
theorem dX9_heatOf_11 : decode cX9_heatOf 11 = .ok (.getfield 289, 3) := by decide +kernel
theorem dX9_heatOf_14 : decode cX9_heatOf 14 = .ok (.if_icmp .ge 62, 3) := by decide +kernel
theorem dX9_heatOf_17 : decode cX9_heatOf 17 = .ok (.aload_n 0, 1) := by decide +kernel
theorem dX9_heatOf_18 : decode cX9_heatOf 18 = .ok (.getfield 425, 3) := by decide +kernel
theorem dX9_heatOf_21 : decode cX9_heatOf 21 = .ok (.getfield 296, 3) := by decide +kernel
theorem dX9_heatOf_24 : decode cX9_heatOf 24 = .ok (.iload 4, 2) := by decide +kernel
theorem dX9_heatOf_26 : decode cX9_heatOf 26 = .ok (.iaload, 1) := by decide +kernel
theorem dX9_heatOf_27 : decode cX9_heatOf 27 = .ok (.iload_n 1, 1) := by decide +kernel
theorem dX9_heatOf_28 : decode cX9_heatOf 28 = .ok (.if_icmp .ne 42, 3) := by decide +kernel
theorem dX9_heatOf_31 : decode cX9_heatOf 31 = .ok (.aload_n 0, 1) := by decide +kernel
theorem dX9_heatOf_32 : decode cX9_heatOf 32 = .ok (.getfield 425, 3) := by decide +kernel
theorem dX9_heatOf_35 : decode cX9_heatOf 35 = .ok (.getfield 299, 3) := by decide +kernel
theorem dX9_heatOf_38 : decode cX9_heatOf 38 = .ok (.iload 4, 2) := by decide +kernel
theorem dX9_heatOf_40 : decode cX9_heatOf 40 = .ok (.iaload, 1) := by decide +kernel
theorem dX9_heatOf_41 : decode cX9_heatOf 41 = .ok (.iload_n 2, 1) := by decide +kernel
theorem dX9_heatOf_42 : decode cX9_heatOf 42 = .ok (.if_icmp .gt 28, 3) := by decide +kernel
theorem dX9_heatOf_45 : decode cX9_heatOf 45 = .ok (.aload_n 0, 1) := by decide +kernel
theorem dX9_heatOf_46 : decode cX9_heatOf 46 = .ok (.getfield 425, 3) := by decide +kernel
theorem dX9_heatOf_49 : decode cX9_heatOf 49 = .ok (.getfield 299, 3) := by decide +kernel
theorem dX9_heatOf_52 : decode cX9_heatOf 52 = .ok (.iload 4, 2) := by decide +kernel
theorem dX9_heatOf_54 : decode cX9_heatOf 54 = .ok (.iaload, 1) := by decide +kernel
theorem dX9_heatOf_55 : decode cX9_heatOf 55 = .ok (.iload_n 3, 1) := by decide +kernel
theorem dX9_heatOf_56 : decode cX9_heatOf 56 = .ok (.if_icmp .le 14, 3) := by decide +kernel
theorem dX9_heatOf_59 : decode cX9_heatOf 59 = .ok (.aload_n 0, 1) := by decide +kernel
theorem dX9_heatOf_60 : decode cX9_heatOf 60 = .ok (.getfield 425, 3) := by decide +kernel
theorem dX9_heatOf_63 : decode cX9_heatOf 63 = .ok (.getfield 299, 3) := by decide +kernel
theorem dX9_heatOf_66 : decode cX9_heatOf 66 = .ok (.iload 4, 2) := by decide +kernel
theorem dX9_heatOf_68 : decode cX9_heatOf 68 = .ok (.iaload, 1) := by decide +kernel
theorem dX9_heatOf_69 : decode cX9_heatOf 69 = .ok (.istore_n 3, 1) := by decide +kernel
theorem dX9_heatOf_70 : decode cX9_heatOf 70 = .ok (.iinc 4 1, 3) := by decide +kernel
theorem dX9_heatOf_73 : decode cX9_heatOf 73 = .ok (.goto (-68), 3) := by decide +kernel
theorem dX9_heatOf_76 : decode cX9_heatOf 76 = .ok (.aload_n 0, 1) := by decide +kernel
theorem dX9_heatOf_77 : decode cX9_heatOf 77 = .ok (.getfield 425, 3) := by decide +kernel
theorem dX9_heatOf_80 : decode cX9_heatOf 80 = .ok (.getfield 287, 3) := by decide +kernel
theorem dX9_heatOf_83 : decode cX9_heatOf 83 = .ok (.iload_n 1, 1) := by decide +kernel
theorem dX9_heatOf_84 : decode cX9_heatOf 84 = .ok (.iaload, 1) := by decide +kernel
theorem dX9_heatOf_85 : decode cX9_heatOf 85 = .ok (.aload_n 0, 1) := by decide +kernel
theorem dX9_heatOf_86 : decode cX9_heatOf 86 = .ok (.getfield 425, 3) := by decide +kernel
theorem dX9_heatOf_89 : decode cX9_heatOf 89 = .ok (.getfield 272, 3) := by decide +kernel
theorem dX9_heatOf_92 : decode cX9_heatOf 92 = .ok (.iload_n 2, 1) := by decide +kernel
theorem dX9_heatOf_93 : decode cX9_heatOf 93 = .ok (.iload_n 3, 1) := by decide +kernel
theorem dX9_heatOf_94 : decode cX9_heatOf 94 = .ok (.isub, 1) := by decide +kernel
theorem dX9_heatOf_95 : decode cX9_heatOf 95 = .ok (.imul, 1) := by decide +kernel
theorem dX9_heatOf_96 : decode cX9_heatOf 96 = .ok (.bipush 10, 2) := by decide +kernel
theorem dX9_heatOf_98 : decode cX9_heatOf 98 = .ok (.idiv, 1) := by decide +kernel
theorem dX9_heatOf_99 : decode cX9_heatOf 99 = .ok (.isub, 1) := by decide +kernel
theorem dX9_heatOf_100 : decode cX9_heatOf 100 = .ok (.ireturn, 1) := by decide +kernel
theorem dX9_hands_0 : decode cX9_hands 0 = .ok (.aload_n 0, 1) := by decide +kernel
theorem dX9_hands_1 : decode cX9_hands 1 = .ok (.getfield 21, 3) := by decide +kernel
theorem dX9_hands_4 : decode cX9_hands 4 = .ok (.sipush 414, 3) := by decide +kernel
theorem dX9_hands_7 : decode cX9_hands 7 = .ok (.iconst 4, 1) := by decide +kernel
theorem dX9_hands_8 : decode cX9_hands 8 = .ok (.iload_n 1, 1) := by decide +kernel
theorem dX9_hands_9 : decode cX9_hands 9 = .ok (.imul, 1) := by decide +kernel
theorem dX9_hands_10 : decode cX9_hands 10 = .ok (.iadd, 1) := by decide +kernel
theorem dX9_hands_11 : decode cX9_hands 11 = .ok (.iload_n 3, 1) := by decide +kernel
theorem dX9_hands_12 : decode cX9_hands 12 = .ok (.iadd, 1) := by decide +kernel
theorem dX9_hands_13 : decode cX9_hands 13 = .ok (.dup2, 1) := by decide +kernel
theorem dX9_hands_14 : decode cX9_hands 14 = .ok (.iaload, 1) := by decide +kernel
theorem dX9_hands_15 : decode cX9_hands 15 = .ok (.iconst 1, 1) := by decide +kernel
theorem dX9_hands_16 : decode cX9_hands 16 = .ok (.isub, 1) := by decide +kernel
theorem dX9_hands_17 : decode cX9_hands 17 = .ok (.iastore, 1) := by decide +kernel
theorem dX9_hands_18 : decode cX9_hands 18 = .ok (.aload_n 0, 1) := by decide +kernel
theorem dX9_hands_19 : decode cX9_hands 19 = .ok (.getfield 21, 3) := by decide +kernel
theorem dX9_hands_22 : decode cX9_hands 22 = .ok (.bipush 10, 2) := by decide +kernel
theorem dX9_hands_24 : decode cX9_hands 24 = .ok (.iload_n 2, 1) := by decide +kernel
theorem dX9_hands_25 : decode cX9_hands 25 = .ok (.imul, 1) := by decide +kernel
theorem dX9_hands_26 : decode cX9_hands 26 = .ok (.bipush 6, 2) := by decide +kernel
theorem dX9_hands_28 : decode cX9_hands 28 = .ok (.iadd, 1) := by decide +kernel
theorem dX9_hands_29 : decode cX9_hands 29 = .ok (.iload_n 3, 1) := by decide +kernel
theorem dX9_hands_30 : decode cX9_hands 30 = .ok (.iadd, 1) := by decide +kernel
theorem dX9_hands_31 : decode cX9_hands 31 = .ok (.dup2, 1) := by decide +kernel
theorem dX9_hands_32 : decode cX9_hands 32 = .ok (.iaload, 1) := by decide +kernel
theorem dX9_hands_33 : decode cX9_hands 33 = .ok (.iconst 1, 1) := by decide +kernel
theorem dX9_hands_34 : decode cX9_hands 34 = .ok (.iadd, 1) := by decide +kernel
theorem dX9_hands_35 : decode cX9_hands 35 = .ok (.iastore, 1) := by decide +kernel
theorem dX9_hands_36 : decode cX9_hands 36 = .ok (.aload_n 0, 1) := by decide +kernel
theorem dX9_hands_37 : decode cX9_hands 37 = .ok (.getfield 21, 3) := by decide +kernel
theorem dX9_hands_40 : decode cX9_hands 40 = .ok (.sipush 410, 3) := by decide +kernel
theorem dX9_hands_43 : decode cX9_hands 43 = .ok (.iload_n 1, 1) := by decide +kernel
theorem dX9_hands_44 : decode cX9_hands 44 = .ok (.iadd, 1) := by decide +kernel
theorem dX9_hands_45 : decode cX9_hands 45 = .ok (.dup2, 1) := by decide +kernel
theorem dX9_hands_46 : decode cX9_hands 46 = .ok (.iaload, 1) := by decide +kernel
theorem dX9_hands_47 : decode cX9_hands 47 = .ok (.aload_n 0, 1) := by decide +kernel
theorem dX9_hands_48 : decode cX9_hands 48 = .ok (.getfield 425, 3) := by decide +kernel
theorem dX9_hands_51 : decode cX9_hands 51 = .ok (.getfield 267, 3) := by decide +kernel
theorem dX9_hands_54 : decode cX9_hands 54 = .ok (.iadd, 1) := by decide +kernel
theorem dX9_hands_55 : decode cX9_hands 55 = .ok (.iastore, 1) := by decide +kernel
theorem dX9_hands_56 : decode cX9_hands 56 = .ok (.aload_n 0, 1) := by decide +kernel
theorem dX9_hands_57 : decode cX9_hands 57 = .ok (.iload_n 3, 1) := by decide +kernel
theorem dX9_hands_58 : decode cX9_hands 58 = .ok (.aload_n 0, 1) := by decide +kernel
theorem dX9_hands_59 : decode cX9_hands 59 = .ok (.getfield 21, 3) := by decide +kernel
theorem dX9_hands_62 : decode cX9_hands 62 = .ok (.sipush 410, 3) := by decide +kernel
theorem dX9_hands_65 : decode cX9_hands 65 = .ok (.iload_n 1, 1) := by decide +kernel
theorem dX9_hands_66 : decode cX9_hands 66 = .ok (.iadd, 1) := by decide +kernel
theorem dX9_hands_67 : decode cX9_hands 67 = .ok (.iaload, 1) := by decide +kernel
theorem dX9_hands_68 : decode cX9_hands 68 = .ok (.bipush 60, 2) := by decide +kernel
theorem dX9_hands_70 : decode cX9_hands 70 = .ok (.idiv, 1) := by decide +kernel
theorem dX9_hands_71 : decode cX9_hands 71 = .ok (.invokevirtual 478, 3) := by decide +kernel
theorem dX9_hands_74 : decode cX9_hands 74 = .ok (.aload_n 0, 1) := by decide +kernel
theorem dX9_hands_75 : decode cX9_hands 75 = .ok (.getfield 425, 3) := by decide +kernel
theorem dX9_hands_78 : decode cX9_hands 78 = .ok (.getfield 208, 3) := by decide +kernel
theorem dX9_hands_81 : decode cX9_hands 81 = .ok (.if_icmp .ge 18, 3) := by decide +kernel
theorem dX9_hands_84 : decode cX9_hands 84 = .ok (.aload_n 0, 1) := by decide +kernel
theorem dX9_hands_85 : decode cX9_hands 85 = .ok (.getfield 21, 3) := by decide +kernel
theorem dX9_hands_88 : decode cX9_hands 88 = .ok (.bipush 10, 2) := by decide +kernel
theorem dX9_hands_90 : decode cX9_hands 90 = .ok (.iload_n 2, 1) := by decide +kernel
theorem dX9_hands_91 : decode cX9_hands 91 = .ok (.imul, 1) := by decide +kernel
theorem dX9_hands_92 : decode cX9_hands 92 = .ok (.iconst 5, 1) := by decide +kernel
theorem dX9_hands_93 : decode cX9_hands 93 = .ok (.iadd, 1) := by decide +kernel
theorem dX9_hands_94 : decode cX9_hands 94 = .ok (.dup2, 1) := by decide +kernel
theorem dX9_hands_95 : decode cX9_hands 95 = .ok (.iaload, 1) := by decide +kernel
theorem dX9_hands_96 : decode cX9_hands 96 = .ok (.iconst 1, 1) := by decide +kernel
theorem dX9_hands_97 : decode cX9_hands 97 = .ok (.iadd, 1) := by decide +kernel
theorem dX9_hands_98 : decode cX9_hands 98 = .ok (.iastore, 1) := by decide +kernel
theorem dX9_hands_99 : decode cX9_hands 99 = .ok (.return_, 1) := by decide +kernel
theorem dX9_leftOf_0 : decode cX9_leftOf 0 = .ok (.aload_n 0, 1) := by decide +kernel
theorem dX9_leftOf_1 : decode cX9_leftOf 1 = .ok (.getfield 21, 3) := by decide +kernel
theorem dX9_leftOf_4 : decode cX9_leftOf 4 = .ok (.sipush 414, 3) := by decide +kernel
theorem dX9_leftOf_7 : decode cX9_leftOf 7 = .ok (.iconst 4, 1) := by decide +kernel
theorem dX9_leftOf_8 : decode cX9_leftOf 8 = .ok (.iload_n 1, 1) := by decide +kernel
theorem dX9_leftOf_9 : decode cX9_leftOf 9 = .ok (.imul, 1) := by decide +kernel
theorem dX9_leftOf_10 : decode cX9_leftOf 10 = .ok (.iadd, 1) := by decide +kernel
theorem dX9_leftOf_11 : decode cX9_leftOf 11 = .ok (.iload_n 2, 1) := by decide +kernel
theorem dX9_leftOf_12 : decode cX9_leftOf 12 = .ok (.iadd, 1) := by decide +kernel
theorem dX9_leftOf_13 : decode cX9_leftOf 13 = .ok (.iaload, 1) := by decide +kernel
theorem dX9_leftOf_14 : decode cX9_leftOf 14 = .ok (.ireturn, 1) := by decide +kernel
theorem dX9_servesNamed_0 : decode cX9_servesNamed 0 = .ok (.iconst 0, 1) := by decide +kernel
theorem dX9_servesNamed_1 : decode cX9_servesNamed 1 = .ok (.istore 4, 2) := by decide +kernel
theorem dX9_servesNamed_3 : decode cX9_servesNamed 3 = .ok (.iload 4, 2) := by decide +kernel
theorem dX9_servesNamed_5 : decode cX9_servesNamed 5 = .ok (.aload_n 0, 1) := by decide +kernel
theorem dX9_servesNamed_6 : decode cX9_servesNamed 6 = .ok (.getfield 425, 3) := by decide +kernel
theorem dX9_servesNamed_9 : decode cX9_servesNamed 9 = .ok (.getfield 365, 3) := by decide +kernel
theorem dX9_servesNamed_12 : decode cX9_servesNamed 12 = .ok (.if_icmp .ge 104, 3) := by decide +kernel
theorem dX9_servesNamed_15 : decode cX9_servesNamed 15 = .ok (.aload_n 0, 1) := by decide +kernel
theorem dX9_servesNamed_16 : decode cX9_servesNamed 16 = .ok (.getfield 425, 3) := by decide +kernel
theorem dX9_servesNamed_19 : decode cX9_servesNamed 19 = .ok (.getfield 375, 3) := by decide +kernel
theorem dX9_servesNamed_22 : decode cX9_servesNamed 22 = .ok (.iload 4, 2) := by decide +kernel
theorem dX9_servesNamed_24 : decode cX9_servesNamed 24 = .ok (.iaload, 1) := by decide +kernel
theorem dX9_servesNamed_25 : decode cX9_servesNamed 25 = .ok (.iload_n 2, 1) := by decide +kernel
theorem dX9_servesNamed_26 : decode cX9_servesNamed 26 = .ok (.if_icmp .ne 84, 3) := by decide +kernel
theorem dX9_servesNamed_29 : decode cX9_servesNamed 29 = .ok (.aload_n 0, 1) := by decide +kernel
theorem dX9_servesNamed_30 : decode cX9_servesNamed 30 = .ok (.getfield 425, 3) := by decide +kernel
theorem dX9_servesNamed_33 : decode cX9_servesNamed 33 = .ok (.getfield 380, 3) := by decide +kernel
theorem dX9_servesNamed_36 : decode cX9_servesNamed 36 = .ok (.iload 4, 2) := by decide +kernel
theorem dX9_servesNamed_38 : decode cX9_servesNamed 38 = .ok (.baload, 1) := by decide +kernel
theorem dX9_servesNamed_39 : decode cX9_servesNamed 39 = .ok (.iload_n 3, 1) := by decide +kernel
theorem dX9_servesNamed_40 : decode cX9_servesNamed 40 = .ok (.if_icmp .eq 6, 3) := by decide +kernel
theorem dX9_servesNamed_43 : decode cX9_servesNamed 43 = .ok (.goto 67, 3) := by decide +kernel
theorem dX9_servesNamed_46 : decode cX9_servesNamed 46 = .ok (.aload_n 0, 1) := by decide +kernel
theorem dX9_servesNamed_47 : decode cX9_servesNamed 47 = .ok (.iload_n 1, 1) := by decide +kernel
theorem dX9_servesNamed_48 : decode cX9_servesNamed 48 = .ok (.aload_n 0, 1) := by decide +kernel
theorem dX9_servesNamed_49 : decode cX9_servesNamed 49 = .ok (.getfield 425, 3) := by decide +kernel
theorem dX9_servesNamed_52 : decode cX9_servesNamed 52 = .ok (.getfield 378, 3) := by decide +kernel
theorem dX9_servesNamed_55 : decode cX9_servesNamed 55 = .ok (.iload 4, 2) := by decide +kernel
theorem dX9_servesNamed_57 : decode cX9_servesNamed 57 = .ok (.iaload, 1) := by decide +kernel
theorem dX9_servesNamed_58 : decode cX9_servesNamed 58 = .ok (.invokevirtual 481, 3) := by decide +kernel
theorem dX9_servesNamed_61 : decode cX9_servesNamed 61 = .ok (.ifCond .le 34, 3) := by decide +kernel
theorem dX9_servesNamed_64 : decode cX9_servesNamed 64 = .ok (.aload_n 0, 1) := by decide +kernel
theorem dX9_servesNamed_65 : decode cX9_servesNamed 65 = .ok (.iload_n 1, 1) := by decide +kernel
theorem dX9_servesNamed_66 : decode cX9_servesNamed 66 = .ok (.iload_n 2, 1) := by decide +kernel
theorem dX9_servesNamed_67 : decode cX9_servesNamed 67 = .ok (.aload_n 0, 1) := by decide +kernel
theorem dX9_servesNamed_68 : decode cX9_servesNamed 68 = .ok (.getfield 425, 3) := by decide +kernel
theorem dX9_servesNamed_71 : decode cX9_servesNamed 71 = .ok (.getfield 378, 3) := by decide +kernel
theorem dX9_servesNamed_74 : decode cX9_servesNamed 74 = .ok (.iload 4, 2) := by decide +kernel
theorem dX9_servesNamed_76 : decode cX9_servesNamed 76 = .ok (.iaload, 1) := by decide +kernel
theorem dX9_servesNamed_77 : decode cX9_servesNamed 77 = .ok (.invokevirtual 484, 3) := by decide +kernel
theorem dX9_servesNamed_80 : decode cX9_servesNamed 80 = .ok (.aload_n 0, 1) := by decide +kernel
theorem dX9_servesNamed_81 : decode cX9_servesNamed 81 = .ok (.getfield 21, 3) := by decide +kernel
theorem dX9_servesNamed_84 : decode cX9_servesNamed 84 = .ok (.sipush 423, 3) := by decide +kernel
theorem dX9_servesNamed_87 : decode cX9_servesNamed 87 = .ok (.iload 4, 2) := by decide +kernel
theorem dX9_servesNamed_89 : decode cX9_servesNamed 89 = .ok (.iadd, 1) := by decide +kernel
theorem dX9_servesNamed_90 : decode cX9_servesNamed 90 = .ok (.iconst 1, 1) := by decide +kernel
theorem dX9_servesNamed_91 : decode cX9_servesNamed 91 = .ok (.iastore, 1) := by decide +kernel
theorem dX9_servesNamed_92 : decode cX9_servesNamed 92 = .ok (.goto 18, 3) := by decide +kernel
theorem dX9_servesNamed_95 : decode cX9_servesNamed 95 = .ok (.aload_n 0, 1) := by decide +kernel
theorem dX9_servesNamed_96 : decode cX9_servesNamed 96 = .ok (.getfield 21, 3) := by decide +kernel
theorem dX9_servesNamed_99 : decode cX9_servesNamed 99 = .ok (.bipush 10, 2) := by decide +kernel
theorem dX9_servesNamed_101 : decode cX9_servesNamed 101 = .ok (.iload_n 2, 1) := by decide +kernel
theorem dX9_servesNamed_102 : decode cX9_servesNamed 102 = .ok (.imul, 1) := by decide +kernel
theorem dX9_servesNamed_103 : decode cX9_servesNamed 103 = .ok (.iconst 4, 1) := by decide +kernel
theorem dX9_servesNamed_104 : decode cX9_servesNamed 104 = .ok (.iadd, 1) := by decide +kernel
theorem dX9_servesNamed_105 : decode cX9_servesNamed 105 = .ok (.dup2, 1) := by decide +kernel
theorem dX9_servesNamed_106 : decode cX9_servesNamed 106 = .ok (.iaload, 1) := by decide +kernel
theorem dX9_servesNamed_107 : decode cX9_servesNamed 107 = .ok (.iconst 1, 1) := by decide +kernel
theorem dX9_servesNamed_108 : decode cX9_servesNamed 108 = .ok (.iadd, 1) := by decide +kernel
theorem dX9_servesNamed_109 : decode cX9_servesNamed 109 = .ok (.iastore, 1) := by decide +kernel
theorem dX9_servesNamed_110 : decode cX9_servesNamed 110 = .ok (.iinc 4 1, 3) := by decide +kernel
theorem dX9_servesNamed_113 : decode cX9_servesNamed 113 = .ok (.goto (-110), 3) := by decide +kernel
theorem dX9_servesNamed_116 : decode cX9_servesNamed 116 = .ok (.return_, 1) := by decide +kernel
theorem dX9_likedIn_0 : decode cX9_likedIn 0 = .ok (.iconst 0, 1) := by decide +kernel
theorem dX9_likedIn_1 : decode cX9_likedIn 1 = .ok (.istore_n 2, 1) := by decide +kernel
theorem dX9_likedIn_2 : decode cX9_likedIn 2 = .ok (.iconst 0, 1) := by decide +kernel
theorem dX9_likedIn_3 : decode cX9_likedIn 3 = .ok (.istore_n 3, 1) := by decide +kernel
theorem dX9_likedIn_4 : decode cX9_likedIn 4 = .ok (.iload_n 3, 1) := by decide +kernel
theorem dX9_likedIn_5 : decode cX9_likedIn 5 = .ok (.aload_n 0, 1) := by decide +kernel
theorem dX9_likedIn_6 : decode cX9_likedIn 6 = .ok (.getfield 425, 3) := by decide +kernel
theorem dX9_likedIn_9 : decode cX9_likedIn 9 = .ok (.getfield 362, 3) := by decide +kernel
theorem dX9_likedIn_12 : decode cX9_likedIn 12 = .ok (.iload_n 1, 1) := by decide +kernel
theorem dX9_likedIn_13 : decode cX9_likedIn 13 = .ok (.iaload, 1) := by decide +kernel
theorem dX9_likedIn_14 : decode cX9_likedIn 14 = .ok (.if_icmp .ge 25, 3) := by decide +kernel
theorem dX9_likedIn_17 : decode cX9_likedIn 17 = .ok (.iload_n 2, 1) := by decide +kernel
theorem dX9_likedIn_18 : decode cX9_likedIn 18 = .ok (.aload_n 0, 1) := by decide +kernel
theorem dX9_likedIn_19 : decode cX9_likedIn 19 = .ok (.getfield 425, 3) := by decide +kernel
theorem dX9_likedIn_22 : decode cX9_likedIn 22 = .ok (.getfield 351, 3) := by decide +kernel
theorem dX9_likedIn_25 : decode cX9_likedIn 25 = .ok (.iconst 4, 1) := by decide +kernel
theorem dX9_likedIn_26 : decode cX9_likedIn 26 = .ok (.iload_n 1, 1) := by decide +kernel
theorem dX9_likedIn_27 : decode cX9_likedIn 27 = .ok (.imul, 1) := by decide +kernel
theorem dX9_likedIn_28 : decode cX9_likedIn 28 = .ok (.iload_n 3, 1) := by decide +kernel
theorem dX9_likedIn_29 : decode cX9_likedIn 29 = .ok (.iadd, 1) := by decide +kernel
theorem dX9_likedIn_30 : decode cX9_likedIn 30 = .ok (.iaload, 1) := by decide +kernel
theorem dX9_likedIn_31 : decode cX9_likedIn 31 = .ok (.iadd, 1) := by decide +kernel
theorem dX9_likedIn_32 : decode cX9_likedIn 32 = .ok (.istore_n 2, 1) := by decide +kernel
theorem dX9_likedIn_33 : decode cX9_likedIn 33 = .ok (.iinc 3 1, 3) := by decide +kernel
theorem dX9_likedIn_36 : decode cX9_likedIn 36 = .ok (.goto (-32), 3) := by decide +kernel
theorem dX9_likedIn_39 : decode cX9_likedIn 39 = .ok (.aload_n 0, 1) := by decide +kernel
theorem dX9_likedIn_40 : decode cX9_likedIn 40 = .ok (.iload_n 2, 1) := by decide +kernel
theorem dX9_likedIn_41 : decode cX9_likedIn 41 = .ok (.invokevirtual 488, 3) := by decide +kernel
theorem dX9_likedIn_44 : decode cX9_likedIn 44 = .ok (.istore_n 3, 1) := by decide +kernel
theorem dX9_likedIn_45 : decode cX9_likedIn 45 = .ok (.iconst 0, 1) := by decide +kernel
theorem dX9_likedIn_46 : decode cX9_likedIn 46 = .ok (.istore 4, 2) := by decide +kernel
theorem dX9_likedIn_48 : decode cX9_likedIn 48 = .ok (.iload_n 3, 1) := by decide +kernel
theorem dX9_likedIn_49 : decode cX9_likedIn 49 = .ok (.aload_n 0, 1) := by decide +kernel
theorem dX9_likedIn_50 : decode cX9_likedIn 50 = .ok (.getfield 425, 3) := by decide +kernel
theorem dX9_likedIn_53 : decode cX9_likedIn 53 = .ok (.getfield 351, 3) := by decide +kernel
theorem dX9_likedIn_56 : decode cX9_likedIn 56 = .ok (.iconst 4, 1) := by decide +kernel
theorem dX9_likedIn_57 : decode cX9_likedIn 57 = .ok (.iload_n 1, 1) := by decide +kernel
theorem dX9_likedIn_58 : decode cX9_likedIn 58 = .ok (.imul, 1) := by decide +kernel
theorem dX9_likedIn_59 : decode cX9_likedIn 59 = .ok (.iload 4, 2) := by decide +kernel
theorem dX9_likedIn_61 : decode cX9_likedIn 61 = .ok (.iadd, 1) := by decide +kernel
theorem dX9_likedIn_62 : decode cX9_likedIn 62 = .ok (.iaload, 1) := by decide +kernel
theorem dX9_likedIn_63 : decode cX9_likedIn 63 = .ok (.if_icmp .lt 26, 3) := by decide +kernel
theorem dX9_likedIn_66 : decode cX9_likedIn 66 = .ok (.iload_n 3, 1) := by decide +kernel
theorem dX9_likedIn_67 : decode cX9_likedIn 67 = .ok (.aload_n 0, 1) := by decide +kernel
theorem dX9_likedIn_68 : decode cX9_likedIn 68 = .ok (.getfield 425, 3) := by decide +kernel
theorem dX9_likedIn_71 : decode cX9_likedIn 71 = .ok (.getfield 351, 3) := by decide +kernel
theorem dX9_likedIn_74 : decode cX9_likedIn 74 = .ok (.iconst 4, 1) := by decide +kernel
theorem dX9_likedIn_75 : decode cX9_likedIn 75 = .ok (.iload_n 1, 1) := by decide +kernel
theorem dX9_likedIn_76 : decode cX9_likedIn 76 = .ok (.imul, 1) := by decide +kernel
theorem dX9_likedIn_77 : decode cX9_likedIn 77 = .ok (.iload 4, 2) := by decide +kernel
theorem dX9_likedIn_79 : decode cX9_likedIn 79 = .ok (.iadd, 1) := by decide +kernel
theorem dX9_likedIn_80 : decode cX9_likedIn 80 = .ok (.iaload, 1) := by decide +kernel
theorem dX9_likedIn_81 : decode cX9_likedIn 81 = .ok (.isub, 1) := by decide +kernel
theorem dX9_likedIn_82 : decode cX9_likedIn 82 = .ok (.istore_n 3, 1) := by decide +kernel
theorem dX9_likedIn_83 : decode cX9_likedIn 83 = .ok (.iinc 4 1, 3) := by decide +kernel
theorem dX9_likedIn_86 : decode cX9_likedIn 86 = .ok (.goto (-38), 3) := by decide +kernel
theorem dX9_likedIn_89 : decode cX9_likedIn 89 = .ok (.aload_n 0, 1) := by decide +kernel
theorem dX9_likedIn_90 : decode cX9_likedIn 90 = .ok (.getfield 425, 3) := by decide +kernel
theorem dX9_likedIn_93 : decode cX9_likedIn 93 = .ok (.getfield 348, 3) := by decide +kernel
theorem dX9_likedIn_96 : decode cX9_likedIn 96 = .ok (.iconst 4, 1) := by decide +kernel
theorem dX9_likedIn_97 : decode cX9_likedIn 97 = .ok (.iload_n 1, 1) := by decide +kernel
theorem dX9_likedIn_98 : decode cX9_likedIn 98 = .ok (.imul, 1) := by decide +kernel
theorem dX9_likedIn_99 : decode cX9_likedIn 99 = .ok (.iload 4, 2) := by decide +kernel
theorem dX9_likedIn_101 : decode cX9_likedIn 101 = .ok (.iadd, 1) := by decide +kernel
theorem dX9_likedIn_102 : decode cX9_likedIn 102 = .ok (.iaload, 1) := by decide +kernel
theorem dX9_likedIn_103 : decode cX9_likedIn 103 = .ok (.ireturn, 1) := by decide +kernel
theorem dX9_servesOther_0 : decode cX9_servesOther 0 = .ok (.aload_n 0, 1) := by decide +kernel
theorem dX9_servesOther_1 : decode cX9_servesOther 1 = .ok (.aload_n 0, 1) := by decide +kernel
theorem dX9_servesOther_2 : decode cX9_servesOther 2 = .ok (.getfield 425, 3) := by decide +kernel
theorem dX9_servesOther_5 : decode cX9_servesOther 5 = .ok (.iload_n 2, 1) := by decide +kernel
theorem dX9_servesOther_6 : decode cX9_servesOther 6 = .ok (.invokevirtual 443, 3) := by decide +kernel
theorem dX9_servesOther_9 : decode cX9_servesOther 9 = .ok (.invokevirtual 491, 3) := by decide +kernel
theorem dX9_servesOther_12 : decode cX9_servesOther 12 = .ok (.istore_n 3, 1) := by decide +kernel
theorem dX9_servesOther_13 : decode cX9_servesOther 13 = .ok (.aload_n 0, 1) := by decide +kernel
theorem dX9_servesOther_14 : decode cX9_servesOther 14 = .ok (.iload_n 1, 1) := by decide +kernel
theorem dX9_servesOther_15 : decode cX9_servesOther 15 = .ok (.iload_n 3, 1) := by decide +kernel
theorem dX9_servesOther_16 : decode cX9_servesOther 16 = .ok (.invokevirtual 481, 3) := by decide +kernel
theorem dX9_servesOther_19 : decode cX9_servesOther 19 = .ok (.ifCond .le 11, 3) := by decide +kernel
theorem dX9_servesOther_22 : decode cX9_servesOther 22 = .ok (.aload_n 0, 1) := by decide +kernel
theorem dX9_servesOther_23 : decode cX9_servesOther 23 = .ok (.iload_n 1, 1) := by decide +kernel
theorem dX9_servesOther_24 : decode cX9_servesOther 24 = .ok (.iload_n 2, 1) := by decide +kernel
theorem dX9_servesOther_25 : decode cX9_servesOther 25 = .ok (.iload_n 3, 1) := by decide +kernel
theorem dX9_servesOther_26 : decode cX9_servesOther 26 = .ok (.invokevirtual 484, 3) := by decide +kernel
theorem dX9_servesOther_29 : decode cX9_servesOther 29 = .ok (.return_, 1) := by decide +kernel
theorem dX9_servesOther_30 : decode cX9_servesOther 30 = .ok (.iconst 0, 1) := by decide +kernel
theorem dX9_servesOther_31 : decode cX9_servesOther 31 = .ok (.istore 4, 2) := by decide +kernel
theorem dX9_servesOther_33 : decode cX9_servesOther 33 = .ok (.iconst 1, 1) := by decide +kernel
theorem dX9_servesOther_34 : decode cX9_servesOther 34 = .ok (.istore 5, 2) := by decide +kernel
theorem dX9_servesOther_36 : decode cX9_servesOther 36 = .ok (.iload 5, 2) := by decide +kernel
theorem dX9_servesOther_38 : decode cX9_servesOther 38 = .ok (.aload_n 0, 1) := by decide +kernel
theorem dX9_servesOther_39 : decode cX9_servesOther 39 = .ok (.getfield 425, 3) := by decide +kernel
theorem dX9_servesOther_42 : decode cX9_servesOther 42 = .ok (.getfield 211, 3) := by decide +kernel
theorem dX9_servesOther_45 : decode cX9_servesOther 45 = .ok (.if_icmp .ge 30, 3) := by decide +kernel
theorem dX9_servesOther_48 : decode cX9_servesOther 48 = .ok (.aload_n 0, 1) := by decide +kernel
theorem dX9_servesOther_49 : decode cX9_servesOther 49 = .ok (.iload_n 1, 1) := by decide +kernel
theorem dX9_servesOther_50 : decode cX9_servesOther 50 = .ok (.iload 5, 2) := by decide +kernel
theorem dX9_servesOther_52 : decode cX9_servesOther 52 = .ok (.invokevirtual 481, 3) := by decide +kernel
theorem dX9_servesOther_55 : decode cX9_servesOther 55 = .ok (.aload_n 0, 1) := by decide +kernel
theorem dX9_servesOther_56 : decode cX9_servesOther 56 = .ok (.iload_n 1, 1) := by decide +kernel
theorem dX9_servesOther_57 : decode cX9_servesOther 57 = .ok (.iload 4, 2) := by decide +kernel
theorem dX9_servesOther_59 : decode cX9_servesOther 59 = .ok (.invokevirtual 481, 3) := by decide +kernel
theorem dX9_servesOther_62 : decode cX9_servesOther 62 = .ok (.if_icmp .le 7, 3) := by decide +kernel
theorem dX9_servesOther_65 : decode cX9_servesOther 65 = .ok (.iload 5, 2) := by decide +kernel
theorem dX9_servesOther_67 : decode cX9_servesOther 67 = .ok (.istore 4, 2) := by decide +kernel
theorem dX9_servesOther_69 : decode cX9_servesOther 69 = .ok (.iinc 5 1, 3) := by decide +kernel
theorem dX9_servesOther_72 : decode cX9_servesOther 72 = .ok (.goto (-36), 3) := by decide +kernel
theorem dX9_servesOther_75 : decode cX9_servesOther 75 = .ok (.aload_n 0, 1) := by decide +kernel
theorem dX9_servesOther_76 : decode cX9_servesOther 76 = .ok (.iload_n 1, 1) := by decide +kernel
theorem dX9_servesOther_77 : decode cX9_servesOther 77 = .ok (.iload 4, 2) := by decide +kernel
theorem dX9_servesOther_79 : decode cX9_servesOther 79 = .ok (.invokevirtual 481, 3) := by decide +kernel
theorem dX9_servesOther_82 : decode cX9_servesOther 82 = .ok (.ifCond .ne 19, 3) := by decide +kernel
theorem dX9_servesOther_85 : decode cX9_servesOther 85 = .ok (.aload_n 0, 1) := by decide +kernel
theorem dX9_servesOther_86 : decode cX9_servesOther 86 = .ok (.getfield 21, 3) := by decide +kernel
theorem dX9_servesOther_89 : decode cX9_servesOther 89 = .ok (.bipush 10, 2) := by decide +kernel
theorem dX9_servesOther_91 : decode cX9_servesOther 91 = .ok (.iload_n 2, 1) := by decide +kernel
theorem dX9_servesOther_92 : decode cX9_servesOther 92 = .ok (.imul, 1) := by decide +kernel
theorem dX9_servesOther_93 : decode cX9_servesOther 93 = .ok (.iconst 4, 1) := by decide +kernel
theorem dX9_servesOther_94 : decode cX9_servesOther 94 = .ok (.iadd, 1) := by decide +kernel
theorem dX9_servesOther_95 : decode cX9_servesOther 95 = .ok (.dup2, 1) := by decide +kernel
theorem dX9_servesOther_96 : decode cX9_servesOther 96 = .ok (.iaload, 1) := by decide +kernel
theorem dX9_servesOther_97 : decode cX9_servesOther 97 = .ok (.iconst 1, 1) := by decide +kernel
theorem dX9_servesOther_98 : decode cX9_servesOther 98 = .ok (.iadd, 1) := by decide +kernel
theorem dX9_servesOther_99 : decode cX9_servesOther 99 = .ok (.iastore, 1) := by decide +kernel
theorem dX9_servesOther_100 : decode cX9_servesOther 100 = .ok (.return_, 1) := by decide +kernel
theorem dX9_servesOther_101 : decode cX9_servesOther 101 = .ok (.aload_n 0, 1) := by decide +kernel
theorem dX9_servesOther_102 : decode cX9_servesOther 102 = .ok (.getfield 21, 3) := by decide +kernel
theorem dX9_servesOther_105 : decode cX9_servesOther 105 = .ok (.bipush 10, 2) := by decide +kernel
theorem dX9_servesOther_107 : decode cX9_servesOther 107 = .ok (.iload_n 2, 1) := by decide +kernel
theorem dX9_servesOther_108 : decode cX9_servesOther 108 = .ok (.imul, 1) := by decide +kernel
theorem dX9_servesOther_109 : decode cX9_servesOther 109 = .ok (.iconst 3, 1) := by decide +kernel
theorem dX9_servesOther_110 : decode cX9_servesOther 110 = .ok (.iadd, 1) := by decide +kernel
theorem dX9_servesOther_111 : decode cX9_servesOther 111 = .ok (.dup2, 1) := by decide +kernel
theorem dX9_servesOther_112 : decode cX9_servesOther 112 = .ok (.iaload, 1) := by decide +kernel
theorem dX9_servesOther_113 : decode cX9_servesOther 113 = .ok (.iconst 1, 1) := by decide +kernel
theorem dX9_servesOther_114 : decode cX9_servesOther 114 = .ok (.iadd, 1) := by decide +kernel
theorem dX9_servesOther_115 : decode cX9_servesOther 115 = .ok (.iastore, 1) := by decide +kernel
theorem dX9_servesOther_116 : decode cX9_servesOther 116 = .ok (.aload_n 0, 1) := by decide +kernel
theorem dX9_servesOther_117 : decode cX9_servesOther 117 = .ok (.iload_n 1, 1) := by decide +kernel
theorem dX9_servesOther_118 : decode cX9_servesOther 118 = .ok (.iload_n 2, 1) := by decide +kernel
theorem dX9_servesOther_119 : decode cX9_servesOther 119 = .ok (.iload 4, 2) := by decide +kernel
theorem dX9_servesOther_121 : decode cX9_servesOther 121 = .ok (.invokevirtual 484, 3) := by decide +kernel
theorem dX9_servesOther_124 : decode cX9_servesOther 124 = .ok (.return_, 1) := by decide +kernel
theorem dX9_steps_0 : decode cX9_steps 0 = .ok (.aload_n 0, 1) := by decide +kernel
theorem dX9_steps_1 : decode cX9_steps 1 = .ok (.invokevirtual 494, 3) := by decide +kernel
theorem dX9_steps_4 : decode cX9_steps 4 = .ok (.istore_n 1, 1) := by decide +kernel
theorem dX9_steps_5 : decode cX9_steps 5 = .ok (.aload_n 0, 1) := by decide +kernel
theorem dX9_steps_6 : decode cX9_steps 6 = .ok (.iload_n 1, 1) := by decide +kernel
theorem dX9_steps_7 : decode cX9_steps 7 = .ok (.invokevirtual 497, 3) := by decide +kernel
theorem dX9_steps_10 : decode cX9_steps 10 = .ok (.istore_n 2, 1) := by decide +kernel
theorem dX9_steps_11 : decode cX9_steps 11 = .ok (.aload_n 0, 1) := by decide +kernel
theorem dX9_steps_12 : decode cX9_steps 12 = .ok (.getfield 21, 3) := by decide +kernel
theorem dX9_steps_15 : decode cX9_steps 15 = .ok (.sipush 410, 3) := by decide +kernel
theorem dX9_steps_18 : decode cX9_steps 18 = .ok (.iload_n 1, 1) := by decide +kernel
theorem dX9_steps_19 : decode cX9_steps 19 = .ok (.iadd, 1) := by decide +kernel
theorem dX9_steps_20 : decode cX9_steps 20 = .ok (.aload_n 0, 1) := by decide +kernel
theorem dX9_steps_21 : decode cX9_steps 21 = .ok (.aload_n 0, 1) := by decide +kernel
theorem dX9_steps_22 : decode cX9_steps 22 = .ok (.getfield 21, 3) := by decide +kernel
theorem dX9_steps_25 : decode cX9_steps 25 = .ok (.sipush 410, 3) := by decide +kernel
theorem dX9_steps_28 : decode cX9_steps 28 = .ok (.iload_n 1, 1) := by decide +kernel
theorem dX9_steps_29 : decode cX9_steps 29 = .ok (.iadd, 1) := by decide +kernel
theorem dX9_steps_30 : decode cX9_steps 30 = .ok (.iaload, 1) := by decide +kernel
theorem dX9_steps_31 : decode cX9_steps 31 = .ok (.invokevirtual 500, 3) := by decide +kernel
theorem dX9_steps_34 : decode cX9_steps 34 = .ok (.aload_n 0, 1) := by decide +kernel
theorem dX9_steps_35 : decode cX9_steps 35 = .ok (.getfield 21, 3) := by decide +kernel
theorem dX9_steps_38 : decode cX9_steps 38 = .ok (.sipush 412, 3) := by decide +kernel
theorem dX9_steps_41 : decode cX9_steps 41 = .ok (.iload_n 1, 1) := by decide +kernel
theorem dX9_steps_42 : decode cX9_steps 42 = .ok (.iadd, 1) := by decide +kernel
theorem dX9_steps_43 : decode cX9_steps 43 = .ok (.iaload, 1) := by decide +kernel
theorem dX9_steps_44 : decode cX9_steps 44 = .ok (.ifCond .le 13, 3) := by decide +kernel
theorem dX9_steps_47 : decode cX9_steps 47 = .ok (.aload_n 0, 1) := by decide +kernel
theorem dX9_steps_48 : decode cX9_steps 48 = .ok (.getfield 425, 3) := by decide +kernel
theorem dX9_steps_51 : decode cX9_steps 51 = .ok (.getfield 263, 3) := by decide +kernel
theorem dX9_steps_54 : decode cX9_steps 54 = .ok (.goto 4, 3) := by decide +kernel
theorem dX9_steps_57 : decode cX9_steps 57 = .ok (.iconst 0, 1) := by decide +kernel
theorem dX9_steps_58 : decode cX9_steps 58 = .ok (.iadd, 1) := by decide +kernel
theorem dX9_steps_59 : decode cX9_steps 59 = .ok (.iastore, 1) := by decide +kernel
theorem dX9_steps_60 : decode cX9_steps 60 = .ok (.aload_n 0, 1) := by decide +kernel
theorem dX9_steps_61 : decode cX9_steps 61 = .ok (.getfield 21, 3) := by decide +kernel
theorem dX9_steps_64 : decode cX9_steps 64 = .ok (.sipush 410, 3) := by decide +kernel
theorem dX9_steps_67 : decode cX9_steps 67 = .ok (.iload_n 1, 1) := by decide +kernel
theorem dX9_steps_68 : decode cX9_steps 68 = .ok (.iadd, 1) := by decide +kernel
theorem dX9_steps_69 : decode cX9_steps 69 = .ok (.iaload, 1) := by decide +kernel
theorem dX9_steps_70 : decode cX9_steps 70 = .ok (.istore_n 3, 1) := by decide +kernel
theorem dX9_steps_71 : decode cX9_steps 71 = .ok (.aload_n 0, 1) := by decide +kernel
theorem dX9_steps_72 : decode cX9_steps 72 = .ok (.getfield 21, 3) := by decide +kernel
theorem dX9_steps_75 : decode cX9_steps 75 = .ok (.bipush 10, 2) := by decide +kernel
theorem dX9_steps_77 : decode cX9_steps 77 = .ok (.iload_n 2, 1) := by decide +kernel
theorem dX9_steps_78 : decode cX9_steps 78 = .ok (.imul, 1) := by decide +kernel
theorem dX9_steps_79 : decode cX9_steps 79 = .ok (.iconst 0, 1) := by decide +kernel
theorem dX9_steps_80 : decode cX9_steps 80 = .ok (.iadd, 1) := by decide +kernel
theorem dX9_steps_81 : decode cX9_steps 81 = .ok (.iload_n 1, 1) := by decide +kernel
theorem dX9_steps_82 : decode cX9_steps 82 = .ok (.iastore, 1) := by decide +kernel
theorem dX9_steps_83 : decode cX9_steps 83 = .ok (.aload_n 0, 1) := by decide +kernel
theorem dX9_steps_84 : decode cX9_steps 84 = .ok (.getfield 21, 3) := by decide +kernel
theorem dX9_steps_87 : decode cX9_steps 87 = .ok (.bipush 10, 2) := by decide +kernel
theorem dX9_steps_89 : decode cX9_steps 89 = .ok (.iload_n 2, 1) := by decide +kernel
theorem dX9_steps_90 : decode cX9_steps 90 = .ok (.imul, 1) := by decide +kernel
theorem dX9_steps_91 : decode cX9_steps 91 = .ok (.iconst 1, 1) := by decide +kernel
theorem dX9_steps_92 : decode cX9_steps 92 = .ok (.iadd, 1) := by decide +kernel
theorem dX9_steps_93 : decode cX9_steps 93 = .ok (.iload_n 3, 1) := by decide +kernel
theorem dX9_steps_94 : decode cX9_steps 94 = .ok (.iastore, 1) := by decide +kernel
theorem dX9_steps_95 : decode cX9_steps 95 = .ok (.aload_n 0, 1) := by decide +kernel
theorem dX9_steps_96 : decode cX9_steps 96 = .ok (.getfield 21, 3) := by decide +kernel
theorem dX9_steps_99 : decode cX9_steps 99 = .ok (.sipush 412, 3) := by decide +kernel
theorem dX9_steps_102 : decode cX9_steps 102 = .ok (.iload_n 1, 1) := by decide +kernel
theorem dX9_steps_103 : decode cX9_steps 103 = .ok (.iadd, 1) := by decide +kernel
theorem dX9_steps_104 : decode cX9_steps 104 = .ok (.dup2, 1) := by decide +kernel
theorem dX9_steps_105 : decode cX9_steps 105 = .ok (.iaload, 1) := by decide +kernel
theorem dX9_steps_106 : decode cX9_steps 106 = .ok (.iconst 1, 1) := by decide +kernel
theorem dX9_steps_107 : decode cX9_steps 107 = .ok (.iadd, 1) := by decide +kernel
theorem dX9_steps_108 : decode cX9_steps 108 = .ok (.iastore, 1) := by decide +kernel
theorem dX9_steps_109 : decode cX9_steps 109 = .ok (.aload_n 0, 1) := by decide +kernel
theorem dX9_steps_110 : decode cX9_steps 110 = .ok (.getfield 21, 3) := by decide +kernel
theorem dX9_steps_113 : decode cX9_steps 113 = .ok (.sipush 430, 3) := by decide +kernel
theorem dX9_steps_116 : decode cX9_steps 116 = .ok (.dup2, 1) := by decide +kernel
theorem dX9_steps_117 : decode cX9_steps 117 = .ok (.iaload, 1) := by decide +kernel
theorem dX9_steps_118 : decode cX9_steps 118 = .ok (.iconst 1, 1) := by decide +kernel
theorem dX9_steps_119 : decode cX9_steps 119 = .ok (.iadd, 1) := by decide +kernel
theorem dX9_steps_120 : decode cX9_steps 120 = .ok (.iastore, 1) := by decide +kernel
theorem dX9_steps_121 : decode cX9_steps 121 = .ok (.aload_n 0, 1) := by decide +kernel
theorem dX9_steps_122 : decode cX9_steps 122 = .ok (.iload_n 1, 1) := by decide +kernel
theorem dX9_steps_123 : decode cX9_steps 123 = .ok (.iload_n 2, 1) := by decide +kernel
theorem dX9_steps_124 : decode cX9_steps 124 = .ok (.iconst 1, 1) := by decide +kernel
theorem dX9_steps_125 : decode cX9_steps 125 = .ok (.invokevirtual 503, 3) := by decide +kernel
theorem dX9_steps_128 : decode cX9_steps 128 = .ok (.aload_n 0, 1) := by decide +kernel
theorem dX9_steps_129 : decode cX9_steps 129 = .ok (.iload_n 1, 1) := by decide +kernel
theorem dX9_steps_130 : decode cX9_steps 130 = .ok (.iload_n 2, 1) := by decide +kernel
theorem dX9_steps_131 : decode cX9_steps 131 = .ok (.iconst 0, 1) := by decide +kernel
theorem dX9_steps_132 : decode cX9_steps 132 = .ok (.invokevirtual 503, 3) := by decide +kernel
theorem dX9_steps_135 : decode cX9_steps 135 = .ok (.aload_n 0, 1) := by decide +kernel
theorem dX9_steps_136 : decode cX9_steps 136 = .ok (.getfield 425, 3) := by decide +kernel
theorem dX9_steps_139 : decode cX9_steps 139 = .ok (.iload_n 2, 1) := by decide +kernel
theorem dX9_steps_140 : decode cX9_steps 140 = .ok (.invokevirtual 507, 3) := by decide +kernel
theorem dX9_steps_143 : decode cX9_steps 143 = .ok (.istore 4, 2) := by decide +kernel
theorem dX9_steps_145 : decode cX9_steps 145 = .ok (.iload 4, 2) := by decide +kernel
theorem dX9_steps_147 : decode cX9_steps 147 = .ok (.ifCond .le 15, 3) := by decide +kernel
theorem dX9_steps_150 : decode cX9_steps 150 = .ok (.aload_n 0, 1) := by decide +kernel
theorem dX9_steps_151 : decode cX9_steps 151 = .ok (.iload_n 1, 1) := by decide +kernel
theorem dX9_steps_152 : decode cX9_steps 152 = .ok (.iload_n 2, 1) := by decide +kernel
theorem dX9_steps_153 : decode cX9_steps 153 = .ok (.invokevirtual 510, 3) := by decide +kernel
theorem dX9_steps_156 : decode cX9_steps 156 = .ok (.iinc 4 (-1), 3) := by decide +kernel
theorem dX9_steps_159 : decode cX9_steps 159 = .ok (.goto (-14), 3) := by decide +kernel
theorem dX9_steps_162 : decode cX9_steps 162 = .ok (.aload_n 0, 1) := by decide +kernel
theorem dX9_steps_163 : decode cX9_steps 163 = .ok (.getfield 21, 3) := by decide +kernel
theorem dX9_steps_166 : decode cX9_steps 166 = .ok (.bipush 10, 2) := by decide +kernel
theorem dX9_steps_168 : decode cX9_steps 168 = .ok (.iload_n 2, 1) := by decide +kernel
theorem dX9_steps_169 : decode cX9_steps 169 = .ok (.imul, 1) := by decide +kernel
theorem dX9_steps_170 : decode cX9_steps 170 = .ok (.iconst 2, 1) := by decide +kernel
theorem dX9_steps_171 : decode cX9_steps 171 = .ok (.iadd, 1) := by decide +kernel
theorem dX9_steps_172 : decode cX9_steps 172 = .ok (.aload_n 0, 1) := by decide +kernel
theorem dX9_steps_173 : decode cX9_steps 173 = .ok (.getfield 21, 3) := by decide +kernel
theorem dX9_steps_176 : decode cX9_steps 176 = .ok (.sipush 410, 3) := by decide +kernel
theorem dX9_steps_179 : decode cX9_steps 179 = .ok (.iload_n 1, 1) := by decide +kernel
theorem dX9_steps_180 : decode cX9_steps 180 = .ok (.iadd, 1) := by decide +kernel
theorem dX9_steps_181 : decode cX9_steps 181 = .ok (.iaload, 1) := by decide +kernel
theorem dX9_steps_182 : decode cX9_steps 182 = .ok (.iastore, 1) := by decide +kernel
theorem dX9_steps_183 : decode cX9_steps 183 = .ok (.iconst 0, 1) := by decide +kernel
theorem dX9_steps_184 : decode cX9_steps 184 = .ok (.istore 4, 2) := by decide +kernel
theorem dX9_steps_186 : decode cX9_steps 186 = .ok (.iload 4, 2) := by decide +kernel
theorem dX9_steps_188 : decode cX9_steps 188 = .ok (.aload_n 0, 1) := by decide +kernel
theorem dX9_steps_189 : decode cX9_steps 189 = .ok (.getfield 425, 3) := by decide +kernel
theorem dX9_steps_192 : decode cX9_steps 192 = .ok (.getfield 384, 3) := by decide +kernel
theorem dX9_steps_195 : decode cX9_steps 195 = .ok (.if_icmp .ge 64, 3) := by decide +kernel
theorem dX9_steps_198 : decode cX9_steps 198 = .ok (.bipush 60, 2) := by decide +kernel
theorem dX9_steps_200 : decode cX9_steps 200 = .ok (.aload_n 0, 1) := by decide +kernel
theorem dX9_steps_201 : decode cX9_steps 201 = .ok (.getfield 425, 3) := by decide +kernel
theorem dX9_steps_204 : decode cX9_steps 204 = .ok (.getfield 386, 3) := by decide +kernel
theorem dX9_steps_207 : decode cX9_steps 207 = .ok (.iload 4, 2) := by decide +kernel
theorem dX9_steps_209 : decode cX9_steps 209 = .ok (.iaload, 1) := by decide +kernel
theorem dX9_steps_210 : decode cX9_steps 210 = .ok (.imul, 1) := by decide +kernel
theorem dX9_steps_211 : decode cX9_steps 211 = .ok (.iload_n 3, 1) := by decide +kernel
theorem dX9_steps_212 : decode cX9_steps 212 = .ok (.if_icmp .le 41, 3) := by decide +kernel
theorem dX9_steps_215 : decode cX9_steps 215 = .ok (.bipush 60, 2) := by decide +kernel
theorem dX9_steps_217 : decode cX9_steps 217 = .ok (.aload_n 0, 1) := by decide +kernel
theorem dX9_steps_218 : decode cX9_steps 218 = .ok (.getfield 425, 3) := by decide +kernel
theorem dX9_steps_221 : decode cX9_steps 221 = .ok (.getfield 386, 3) := by decide +kernel
theorem dX9_steps_224 : decode cX9_steps 224 = .ok (.iload 4, 2) := by decide +kernel
theorem dX9_steps_226 : decode cX9_steps 226 = .ok (.iaload, 1) := by decide +kernel
theorem dX9_steps_227 : decode cX9_steps 227 = .ok (.imul, 1) := by decide +kernel
theorem dX9_steps_228 : decode cX9_steps 228 = .ok (.aload_n 0, 1) := by decide +kernel
theorem dX9_steps_229 : decode cX9_steps 229 = .ok (.getfield 21, 3) := by decide +kernel
theorem dX9_steps_232 : decode cX9_steps 232 = .ok (.sipush 410, 3) := by decide +kernel
theorem dX9_steps_235 : decode cX9_steps 235 = .ok (.iload_n 1, 1) := by decide +kernel
theorem dX9_steps_236 : decode cX9_steps 236 = .ok (.iadd, 1) := by decide +kernel
theorem dX9_steps_237 : decode cX9_steps 237 = .ok (.iaload, 1) := by decide +kernel
theorem dX9_steps_238 : decode cX9_steps 238 = .ok (.if_icmp .ge 15, 3) := by decide +kernel
theorem dX9_steps_241 : decode cX9_steps 241 = .ok (.aload_n 0, 1) := by decide +kernel
theorem dX9_steps_242 : decode cX9_steps 242 = .ok (.getfield 21, 3) := by decide +kernel
theorem dX9_steps_245 : decode cX9_steps 245 = .ok (.sipush 422, 3) := by decide +kernel
theorem dX9_steps_248 : decode cX9_steps 248 = .ok (.dup2, 1) := by decide +kernel
theorem dX9_steps_249 : decode cX9_steps 249 = .ok (.iaload, 1) := by decide +kernel
theorem dX9_steps_250 : decode cX9_steps 250 = .ok (.iconst 1, 1) := by decide +kernel
theorem dX9_steps_251 : decode cX9_steps 251 = .ok (.iadd, 1) := by decide +kernel
theorem dX9_steps_252 : decode cX9_steps 252 = .ok (.iastore, 1) := by decide +kernel
theorem dX9_steps_253 : decode cX9_steps 253 = .ok (.iinc 4 1, 3) := by decide +kernel
theorem dX9_steps_256 : decode cX9_steps 256 = .ok (.goto (-70), 3) := by decide +kernel
theorem dX9_steps_259 : decode cX9_steps 259 = .ok (.iload_n 2, 1) := by decide +kernel
theorem dX9_steps_260 : decode cX9_steps 260 = .ok (.ireturn, 1) := by decide +kernel
