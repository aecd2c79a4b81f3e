theorem dX7_init_0 : decode cX7_init 0 = .ok (.aload_n 0, 1) := by decide +kernel
theorem dX7_init_1 : decode cX7_init 1 = .ok (.invokespecial 1, 3) := by decide +kernel
theorem dX7_init_4 : decode cX7_init 4 = .ok (.aload_n 0, 1) := by decide +kernel
theorem dX7_init_5 : decode cX7_init 5 = .ok (.new 7, 3) := by decide +kernel
theorem dX7_init_8 : decode cX7_init 8 = .ok (.dup, 1) := by decide +kernel
theorem dX7_init_9 : decode cX7_init 9 = .ok (.invokespecial 9, 3) := by decide +kernel
theorem dX7_init_12 : decode cX7_init 12 = .ok (.putfield 10, 3) := by decide +kernel
theorem dX7_init_15 : decode cX7_init 15 = .ok (.aload_n 0, 1) := by decide +kernel
theorem dX7_init_16 : decode cX7_init 16 = .ok (.new 16, 3) := by decide +kernel
theorem dX7_init_19 : decode cX7_init 19 = .ok (.dup, 1) := by decide +kernel
theorem dX7_init_20 : decode cX7_init 20 = .ok (.invokespecial 18, 3) := by decide +kernel
theorem dX7_init_23 : decode cX7_init 23 = .ok (.putfield 19, 3) := by decide +kernel
theorem dX7_init_26 : decode cX7_init 26 = .ok (.aload_n 0, 1) := by decide +kernel
theorem dX7_init_27 : decode cX7_init 27 = .ok (.new 16, 3) := by decide +kernel
theorem dX7_init_30 : decode cX7_init 30 = .ok (.dup, 1) := by decide +kernel
theorem dX7_init_31 : decode cX7_init 31 = .ok (.invokespecial 18, 3) := by decide +kernel
theorem dX7_init_34 : decode cX7_init 34 = .ok (.putfield 23, 3) := by decide +kernel
theorem dX7_init_37 : decode cX7_init 37 = .ok (.aload_n 0, 1) := by decide +kernel
theorem dX7_init_38 : decode cX7_init 38 = .ok (.new 26, 3) := by decide +kernel
theorem dX7_init_41 : decode cX7_init 41 = .ok (.dup, 1) := by decide +kernel
theorem dX7_init_42 : decode cX7_init 42 = .ok (.invokespecial 28, 3) := by decide +kernel
theorem dX7_init_45 : decode cX7_init 45 = .ok (.putfield 29, 3) := by decide +kernel
theorem dX7_init_48 : decode cX7_init 48 = .ok (.aload_n 0, 1) := by decide +kernel
theorem dX7_init_49 : decode cX7_init 49 = .ok (.iconst 4, 1) := by decide +kernel
theorem dX7_init_50 : decode cX7_init 50 = .ok (.anewarray 26, 3) := by decide +kernel
theorem dX7_init_53 : decode cX7_init 53 = .ok (.putfield 33, 3) := by decide +kernel
theorem dX7_init_56 : decode cX7_init 56 = .ok (.aload_n 0, 1) := by decide +kernel
theorem dX7_init_57 : decode cX7_init 57 = .ok (.new 37, 3) := by decide +kernel
theorem dX7_init_60 : decode cX7_init 60 = .ok (.dup, 1) := by decide +kernel
theorem dX7_init_61 : decode cX7_init 61 = .ok (.invokespecial 39, 3) := by decide +kernel
theorem dX7_init_64 : decode cX7_init 64 = .ok (.putfield 40, 3) := by decide +kernel
theorem dX7_init_67 : decode cX7_init 67 = .ok (.aload_n 0, 1) := by decide +kernel
theorem dX7_init_68 : decode cX7_init 68 = .ok (.new 44, 3) := by decide +kernel
theorem dX7_init_71 : decode cX7_init 71 = .ok (.dup, 1) := by decide +kernel
theorem dX7_init_72 : decode cX7_init 72 = .ok (.invokespecial 46, 3) := by decide +kernel
theorem dX7_init_75 : decode cX7_init 75 = .ok (.putfield 47, 3) := by decide +kernel
theorem dX7_init_78 : decode cX7_init 78 = .ok (.aload_n 0, 1) := by decide +kernel
theorem dX7_init_79 : decode cX7_init 79 = .ok (.new 51, 3) := by decide +kernel
theorem dX7_init_82 : decode cX7_init 82 = .ok (.dup, 1) := by decide +kernel
theorem dX7_init_83 : decode cX7_init 83 = .ok (.invokespecial 53, 3) := by decide +kernel
theorem dX7_init_86 : decode cX7_init 86 = .ok (.putfield 54, 3) := by decide +kernel
theorem dX7_init_89 : decode cX7_init 89 = .ok (.iconst 0, 1) := by decide +kernel
theorem dX7_init_90 : decode cX7_init 90 = .ok (.istore_n 1, 1) := by decide +kernel
theorem dX7_init_91 : decode cX7_init 91 = .ok (.iload_n 1, 1) := by decide +kernel
theorem dX7_init_92 : decode cX7_init 92 = .ok (.iconst 4, 1) := by decide +kernel
theorem dX7_init_93 : decode cX7_init 93 = .ok (.if_icmp .ge 22, 3) := by decide +kernel
theorem dX7_init_96 : decode cX7_init 96 = .ok (.aload_n 0, 1) := by decide +kernel
theorem dX7_init_97 : decode cX7_init 97 = .ok (.getfield 33, 3) := by decide +kernel
theorem dX7_init_100 : decode cX7_init 100 = .ok (.iload_n 1, 1) := by decide +kernel
theorem dX7_init_101 : decode cX7_init 101 = .ok (.new 26, 3) := by decide +kernel
theorem dX7_init_104 : decode cX7_init 104 = .ok (.dup, 1) := by decide +kernel
theorem dX7_init_105 : decode cX7_init 105 = .ok (.invokespecial 28, 3) := by decide +kernel
theorem dX7_init_108 : decode cX7_init 108 = .ok (.aastore, 1) := by decide +kernel
theorem dX7_init_109 : decode cX7_init 109 = .ok (.iinc 1 1, 3) := by decide +kernel
theorem dX7_init_112 : decode cX7_init 112 = .ok (.goto (-21), 3) := by decide +kernel
theorem dX7_init_115 : decode cX7_init 115 = .ok (.return_, 1) := by decide +kernel
theorem dX7_feed_0 : decode cX7_feed 0 = .ok (.aload_n 0, 1) := by decide +kernel
theorem dX7_feed_1 : decode cX7_feed 1 = .ok (.getfield 58, 3) := by decide +kernel
theorem dX7_feed_4 : decode cX7_feed 4 = .ok (.bipush 20, 2) := by decide +kernel
theorem dX7_feed_6 : decode cX7_feed 6 = .ok (.iadd, 1) := by decide +kernel
theorem dX7_feed_7 : decode cX7_feed 7 = .ok (.sipush 900, 3) := by decide +kernel
theorem dX7_feed_10 : decode cX7_feed 10 = .ok (.if_icmp .le 5, 3) := by decide +kernel
theorem dX7_feed_13 : decode cX7_feed 13 = .ok (.iconst (-1), 1) := by decide +kernel
theorem dX7_feed_14 : decode cX7_feed 14 = .ok (.ireturn, 1) := by decide +kernel
theorem dX7_feed_15 : decode cX7_feed 15 = .ok (.aload_n 0, 1) := by decide +kernel
theorem dX7_feed_16 : decode cX7_feed 16 = .ok (.getfield 10, 3) := by decide +kernel
theorem dX7_feed_19 : decode cX7_feed 19 = .ok (.aload_n 0, 1) := by decide +kernel
theorem dX7_feed_20 : decode cX7_feed 20 = .ok (.getfield 58, 3) := by decide +kernel
theorem dX7_feed_23 : decode cX7_feed 23 = .ok (.iload_n 1, 1) := by decide +kernel
theorem dX7_feed_24 : decode cX7_feed 24 = .ok (.invokevirtual 62, 3) := by decide +kernel
theorem dX7_feed_27 : decode cX7_feed 27 = .ok (.aload_n 0, 1) := by decide +kernel
theorem dX7_feed_28 : decode cX7_feed 28 = .ok (.getfield 10, 3) := by decide +kernel
theorem dX7_feed_31 : decode cX7_feed 31 = .ok (.aload_n 0, 1) := by decide +kernel
theorem dX7_feed_32 : decode cX7_feed 32 = .ok (.getfield 58, 3) := by decide +kernel
theorem dX7_feed_35 : decode cX7_feed 35 = .ok (.iconst 4, 1) := by decide +kernel
theorem dX7_feed_36 : decode cX7_feed 36 = .ok (.iadd, 1) := by decide +kernel
theorem dX7_feed_37 : decode cX7_feed 37 = .ok (.iload_n 2, 1) := by decide +kernel
theorem dX7_feed_38 : decode cX7_feed 38 = .ok (.invokevirtual 62, 3) := by decide +kernel
theorem dX7_feed_41 : decode cX7_feed 41 = .ok (.aload_n 0, 1) := by decide +kernel
theorem dX7_feed_42 : decode cX7_feed 42 = .ok (.getfield 10, 3) := by decide +kernel
theorem dX7_feed_45 : decode cX7_feed 45 = .ok (.aload_n 0, 1) := by decide +kernel
theorem dX7_feed_46 : decode cX7_feed 46 = .ok (.getfield 58, 3) := by decide +kernel
theorem dX7_feed_49 : decode cX7_feed 49 = .ok (.bipush 8, 2) := by decide +kernel
theorem dX7_feed_51 : decode cX7_feed 51 = .ok (.iadd, 1) := by decide +kernel
theorem dX7_feed_52 : decode cX7_feed 52 = .ok (.iload_n 3, 1) := by decide +kernel
theorem dX7_feed_53 : decode cX7_feed 53 = .ok (.invokevirtual 62, 3) := by decide +kernel
theorem dX7_feed_56 : decode cX7_feed 56 = .ok (.aload_n 0, 1) := by decide +kernel
theorem dX7_feed_57 : decode cX7_feed 57 = .ok (.getfield 10, 3) := by decide +kernel
theorem dX7_feed_60 : decode cX7_feed 60 = .ok (.aload_n 0, 1) := by decide +kernel
theorem dX7_feed_61 : decode cX7_feed 61 = .ok (.getfield 58, 3) := by decide +kernel
theorem dX7_feed_64 : decode cX7_feed 64 = .ok (.bipush 12, 2) := by decide +kernel
theorem dX7_feed_66 : decode cX7_feed 66 = .ok (.iadd, 1) := by decide +kernel
theorem dX7_feed_67 : decode cX7_feed 67 = .ok (.iload 4, 2) := by decide +kernel
theorem dX7_feed_69 : decode cX7_feed 69 = .ok (.invokevirtual 62, 3) := by decide +kernel
theorem dX7_feed_72 : decode cX7_feed 72 = .ok (.aload_n 0, 1) := by decide +kernel
theorem dX7_feed_73 : decode cX7_feed 73 = .ok (.getfield 10, 3) := by decide +kernel
theorem dX7_feed_76 : decode cX7_feed 76 = .ok (.aload_n 0, 1) := by decide +kernel
theorem dX7_feed_77 : decode cX7_feed 77 = .ok (.getfield 58, 3) := by decide +kernel
theorem dX7_feed_80 : decode cX7_feed 80 = .ok (.bipush 16, 2) := by decide +kernel
theorem dX7_feed_82 : decode cX7_feed 82 = .ok (.iadd, 1) := by decide +kernel
theorem dX7_feed_83 : decode cX7_feed 83 = .ok (.iload 5, 2) := by decide +kernel
theorem dX7_feed_85 : decode cX7_feed 85 = .ok (.invokevirtual 62, 3) := by decide +kernel
theorem dX7_feed_88 : decode cX7_feed 88 = .ok (.aload_n 0, 1) := by decide +kernel
theorem dX7_feed_89 : decode cX7_feed 89 = .ok (.dup, 1) := by decide +kernel
theorem dX7_feed_90 : decode cX7_feed 90 = .ok (.getfield 58, 3) := by decide +kernel
theorem dX7_feed_93 : decode cX7_feed 93 = .ok (.bipush 20, 2) := by decide +kernel
theorem dX7_feed_95 : decode cX7_feed 95 = .ok (.iadd, 1) := by decide +kernel
theorem dX7_feed_96 : decode cX7_feed 96 = .ok (.putfield 58, 3) := by decide +kernel
theorem dX7_feed_99 : decode cX7_feed 99 = .ok (.aload_n 0, 1) := by decide +kernel
theorem dX7_feed_100 : decode cX7_feed 100 = .ok (.getfield 58, 3) := by decide +kernel
theorem dX7_feed_103 : decode cX7_feed 103 = .ok (.ireturn, 1) := by decide +kernel
theorem dX7_flight_0 : decode cX7_flight 0 = .ok (.iload_n 1, 1) := by decide +kernel
theorem dX7_flight_1 : decode cX7_flight 1 = .ok (.ifCond .lt 11, 3) := by decide +kernel
theorem dX7_flight_4 : decode cX7_flight 4 = .ok (.iload_n 1, 1) := by decide +kernel
theorem dX7_flight_5 : decode cX7_flight 5 = .ok (.aload_n 0, 1) := by decide +kernel
theorem dX7_flight_6 : decode cX7_flight 6 = .ok (.getfield 58, 3) := by decide +kernel
theorem dX7_flight_9 : decode cX7_flight 9 = .ok (.if_icmp .le 9, 3) := by decide +kernel
theorem dX7_flight_12 : decode cX7_flight 12 = .ok (.aload_n 0, 1) := by decide +kernel
theorem dX7_flight_13 : decode cX7_flight 13 = .ok (.iconst 2, 1) := by decide +kernel
theorem dX7_flight_14 : decode cX7_flight 14 = .ok (.invokevirtual 66, 3) := by decide +kernel
theorem dX7_flight_17 : decode cX7_flight 17 = .ok (.ireturn, 1) := by decide +kernel
theorem dX7_flight_18 : decode cX7_flight 18 = .ok (.aload_n 0, 1) := by decide +kernel
theorem dX7_flight_19 : decode cX7_flight 19 = .ok (.iconst 0, 1) := by decide +kernel
theorem dX7_flight_20 : decode cX7_flight 20 = .ok (.putfield 58, 3) := by decide +kernel
theorem dX7_flight_23 : decode cX7_flight 23 = .ok (.aload_n 0, 1) := by decide +kernel
theorem dX7_flight_24 : decode cX7_flight 24 = .ok (.aload_n 0, 1) := by decide +kernel
theorem dX7_flight_25 : decode cX7_flight 25 = .ok (.getfield 10, 3) := by decide +kernel
theorem dX7_flight_28 : decode cX7_flight 28 = .ok (.aload_n 0, 1) := by decide +kernel
theorem dX7_flight_29 : decode cX7_flight 29 = .ok (.getfield 23, 3) := by decide +kernel
theorem dX7_flight_32 : decode cX7_flight 32 = .ok (.iload_n 1, 1) := by decide +kernel
theorem dX7_flight_33 : decode cX7_flight 33 = .ok (.invokevirtual 70, 3) := by decide +kernel
theorem dX7_flight_36 : decode cX7_flight 36 = .ok (.putfield 74, 3) := by decide +kernel
theorem dX7_flight_39 : decode cX7_flight 39 = .ok (.aload_n 0, 1) := by decide +kernel
theorem dX7_flight_40 : decode cX7_flight 40 = .ok (.aload_n 0, 1) := by decide +kernel
theorem dX7_flight_41 : decode cX7_flight 41 = .ok (.getfield 10, 3) := by decide +kernel
theorem dX7_flight_44 : decode cX7_flight 44 = .ok (.invokevirtual 77, 3) := by decide +kernel
theorem dX7_flight_47 : decode cX7_flight 47 = .ok (.putfield 81, 3) := by decide +kernel
theorem dX7_flight_50 : decode cX7_flight 50 = .ok (.aload_n 0, 1) := by decide +kernel
theorem dX7_flight_51 : decode cX7_flight 51 = .ok (.getfield 74, 3) := by decide +kernel
theorem dX7_flight_54 : decode cX7_flight 54 = .ok (.ifCond .eq 9, 3) := by decide +kernel
theorem dX7_flight_57 : decode cX7_flight 57 = .ok (.aload_n 0, 1) := by decide +kernel
theorem dX7_flight_58 : decode cX7_flight 58 = .ok (.iconst 4, 1) := by decide +kernel
theorem dX7_flight_59 : decode cX7_flight 59 = .ok (.invokevirtual 66, 3) := by decide +kernel
theorem dX7_flight_62 : decode cX7_flight 62 = .ok (.ireturn, 1) := by decide +kernel
theorem dX7_flight_63 : decode cX7_flight 63 = .ok (.aload_n 0, 1) := by decide +kernel
theorem dX7_flight_64 : decode cX7_flight 64 = .ok (.getfield 19, 3) := by decide +kernel
theorem dX7_flight_67 : decode cX7_flight 67 = .ok (.astore_n 2, 1) := by decide +kernel
theorem dX7_flight_68 : decode cX7_flight 68 = .ok (.aload_n 0, 1) := by decide +kernel
theorem dX7_flight_69 : decode cX7_flight 69 = .ok (.aload_n 0, 1) := by decide +kernel
theorem dX7_flight_70 : decode cX7_flight 70 = .ok (.getfield 23, 3) := by decide +kernel
theorem dX7_flight_73 : decode cX7_flight 73 = .ok (.putfield 19, 3) := by decide +kernel
theorem dX7_flight_76 : decode cX7_flight 76 = .ok (.aload_n 0, 1) := by decide +kernel
theorem dX7_flight_77 : decode cX7_flight 77 = .ok (.aload_n 2, 1) := by decide +kernel
theorem dX7_flight_78 : decode cX7_flight 78 = .ok (.putfield 23, 3) := by decide +kernel
theorem dX7_flight_81 : decode cX7_flight 81 = .ok (.aload_n 0, 1) := by decide +kernel
theorem dX7_flight_82 : decode cX7_flight 82 = .ok (.getfield 29, 3) := by decide +kernel
theorem dX7_flight_85 : decode cX7_flight 85 = .ok (.aload_n 0, 1) := by decide +kernel
theorem dX7_flight_86 : decode cX7_flight 86 = .ok (.getfield 19, 3) := by decide +kernel
theorem dX7_flight_89 : decode cX7_flight 89 = .ok (.iconst 0, 1) := by decide +kernel
theorem dX7_flight_90 : decode cX7_flight 90 = .ok (.invokevirtual 83, 3) := by decide +kernel
theorem dX7_flight_93 : decode cX7_flight 93 = .ok (.aload_n 0, 1) := by decide +kernel
theorem dX7_flight_94 : decode cX7_flight 94 = .ok (.iconst 0, 1) := by decide +kernel
theorem dX7_flight_95 : decode cX7_flight 95 = .ok (.putfield 87, 3) := by decide +kernel
theorem dX7_flight_98 : decode cX7_flight 98 = .ok (.aload_n 0, 1) := by decide +kernel
theorem dX7_flight_99 : decode cX7_flight 99 = .ok (.aload_n 0, 1) := by decide +kernel
theorem dX7_flight_100 : decode cX7_flight 100 = .ok (.getfield 19, 3) := by decide +kernel
theorem dX7_flight_103 : decode cX7_flight 103 = .ok (.iconst 5, 1) := by decide +kernel
theorem dX7_flight_104 : decode cX7_flight 104 = .ok (.invokevirtual 90, 3) := by decide +kernel
theorem dX7_flight_107 : decode cX7_flight 107 = .ok (.invokevirtual 93, 3) := by decide +kernel
theorem dX7_flight_110 : decode cX7_flight 110 = .ok (.ireturn, 1) := by decide +kernel
theorem dX7_fault_0 : decode cX7_fault 0 = .ok (.aload_n 0, 1) := by decide +kernel
theorem dX7_fault_1 : decode cX7_fault 1 = .ok (.getfield 74, 3) := by decide +kernel
theorem dX7_fault_4 : decode cX7_fault 4 = .ok (.ireturn, 1) := by decide +kernel
theorem dX7_where_0 : decode cX7_where 0 = .ok (.aload_n 0, 1) := by decide +kernel
theorem dX7_where_1 : decode cX7_where 1 = .ok (.getfield 96, 3) := by decide +kernel
theorem dX7_where_4 : decode cX7_where 4 = .ok (.iconst 4, 1) := by decide +kernel
theorem dX7_where_5 : decode cX7_where 5 = .ok (.if_icmp .ne 10, 3) := by decide +kernel
theorem dX7_where_8 : decode cX7_where 8 = .ok (.aload_n 0, 1) := by decide +kernel
theorem dX7_where_9 : decode cX7_where 9 = .ok (.getfield 81, 3) := by decide +kernel
theorem dX7_where_12 : decode cX7_where 12 = .ok (.goto 4, 3) := by decide +kernel
theorem dX7_where_15 : decode cX7_where 15 = .ok (.iconst (-1), 1) := by decide +kernel
theorem dX7_where_16 : decode cX7_where 16 = .ok (.ireturn, 1) := by decide +kernel
theorem dX7_sits_0 : decode cX7_sits 0 = .ok (.aload_n 0, 1) := by decide +kernel
theorem dX7_sits_1 : decode cX7_sits 1 = .ok (.iload_n 1, 1) := by decide +kernel
theorem dX7_sits_2 : decode cX7_sits 2 = .ok (.invokevirtual 99, 3) := by decide +kernel
theorem dX7_sits_5 : decode cX7_sits 5 = .ok (.ifCond .eq 18, 3) := by decide +kernel
theorem dX7_sits_8 : decode cX7_sits 8 = .ok (.aload_n 0, 1) := by decide +kernel
theorem dX7_sits_9 : decode cX7_sits 9 = .ok (.aload_n 0, 1) := by decide +kernel
theorem dX7_sits_10 : decode cX7_sits 10 = .ok (.getfield 19, 3) := by decide +kernel
theorem dX7_sits_13 : decode cX7_sits 13 = .ok (.iload_n 1, 1) := by decide +kernel
theorem dX7_sits_14 : decode cX7_sits 14 = .ok (.invokevirtual 103, 3) := by decide +kernel
theorem dX7_sits_17 : decode cX7_sits 17 = .ok (.invokevirtual 93, 3) := by decide +kernel
theorem dX7_sits_20 : decode cX7_sits 20 = .ok (.goto 8, 3) := by decide +kernel
theorem dX7_sits_23 : decode cX7_sits 23 = .ok (.aload_n 0, 1) := by decide +kernel
theorem dX7_sits_24 : decode cX7_sits 24 = .ok (.iconst 1, 1) := by decide +kernel
theorem dX7_sits_25 : decode cX7_sits 25 = .ok (.invokevirtual 66, 3) := by decide +kernel
theorem dX7_sits_28 : decode cX7_sits 28 = .ok (.ireturn, 1) := by decide +kernel
theorem dX7_all_0 : decode cX7_all 0 = .ok (.aload_n 0, 1) := by decide +kernel
theorem dX7_all_1 : decode cX7_all 1 = .ok (.invokevirtual 106, 3) := by decide +kernel
theorem dX7_all_4 : decode cX7_all 4 = .ok (.ifCond .eq 25, 3) := by decide +kernel
theorem dX7_all_7 : decode cX7_all 7 = .ok (.aload_n 0, 1) := by decide +kernel
theorem dX7_all_8 : decode cX7_all 8 = .ok (.aload_n 0, 1) := by decide +kernel
theorem dX7_all_9 : decode cX7_all 9 = .ok (.getfield 19, 3) := by decide +kernel
theorem dX7_all_12 : decode cX7_all 12 = .ok (.iconst 1, 1) := by decide +kernel
theorem dX7_all_13 : decode cX7_all 13 = .ok (.aload_n 0, 1) := by decide +kernel
theorem dX7_all_14 : decode cX7_all 14 = .ok (.getfield 19, 3) := by decide +kernel
theorem dX7_all_17 : decode cX7_all 17 = .ok (.invokevirtual 110, 3) := by decide +kernel
theorem dX7_all_20 : decode cX7_all 20 = .ok (.invokevirtual 113, 3) := by decide +kernel
theorem dX7_all_23 : decode cX7_all 23 = .ok (.invokevirtual 93, 3) := by decide +kernel
theorem dX7_all_26 : decode cX7_all 26 = .ok (.goto 8, 3) := by decide +kernel
theorem dX7_all_29 : decode cX7_all 29 = .ok (.aload_n 0, 1) := by decide +kernel
theorem dX7_all_30 : decode cX7_all 30 = .ok (.iconst 1, 1) := by decide +kernel
theorem dX7_all_31 : decode cX7_all 31 = .ok (.invokevirtual 66, 3) := by decide +kernel
theorem dX7_all_34 : decode cX7_all 34 = .ok (.ireturn, 1) := by decide +kernel
theorem dX7_likes_0 : decode cX7_likes 0 = .ok (.aload_n 0, 1) := by decide +kernel
theorem dX7_likes_1 : decode cX7_likes 1 = .ok (.iload_n 1, 1) := by decide +kernel
theorem dX7_likes_2 : decode cX7_likes 2 = .ok (.invokevirtual 99, 3) := by decide +kernel
theorem dX7_likes_5 : decode cX7_likes 5 = .ok (.ifCond .eq 27, 3) := by decide +kernel
theorem dX7_likes_8 : decode cX7_likes 8 = .ok (.aload_n 0, 1) := by decide +kernel
theorem dX7_likes_9 : decode cX7_likes 9 = .ok (.iload_n 2, 1) := by decide +kernel
theorem dX7_likes_10 : decode cX7_likes 10 = .ok (.invokevirtual 117, 3) := by decide +kernel
theorem dX7_likes_13 : decode cX7_likes 13 = .ok (.ifCond .eq 19, 3) := by decide +kernel
theorem dX7_likes_16 : decode cX7_likes 16 = .ok (.aload_n 0, 1) := by decide +kernel
theorem dX7_likes_17 : decode cX7_likes 17 = .ok (.aload_n 0, 1) := by decide +kernel
theorem dX7_likes_18 : decode cX7_likes 18 = .ok (.getfield 19, 3) := by decide +kernel
theorem dX7_likes_21 : decode cX7_likes 21 = .ok (.iload_n 1, 1) := by decide +kernel
theorem dX7_likes_22 : decode cX7_likes 22 = .ok (.iload_n 2, 1) := by decide +kernel
theorem dX7_likes_23 : decode cX7_likes 23 = .ok (.invokevirtual 120, 3) := by decide +kernel
theorem dX7_likes_26 : decode cX7_likes 26 = .ok (.invokevirtual 93, 3) := by decide +kernel
theorem dX7_likes_29 : decode cX7_likes 29 = .ok (.goto 8, 3) := by decide +kernel
theorem dX7_likes_32 : decode cX7_likes 32 = .ok (.aload_n 0, 1) := by decide +kernel
theorem dX7_likes_33 : decode cX7_likes 33 = .ok (.iconst 1, 1) := by decide +kernel
theorem dX7_likes_34 : decode cX7_likes 34 = .ok (.invokevirtual 66, 3) := by decide +kernel
theorem dX7_likes_37 : decode cX7_likes 37 = .ok (.ireturn, 1) := by decide +kernel
theorem dX7_loaded_0 : decode cX7_loaded 0 = .ok (.aload_n 0, 1) := by decide +kernel
theorem dX7_loaded_1 : decode cX7_loaded 1 = .ok (.iload_n 1, 1) := by decide +kernel
theorem dX7_loaded_2 : decode cX7_loaded 2 = .ok (.invokevirtual 123, 3) := by decide +kernel
theorem dX7_loaded_5 : decode cX7_loaded 5 = .ok (.ifCond .eq 27, 3) := by decide +kernel
theorem dX7_loaded_8 : decode cX7_loaded 8 = .ok (.aload_n 0, 1) := by decide +kernel
theorem dX7_loaded_9 : decode cX7_loaded 9 = .ok (.iload_n 2, 1) := by decide +kernel
theorem dX7_loaded_10 : decode cX7_loaded 10 = .ok (.invokevirtual 117, 3) := by decide +kernel
theorem dX7_loaded_13 : decode cX7_loaded 13 = .ok (.ifCond .eq 19, 3) := by decide +kernel
theorem dX7_loaded_16 : decode cX7_loaded 16 = .ok (.aload_n 0, 1) := by decide +kernel
theorem dX7_loaded_17 : decode cX7_loaded 17 = .ok (.aload_n 0, 1) := by decide +kernel
theorem dX7_loaded_18 : decode cX7_loaded 18 = .ok (.getfield 19, 3) := by decide +kernel
theorem dX7_loaded_21 : decode cX7_loaded 21 = .ok (.iload_n 1, 1) := by decide +kernel
theorem dX7_loaded_22 : decode cX7_loaded 22 = .ok (.iload_n 2, 1) := by decide +kernel
theorem dX7_loaded_23 : decode cX7_loaded 23 = .ok (.invokevirtual 126, 3) := by decide +kernel
theorem dX7_loaded_26 : decode cX7_loaded 26 = .ok (.invokevirtual 93, 3) := by decide +kernel
theorem dX7_loaded_29 : decode cX7_loaded 29 = .ok (.goto 8, 3) := by decide +kernel
theorem dX7_loaded_32 : decode cX7_loaded 32 = .ok (.aload_n 0, 1) := by decide +kernel
theorem dX7_loaded_33 : decode cX7_loaded 33 = .ok (.iconst 1, 1) := by decide +kernel
theorem dX7_loaded_34 : decode cX7_loaded 34 = .ok (.invokevirtual 66, 3) := by decide +kernel
theorem dX7_loaded_37 : decode cX7_loaded 37 = .ok (.ireturn, 1) := by decide +kernel
theorem dX7_fitsIn_0 : decode cX7_fitsIn 0 = .ok (.aload_n 0, 1) := by decide +kernel
theorem dX7_fitsIn_1 : decode cX7_fitsIn 1 = .ok (.iload_n 1, 1) := by decide +kernel
theorem dX7_fitsIn_2 : decode cX7_fitsIn 2 = .ok (.invokevirtual 123, 3) := by decide +kernel
theorem dX7_fitsIn_5 : decode cX7_fitsIn 5 = .ok (.ifCond .ne 9, 3) := by decide +kernel
theorem dX7_fitsIn_8 : decode cX7_fitsIn 8 = .ok (.aload_n 0, 1) := by decide +kernel
theorem dX7_fitsIn_9 : decode cX7_fitsIn 9 = .ok (.iconst 1, 1) := by decide +kernel
theorem dX7_fitsIn_10 : decode cX7_fitsIn 10 = .ok (.invokevirtual 66, 3) := by decide +kernel
theorem dX7_fitsIn_13 : decode cX7_fitsIn 13 = .ok (.ireturn, 1) := by decide +kernel
theorem dX7_fitsIn_14 : decode cX7_fitsIn 14 = .ok (.aload_n 0, 1) := by decide +kernel
theorem dX7_fitsIn_15 : decode cX7_fitsIn 15 = .ok (.aload_n 0, 1) := by decide +kernel
theorem dX7_fitsIn_16 : decode cX7_fitsIn 16 = .ok (.getfield 40, 3) := by decide +kernel
theorem dX7_fitsIn_19 : decode cX7_fitsIn 19 = .ok (.aload_n 0, 1) := by decide +kernel
theorem dX7_fitsIn_20 : decode cX7_fitsIn 20 = .ok (.getfield 19, 3) := by decide +kernel
theorem dX7_fitsIn_23 : decode cX7_fitsIn 23 = .ok (.iload_n 1, 1) := by decide +kernel
theorem dX7_fitsIn_24 : decode cX7_fitsIn 24 = .ok (.invokevirtual 129, 3) := by decide +kernel
theorem dX7_fitsIn_27 : decode cX7_fitsIn 27 = .ok (.ifCond .eq 7, 3) := by decide +kernel
theorem dX7_fitsIn_30 : decode cX7_fitsIn 30 = .ok (.iconst 1, 1) := by decide +kernel
theorem dX7_fitsIn_31 : decode cX7_fitsIn 31 = .ok (.goto 4, 3) := by decide +kernel
theorem dX7_fitsIn_34 : decode cX7_fitsIn 34 = .ok (.iconst 0, 1) := by decide +kernel
theorem dX7_fitsIn_35 : decode cX7_fitsIn 35 = .ok (.invokevirtual 93, 3) := by decide +kernel
theorem dX7_fitsIn_38 : decode cX7_fitsIn 38 = .ok (.ireturn, 1) := by decide +kernel
theorem dX7_start_0 : decode cX7_start 0 = .ok (.aload_n 0, 1) := by decide +kernel
theorem dX7_start_1 : decode cX7_start 1 = .ok (.invokevirtual 106, 3) := by decide +kernel
theorem dX7_start_4 : decode cX7_start 4 = .ok (.ifCond .ne 9, 3) := by decide +kernel
theorem dX7_start_7 : decode cX7_start 7 = .ok (.aload_n 0, 1) := by decide +kernel
theorem dX7_start_8 : decode cX7_start 8 = .ok (.iconst 1, 1) := by decide +kernel
theorem dX7_start_9 : decode cX7_start 9 = .ok (.invokevirtual 133, 3) := by decide +kernel
theorem dX7_start_12 : decode cX7_start 12 = .ok (.ireturn, 1) := by decide +kernel
theorem dX7_start_13 : decode cX7_start 13 = .ok (.iload_n 1, 1) := by decide +kernel
theorem dX7_start_14 : decode cX7_start 14 = .ok (.ifCond .lt 9, 3) := by decide +kernel
theorem dX7_start_17 : decode cX7_start 17 = .ok (.iload_n 1, 1) := by decide +kernel
theorem dX7_start_18 : decode cX7_start 18 = .ok (.ldc 136, 2) := by decide +kernel
theorem dX7_start_20 : decode cX7_start 20 = .ok (.if_icmp .le 9, 3) := by decide +kernel
theorem dX7_start_23 : decode cX7_start 23 = .ok (.aload_n 0, 1) := by decide +kernel
theorem dX7_start_24 : decode cX7_start 24 = .ok (.iconst 2, 1) := by decide +kernel
theorem dX7_start_25 : decode cX7_start 25 = .ok (.invokevirtual 133, 3) := by decide +kernel
theorem dX7_start_28 : decode cX7_start 28 = .ok (.ireturn, 1) := by decide +kernel
theorem dX7_start_29 : decode cX7_start 29 = .ok (.aload_n 0, 1) := by decide +kernel
theorem dX7_start_30 : decode cX7_start 30 = .ok (.getfield 29, 3) := by decide +kernel
theorem dX7_start_33 : decode cX7_start 33 = .ok (.aload_n 0, 1) := by decide +kernel
theorem dX7_start_34 : decode cX7_start 34 = .ok (.getfield 19, 3) := by decide +kernel
theorem dX7_start_37 : decode cX7_start 37 = .ok (.iload_n 1, 1) := by decide +kernel
theorem dX7_start_38 : decode cX7_start 38 = .ok (.invokevirtual 83, 3) := by decide +kernel
theorem dX7_start_41 : decode cX7_start 41 = .ok (.aload_n 0, 1) := by decide +kernel
theorem dX7_start_42 : decode cX7_start 42 = .ok (.invokevirtual 137, 3) := by decide +kernel
theorem dX7_start_45 : decode cX7_start 45 = .ok (.ireturn, 1) := by decide +kernel
theorem dX7_step_0 : decode cX7_step 0 = .ok (.aload_n 0, 1) := by decide +kernel
theorem dX7_step_1 : decode cX7_step 1 = .ok (.invokevirtual 106, 3) := by decide +kernel
theorem dX7_step_4 : decode cX7_step 4 = .ok (.ifCond .ne 9, 3) := by decide +kernel
theorem dX7_step_7 : decode cX7_step 7 = .ok (.aload_n 0, 1) := by decide +kernel
theorem dX7_step_8 : decode cX7_step 8 = .ok (.iconst 1, 1) := by decide +kernel
theorem dX7_step_9 : decode cX7_step 9 = .ok (.invokevirtual 66, 3) := by decide +kernel
theorem dX7_step_12 : decode cX7_step 12 = .ok (.ireturn, 1) := by decide +kernel
theorem dX7_step_13 : decode cX7_step 13 = .ok (.aload_n 0, 1) := by decide +kernel
theorem dX7_step_14 : decode cX7_step 14 = .ok (.getfield 29, 3) := by decide +kernel
theorem dX7_step_17 : decode cX7_step 17 = .ok (.invokevirtual 140, 3) := by decide +kernel
theorem dX7_step_20 : decode cX7_step 20 = .ok (.ifCond .eq 12, 3) := by decide +kernel
theorem dX7_step_23 : decode cX7_step 23 = .ok (.aload_n 0, 1) := by decide +kernel
theorem dX7_step_24 : decode cX7_step 24 = .ok (.bipush 6, 2) := by decide +kernel
theorem dX7_step_26 : decode cX7_step 26 = .ok (.invokevirtual 66, 3) := by decide +kernel
theorem dX7_step_29 : decode cX7_step 29 = .ok (.goto 18, 3) := by decide +kernel
theorem dX7_step_32 : decode cX7_step 32 = .ok (.aload_n 0, 1) := by decide +kernel
theorem dX7_step_33 : decode cX7_step 33 = .ok (.aload_n 0, 1) := by decide +kernel
theorem dX7_step_34 : decode cX7_step 34 = .ok (.getfield 29, 3) := by decide +kernel
theorem dX7_step_37 : decode cX7_step 37 = .ok (.aload_n 0, 1) := by decide +kernel
theorem dX7_step_38 : decode cX7_step 38 = .ok (.getfield 19, 3) := by decide +kernel
theorem dX7_step_41 : decode cX7_step 41 = .ok (.invokevirtual 143, 3) := by decide +kernel
theorem dX7_step_44 : decode cX7_step 44 = .ok (.invokevirtual 93, 3) := by decide +kernel
theorem dX7_step_47 : decode cX7_step 47 = .ok (.ireturn, 1) := by decide +kernel
theorem dX7_finish_0 : decode cX7_finish 0 = .ok (.aload_n 0, 1) := by decide +kernel
theorem dX7_finish_1 : decode cX7_finish 1 = .ok (.invokevirtual 106, 3) := by decide +kernel
theorem dX7_finish_4 : decode cX7_finish 4 = .ok (.ifCond .ne 9, 3) := by decide +kernel
theorem dX7_finish_7 : decode cX7_finish 7 = .ok (.aload_n 0, 1) := by decide +kernel
theorem dX7_finish_8 : decode cX7_finish 8 = .ok (.iconst 1, 1) := by decide +kernel
theorem dX7_finish_9 : decode cX7_finish 9 = .ok (.invokevirtual 66, 3) := by decide +kernel
theorem dX7_finish_12 : decode cX7_finish 12 = .ok (.ireturn, 1) := by decide +kernel
theorem dX7_finish_13 : decode cX7_finish 13 = .ok (.iconst 0, 1) := by decide +kernel
theorem dX7_finish_14 : decode cX7_finish 14 = .ok (.istore_n 1, 1) := by decide +kernel
theorem dX7_finish_15 : decode cX7_finish 15 = .ok (.iload_n 1, 1) := by decide +kernel
theorem dX7_finish_16 : decode cX7_finish 16 = .ok (.bipush 40, 2) := by decide +kernel
theorem dX7_finish_18 : decode cX7_finish 18 = .ok (.if_icmp .ge 31, 3) := by decide +kernel
theorem dX7_finish_21 : decode cX7_finish 21 = .ok (.aload_n 0, 1) := by decide +kernel
theorem dX7_finish_22 : decode cX7_finish 22 = .ok (.getfield 29, 3) := by decide +kernel
theorem dX7_finish_25 : decode cX7_finish 25 = .ok (.invokevirtual 140, 3) := by decide +kernel
theorem dX7_finish_28 : decode cX7_finish 28 = .ok (.ifCond .ne 21, 3) := by decide +kernel
theorem dX7_finish_31 : decode cX7_finish 31 = .ok (.aload_n 0, 1) := by decide +kernel
theorem dX7_finish_32 : decode cX7_finish 32 = .ok (.getfield 29, 3) := by decide +kernel
theorem dX7_finish_35 : decode cX7_finish 35 = .ok (.aload_n 0, 1) := by decide +kernel
theorem dX7_finish_36 : decode cX7_finish 36 = .ok (.getfield 19, 3) := by decide +kernel
theorem dX7_finish_39 : decode cX7_finish 39 = .ok (.invokevirtual 143, 3) := by decide +kernel
theorem dX7_finish_42 : decode cX7_finish 42 = .ok (.pop, 1) := by decide +kernel
theorem dX7_finish_43 : decode cX7_finish 43 = .ok (.iinc 1 1, 3) := by decide +kernel
theorem dX7_finish_46 : decode cX7_finish 46 = .ok (.goto (-31), 3) := by decide +kernel
theorem dX7_finish_49 : decode cX7_finish 49 = .ok (.aload_n 0, 1) := by decide +kernel
theorem dX7_finish_50 : decode cX7_finish 50 = .ok (.iload_n 1, 1) := by decide +kernel
theorem dX7_finish_51 : decode cX7_finish 51 = .ok (.invokevirtual 93, 3) := by decide +kernel
theorem dX7_finish_54 : decode cX7_finish 54 = .ok (.ireturn, 1) := by decide +kernel
theorem dX7_seconds_0 : decode cX7_seconds 0 = .ok (.aload_n 0, 1) := by decide +kernel
theorem dX7_seconds_1 : decode cX7_seconds 1 = .ok (.iload_n 1, 1) := by decide +kernel
theorem dX7_seconds_2 : decode cX7_seconds 2 = .ok (.invokevirtual 123, 3) := by decide +kernel
theorem dX7_seconds_5 : decode cX7_seconds 5 = .ok (.ifCond .eq 18, 3) := by decide +kernel
theorem dX7_seconds_8 : decode cX7_seconds 8 = .ok (.aload_n 0, 1) := by decide +kernel
theorem dX7_seconds_9 : decode cX7_seconds 9 = .ok (.aload_n 0, 1) := by decide +kernel
theorem dX7_seconds_10 : decode cX7_seconds 10 = .ok (.getfield 29, 3) := by decide +kernel
theorem dX7_seconds_13 : decode cX7_seconds 13 = .ok (.iload_n 1, 1) := by decide +kernel
theorem dX7_seconds_14 : decode cX7_seconds 14 = .ok (.invokevirtual 147, 3) := by decide +kernel
theorem dX7_seconds_17 : decode cX7_seconds 17 = .ok (.invokevirtual 93, 3) := by decide +kernel
theorem dX7_seconds_20 : decode cX7_seconds 20 = .ok (.goto 8, 3) := by decide +kernel
theorem dX7_seconds_23 : decode cX7_seconds 23 = .ok (.aload_n 0, 1) := by decide +kernel
theorem dX7_seconds_24 : decode cX7_seconds 24 = .ok (.iconst 1, 1) := by decide +kernel
theorem dX7_seconds_25 : decode cX7_seconds 25 = .ok (.invokevirtual 66, 3) := by decide +kernel
theorem dX7_seconds_28 : decode cX7_seconds 28 = .ok (.ireturn, 1) := by decide +kernel
theorem dX7_left_0 : decode cX7_left 0 = .ok (.aload_n 0, 1) := by decide +kernel
theorem dX7_left_1 : decode cX7_left 1 = .ok (.iload_n 1, 1) := by decide +kernel
theorem dX7_left_2 : decode cX7_left 2 = .ok (.invokevirtual 123, 3) := by decide +kernel
theorem dX7_left_5 : decode cX7_left 5 = .ok (.ifCond .eq 27, 3) := by decide +kernel
theorem dX7_left_8 : decode cX7_left 8 = .ok (.aload_n 0, 1) := by decide +kernel
theorem dX7_left_9 : decode cX7_left 9 = .ok (.iload_n 2, 1) := by decide +kernel
theorem dX7_left_10 : decode cX7_left 10 = .ok (.invokevirtual 117, 3) := by decide +kernel
theorem dX7_left_13 : decode cX7_left 13 = .ok (.ifCond .eq 19, 3) := by decide +kernel
theorem dX7_left_16 : decode cX7_left 16 = .ok (.aload_n 0, 1) := by decide +kernel
theorem dX7_left_17 : decode cX7_left 17 = .ok (.aload_n 0, 1) := by decide +kernel
theorem dX7_left_18 : decode cX7_left 18 = .ok (.getfield 29, 3) := by decide +kernel
theorem dX7_left_21 : decode cX7_left 21 = .ok (.iload_n 1, 1) := by decide +kernel
theorem dX7_left_22 : decode cX7_left 22 = .ok (.iload_n 2, 1) := by decide +kernel
theorem dX7_left_23 : decode cX7_left 23 = .ok (.invokevirtual 150, 3) := by decide +kernel
theorem dX7_left_26 : decode cX7_left 26 = .ok (.invokevirtual 93, 3) := by decide +kernel
theorem dX7_left_29 : decode cX7_left 29 = .ok (.goto 8, 3) := by decide +kernel
theorem dX7_left_32 : decode cX7_left 32 = .ok (.aload_n 0, 1) := by decide +kernel
theorem dX7_left_33 : decode cX7_left 33 = .ok (.iconst 1, 1) := by decide +kernel
theorem dX7_left_34 : decode cX7_left 34 = .ok (.invokevirtual 66, 3) := by decide +kernel
theorem dX7_left_37 : decode cX7_left 37 = .ok (.ireturn, 1) := by decide +kernel
theorem dX7_served_0 : decode cX7_served 0 = .ok (.aload_n 0, 1) := by decide +kernel
theorem dX7_served_1 : decode cX7_served 1 = .ok (.iload_n 1, 1) := by decide +kernel
theorem dX7_served_2 : decode cX7_served 2 = .ok (.invokevirtual 99, 3) := by decide +kernel
theorem dX7_served_5 : decode cX7_served 5 = .ok (.ifCond .eq 13, 3) := by decide +kernel
theorem dX7_served_8 : decode cX7_served 8 = .ok (.iload_n 2, 1) := by decide +kernel
theorem dX7_served_9 : decode cX7_served 9 = .ok (.ifCond .lt 9, 3) := by decide +kernel
theorem dX7_served_12 : decode cX7_served 12 = .ok (.iload_n 2, 1) := by decide +kernel
theorem dX7_served_13 : decode cX7_served 13 = .ok (.bipush 6, 2) := by decide +kernel
theorem dX7_served_15 : decode cX7_served 15 = .ok (.if_icmp .le 9, 3) := by decide +kernel
theorem dX7_served_18 : decode cX7_served 18 = .ok (.aload_n 0, 1) := by decide +kernel
theorem dX7_served_19 : decode cX7_served 19 = .ok (.iconst 1, 1) := by decide +kernel
theorem dX7_served_20 : decode cX7_served 20 = .ok (.invokevirtual 66, 3) := by decide +kernel
theorem dX7_served_23 : decode cX7_served 23 = .ok (.ireturn, 1) := by decide +kernel
theorem dX7_served_24 : decode cX7_served 24 = .ok (.aload_n 0, 1) := by decide +kernel
theorem dX7_served_25 : decode cX7_served 25 = .ok (.getfield 29, 3) := by decide +kernel
theorem dX7_served_28 : decode cX7_served 28 = .ok (.iload_n 1, 1) := by decide +kernel
theorem dX7_served_29 : decode cX7_served 29 = .ok (.invokevirtual 153, 3) := by decide +kernel
theorem dX7_served_32 : decode cX7_served 32 = .ok (.ifCond .eq 19, 3) := by decide +kernel
theorem dX7_served_35 : decode cX7_served 35 = .ok (.aload_n 0, 1) := by decide +kernel
theorem dX7_served_36 : decode cX7_served 36 = .ok (.aload_n 0, 1) := by decide +kernel
theorem dX7_served_37 : decode cX7_served 37 = .ok (.getfield 29, 3) := by decide +kernel
theorem dX7_served_40 : decode cX7_served 40 = .ok (.iload_n 1, 1) := by decide +kernel
theorem dX7_served_41 : decode cX7_served 41 = .ok (.iload_n 2, 1) := by decide +kernel
theorem dX7_served_42 : decode cX7_served 42 = .ok (.invokevirtual 156, 3) := by decide +kernel
theorem dX7_served_45 : decode cX7_served 45 = .ok (.invokevirtual 93, 3) := by decide +kernel
theorem dX7_served_48 : decode cX7_served 48 = .ok (.goto 9, 3) := by decide +kernel
theorem dX7_served_51 : decode cX7_served 51 = .ok (.aload_n 0, 1) := by decide +kernel
theorem dX7_served_52 : decode cX7_served 52 = .ok (.bipush 6, 2) := by decide +kernel
theorem dX7_served_54 : decode cX7_served 54 = .ok (.invokevirtual 66, 3) := by decide +kernel
theorem dX7_served_57 : decode cX7_served 57 = .ok (.ireturn, 1) := by decide +kernel
theorem dX7_trays_0 : decode cX7_trays 0 = .ok (.aload_n 0, 1) := by decide +kernel
theorem dX7_trays_1 : decode cX7_trays 1 = .ok (.iload_n 1, 1) := by decide +kernel
theorem dX7_trays_2 : decode cX7_trays 2 = .ok (.invokevirtual 99, 3) := by decide +kernel
theorem dX7_trays_5 : decode cX7_trays 5 = .ok (.ifCond .eq 11, 3) := by decide +kernel
theorem dX7_trays_8 : decode cX7_trays 8 = .ok (.aload_n 0, 1) := by decide +kernel
theorem dX7_trays_9 : decode cX7_trays 9 = .ok (.iload_n 2, 1) := by decide +kernel
theorem dX7_trays_10 : decode cX7_trays 10 = .ok (.invokevirtual 117, 3) := by decide +kernel
theorem dX7_trays_13 : decode cX7_trays 13 = .ok (.ifCond .ne 9, 3) := by decide +kernel
theorem dX7_trays_16 : decode cX7_trays 16 = .ok (.aload_n 0, 1) := by decide +kernel
theorem dX7_trays_17 : decode cX7_trays 17 = .ok (.iconst 1, 1) := by decide +kernel
theorem dX7_trays_18 : decode cX7_trays 18 = .ok (.invokevirtual 66, 3) := by decide +kernel
theorem dX7_trays_21 : decode cX7_trays 21 = .ok (.ireturn, 1) := by decide +kernel
theorem dX7_trays_22 : decode cX7_trays 22 = .ok (.aload_n 0, 1) := by decide +kernel
theorem dX7_trays_23 : decode cX7_trays 23 = .ok (.getfield 29, 3) := by decide +kernel
theorem dX7_trays_26 : decode cX7_trays 26 = .ok (.iload_n 1, 1) := by decide +kernel
theorem dX7_trays_27 : decode cX7_trays 27 = .ok (.invokevirtual 153, 3) := by decide +kernel
theorem dX7_trays_30 : decode cX7_trays 30 = .ok (.ifCond .eq 22, 3) := by decide +kernel
theorem dX7_trays_33 : decode cX7_trays 33 = .ok (.aload_n 0, 1) := by decide +kernel
theorem dX7_trays_34 : decode cX7_trays 34 = .ok (.aload_n 0, 1) := by decide +kernel
theorem dX7_trays_35 : decode cX7_trays 35 = .ok (.getfield 29, 3) := by decide +kernel
theorem dX7_trays_38 : decode cX7_trays 38 = .ok (.iload_n 1, 1) := by decide +kernel
theorem dX7_trays_39 : decode cX7_trays 39 = .ok (.bipush 7, 2) := by decide +kernel
theorem dX7_trays_41 : decode cX7_trays 41 = .ok (.iload_n 2, 1) := by decide +kernel
theorem dX7_trays_42 : decode cX7_trays 42 = .ok (.iadd, 1) := by decide +kernel
theorem dX7_trays_43 : decode cX7_trays 43 = .ok (.invokevirtual 156, 3) := by decide +kernel
theorem dX7_trays_46 : decode cX7_trays 46 = .ok (.invokevirtual 93, 3) := by decide +kernel
theorem dX7_trays_49 : decode cX7_trays 49 = .ok (.goto 9, 3) := by decide +kernel
theorem dX7_trays_52 : decode cX7_trays 52 = .ok (.aload_n 0, 1) := by decide +kernel
theorem dX7_trays_53 : decode cX7_trays 53 = .ok (.bipush 6, 2) := by decide +kernel
theorem dX7_trays_55 : decode cX7_trays 55 = .ok (.invokevirtual 66, 3) := by decide +kernel
theorem dX7_trays_58 : decode cX7_trays 58 = .ok (.ireturn, 1) := by decide +kernel
theorem dX7_got_0 : decode cX7_got 0 = .ok (.aload_n 0, 1) := by decide +kernel
theorem dX7_got_1 : decode cX7_got 1 = .ok (.getfield 19, 3) := by decide +kernel
theorem dX7_got_4 : decode cX7_got 4 = .ok (.iload_n 1, 1) := by decide +kernel
theorem dX7_got_5 : decode cX7_got 5 = .ok (.invokevirtual 159, 3) := by decide +kernel
theorem dX7_got_8 : decode cX7_got 8 = .ok (.ifCond .ne 9, 3) := by decide +kernel
theorem dX7_got_11 : decode cX7_got 11 = .ok (.aload_n 0, 1) := by decide +kernel
theorem dX7_got_12 : decode cX7_got 12 = .ok (.iconst 1, 1) := by decide +kernel
theorem dX7_got_13 : decode cX7_got 13 = .ok (.invokevirtual 66, 3) := by decide +kernel
theorem dX7_got_16 : decode cX7_got 16 = .ok (.ireturn, 1) := by decide +kernel
theorem dX7_got_17 : decode cX7_got 17 = .ok (.aload_n 0, 1) := by decide +kernel
theorem dX7_got_18 : decode cX7_got 18 = .ok (.getfield 29, 3) := by decide +kernel
theorem dX7_got_21 : decode cX7_got 21 = .ok (.aload_n 0, 1) := by decide +kernel
theorem dX7_got_22 : decode cX7_got 22 = .ok (.getfield 19, 3) := by decide +kernel
theorem dX7_got_25 : decode cX7_got 25 = .ok (.bipush 8, 2) := by decide +kernel
theorem dX7_got_27 : decode cX7_got 27 = .ok (.iload_n 1, 1) := by decide +kernel
theorem dX7_got_28 : decode cX7_got 28 = .ok (.iconst 0, 1) := by decide +kernel
theorem dX7_got_29 : decode cX7_got 29 = .ok (.invokevirtual 162, 3) := by decide +kernel
theorem dX7_got_32 : decode cX7_got 32 = .ok (.invokevirtual 153, 3) := by decide +kernel
theorem dX7_got_35 : decode cX7_got 35 = .ok (.istore_n 2, 1) := by decide +kernel
theorem dX7_got_36 : decode cX7_got 36 = .ok (.iload_n 2, 1) := by decide +kernel
theorem dX7_got_37 : decode cX7_got 37 = .ok (.ifCond .eq 18, 3) := by decide +kernel
theorem dX7_got_40 : decode cX7_got 40 = .ok (.aload_n 0, 1) := by decide +kernel
theorem dX7_got_41 : decode cX7_got 41 = .ok (.aload_n 0, 1) := by decide +kernel
theorem dX7_got_42 : decode cX7_got 42 = .ok (.getfield 29, 3) := by decide +kernel
theorem dX7_got_45 : decode cX7_got 45 = .ok (.iload_n 1, 1) := by decide +kernel
theorem dX7_got_46 : decode cX7_got 46 = .ok (.invokevirtual 166, 3) := by decide +kernel
theorem dX7_got_49 : decode cX7_got 49 = .ok (.invokevirtual 93, 3) := by decide +kernel
theorem dX7_got_52 : decode cX7_got 52 = .ok (.goto 9, 3) := by decide +kernel
theorem dX7_got_55 : decode cX7_got 55 = .ok (.aload_n 0, 1) := by decide +kernel
theorem dX7_got_56 : decode cX7_got 56 = .ok (.bipush 6, 2) := by decide +kernel
theorem dX7_got_58 : decode cX7_got 58 = .ok (.invokevirtual 66, 3) := by decide +kernel
theorem dX7_got_61 : decode cX7_got 61 = .ok (.ireturn, 1) := by decide +kernel
theorem dX7_sum_0 : decode cX7_sum 0 = .ok (.aload_n 0, 1) := by decide +kernel
theorem dX7_sum_1 : decode cX7_sum 1 = .ok (.invokevirtual 106, 3) := by decide +kernel
theorem dX7_sum_4 : decode cX7_sum 4 = .ok (.ifCond .ne 9, 3) := by decide +kernel
theorem dX7_sum_7 : decode cX7_sum 7 = .ok (.aload_n 0, 1) := by decide +kernel
theorem dX7_sum_8 : decode cX7_sum 8 = .ok (.iconst 1, 1) := by decide +kernel
theorem dX7_sum_9 : decode cX7_sum 9 = .ok (.invokevirtual 66, 3) := by decide +kernel
theorem dX7_sum_12 : decode cX7_sum 12 = .ok (.ireturn, 1) := by decide +kernel
theorem dX7_sum_13 : decode cX7_sum 13 = .ok (.iload_n 1, 1) := by decide +kernel
theorem dX7_sum_14 : decode cX7_sum 14 = .ok (.tableswitch 119 0 5 #[38, 52, 65, 78, 91, 103], 38) := by decide +kernel
theorem dX7_sum_52 : decode cX7_sum 52 = .ok (.aload_n 0, 1) := by decide +kernel
theorem dX7_sum_53 : decode cX7_sum 53 = .ok (.aload_n 0, 1) := by decide +kernel
theorem dX7_sum_54 : decode cX7_sum 54 = .ok (.getfield 29, 3) := by decide +kernel
theorem dX7_sum_57 : decode cX7_sum 57 = .ok (.bipush 6, 2) := by decide +kernel
theorem dX7_sum_59 : decode cX7_sum 59 = .ok (.invokevirtual 169, 3) := by decide +kernel
theorem dX7_sum_62 : decode cX7_sum 62 = .ok (.invokevirtual 93, 3) := by decide +kernel
theorem dX7_sum_65 : decode cX7_sum 65 = .ok (.ireturn, 1) := by decide +kernel
theorem dX7_sum_66 : decode cX7_sum 66 = .ok (.aload_n 0, 1) := by decide +kernel
theorem dX7_sum_67 : decode cX7_sum 67 = .ok (.aload_n 0, 1) := by decide +kernel
theorem dX7_sum_68 : decode cX7_sum 68 = .ok (.getfield 29, 3) := by decide +kernel
theorem dX7_sum_71 : decode cX7_sum 71 = .ok (.iconst 3, 1) := by decide +kernel
theorem dX7_sum_72 : decode cX7_sum 72 = .ok (.invokevirtual 169, 3) := by decide +kernel
theorem dX7_sum_75 : decode cX7_sum 75 = .ok (.invokevirtual 93, 3) := by decide +kernel
theorem dX7_sum_78 : decode cX7_sum 78 = .ok (.ireturn, 1) := by decide +kernel
theorem dX7_sum_79 : decode cX7_sum 79 = .ok (.aload_n 0, 1) := by decide +kernel
theorem dX7_sum_80 : decode cX7_sum 80 = .ok (.aload_n 0, 1) := by decide +kernel
theorem dX7_sum_81 : decode cX7_sum 81 = .ok (.getfield 29, 3) := by decide +kernel
theorem dX7_sum_84 : decode cX7_sum 84 = .ok (.iconst 4, 1) := by decide +kernel
theorem dX7_sum_85 : decode cX7_sum 85 = .ok (.invokevirtual 169, 3) := by decide +kernel
theorem dX7_sum_88 : decode cX7_sum 88 = .ok (.invokevirtual 93, 3) := by decide +kernel
theorem dX7_sum_91 : decode cX7_sum 91 = .ok (.ireturn, 1) := by decide +kernel
theorem dX7_sum_92 : decode cX7_sum 92 = .ok (.aload_n 0, 1) := by decide +kernel
theorem dX7_sum_93 : decode cX7_sum 93 = .ok (.aload_n 0, 1) := by decide +kernel
theorem dX7_sum_94 : decode cX7_sum 94 = .ok (.getfield 29, 3) := by decide +kernel
theorem dX7_sum_97 : decode cX7_sum 97 = .ok (.iconst 5, 1) := by decide +kernel
theorem dX7_sum_98 : decode cX7_sum 98 = .ok (.invokevirtual 169, 3) := by decide +kernel
theorem dX7_sum_101 : decode cX7_sum 101 = .ok (.invokevirtual 93, 3) := by decide +kernel
theorem dX7_sum_104 : decode cX7_sum 104 = .ok (.ireturn, 1) := by decide +kernel
theorem dX7_sum_105 : decode cX7_sum 105 = .ok (.aload_n 0, 1) := by decide +kernel
theorem dX7_sum_106 : decode cX7_sum 106 = .ok (.aload_n 0, 1) := by decide +kernel
theorem dX7_sum_107 : decode cX7_sum 107 = .ok (.getfield 29, 3) := by decide +kernel
theorem dX7_sum_110 : decode cX7_sum 110 = .ok (.invokevirtual 172, 3) := by decide +kernel
theorem dX7_sum_113 : decode cX7_sum 113 = .ok (.invokevirtual 93, 3) := by decide +kernel
theorem dX7_sum_116 : decode cX7_sum 116 = .ok (.ireturn, 1) := by decide +kernel
theorem dX7_sum_117 : decode cX7_sum 117 = .ok (.aload_n 0, 1) := by decide +kernel
theorem dX7_sum_118 : decode cX7_sum 118 = .ok (.aload_n 0, 1) := by decide +kernel
theorem dX7_sum_119 : decode cX7_sum 119 = .ok (.getfield 29, 3) := by decide +kernel
theorem dX7_sum_122 : decode cX7_sum 122 = .ok (.aload_n 0, 1) := by decide +kernel
theorem dX7_sum_123 : decode cX7_sum 123 = .ok (.getfield 19, 3) := by decide +kernel
theorem dX7_sum_126 : decode cX7_sum 126 = .ok (.invokevirtual 175, 3) := by decide +kernel
theorem dX7_sum_129 : decode cX7_sum 129 = .ok (.invokevirtual 93, 3) := by decide +kernel
theorem dX7_sum_132 : decode cX7_sum 132 = .ok (.ireturn, 1) := by decide +kernel
theorem dX7_sum_133 : decode cX7_sum 133 = .ok (.aload_n 0, 1) := by decide +kernel
theorem dX7_sum_134 : decode cX7_sum 134 = .ok (.iconst 1, 1) := by decide +kernel
theorem dX7_sum_135 : decode cX7_sum 135 = .ok (.invokevirtual 66, 3) := by decide +kernel
theorem dX7_sum_138 : decode cX7_sum 138 = .ok (.ireturn, 1) := by decide +kernel
theorem dX7_heat_0 : decode cX7_heat 0 = .ok (.aload_n 0, 1) := by decide +kernel
theorem dX7_heat_1 : decode cX7_heat 1 = .ok (.iload_n 1, 1) := by decide +kernel
theorem dX7_heat_2 : decode cX7_heat 2 = .ok (.invokevirtual 117, 3) := by decide +kernel
theorem dX7_heat_5 : decode cX7_heat 5 = .ok (.ifCond .ne 9, 3) := by decide +kernel
theorem dX7_heat_8 : decode cX7_heat 8 = .ok (.aload_n 0, 1) := by decide +kernel
theorem dX7_heat_9 : decode cX7_heat 9 = .ok (.iconst 1, 1) := by decide +kernel
theorem dX7_heat_10 : decode cX7_heat 10 = .ok (.invokevirtual 178, 3) := by decide +kernel
theorem dX7_heat_13 : decode cX7_heat 13 = .ok (.ireturn, 1) := by decide +kernel
theorem dX7_heat_14 : decode cX7_heat 14 = .ok (.iload_n 2, 1) := by decide +kernel
theorem dX7_heat_15 : decode cX7_heat 15 = .ok (.invokestatic 181, 3) := by decide +kernel
theorem dX7_heat_18 : decode cX7_heat 18 = .ok (.ifCond .ne 9, 3) := by decide +kernel
theorem dX7_heat_21 : decode cX7_heat 21 = .ok (.aload_n 0, 1) := by decide +kernel
theorem dX7_heat_22 : decode cX7_heat 22 = .ok (.iconst 2, 1) := by decide +kernel
theorem dX7_heat_23 : decode cX7_heat 23 = .ok (.invokevirtual 178, 3) := by decide +kernel
theorem dX7_heat_26 : decode cX7_heat 26 = .ok (.ireturn, 1) := by decide +kernel
theorem dX7_heat_27 : decode cX7_heat 27 = .ok (.aload_n 0, 1) := by decide +kernel
theorem dX7_heat_28 : decode cX7_heat 28 = .ok (.aload_n 0, 1) := by decide +kernel
theorem dX7_heat_29 : decode cX7_heat 29 = .ok (.getfield 19, 3) := by decide +kernel
theorem dX7_heat_32 : decode cX7_heat 32 = .ok (.iload_n 1, 1) := by decide +kernel
theorem dX7_heat_33 : decode cX7_heat 33 = .ok (.iload_n 2, 1) := by decide +kernel
theorem dX7_heat_34 : decode cX7_heat 34 = .ok (.invokevirtual 184, 3) := by decide +kernel
theorem dX7_heat_37 : decode cX7_heat 37 = .ok (.invokevirtual 93, 3) := by decide +kernel
theorem dX7_heat_40 : decode cX7_heat 40 = .ok (.ireturn, 1) := by decide +kernel
theorem dX7_cold_0 : decode cX7_cold 0 = .ok (.aload_n 0, 1) := by decide +kernel
theorem dX7_cold_1 : decode cX7_cold 1 = .ok (.iload_n 1, 1) := by decide +kernel
theorem dX7_cold_2 : decode cX7_cold 2 = .ok (.invokevirtual 117, 3) := by decide +kernel
theorem dX7_cold_5 : decode cX7_cold 5 = .ok (.ifCond .ne 9, 3) := by decide +kernel
theorem dX7_cold_8 : decode cX7_cold 8 = .ok (.aload_n 0, 1) := by decide +kernel
theorem dX7_cold_9 : decode cX7_cold 9 = .ok (.iconst 1, 1) := by decide +kernel
theorem dX7_cold_10 : decode cX7_cold 10 = .ok (.invokevirtual 66, 3) := by decide +kernel
theorem dX7_cold_13 : decode cX7_cold 13 = .ok (.ireturn, 1) := by decide +kernel
theorem dX7_cold_14 : decode cX7_cold 14 = .ok (.iload_n 2, 1) := by decide +kernel
theorem dX7_cold_15 : decode cX7_cold 15 = .ok (.invokestatic 181, 3) := by decide +kernel
theorem dX7_cold_18 : decode cX7_cold 18 = .ok (.ifCond .ne 9, 3) := by decide +kernel
theorem dX7_cold_21 : decode cX7_cold 21 = .ok (.aload_n 0, 1) := by decide +kernel
theorem dX7_cold_22 : decode cX7_cold 22 = .ok (.iconst 2, 1) := by decide +kernel
theorem dX7_cold_23 : decode cX7_cold 23 = .ok (.invokevirtual 66, 3) := by decide +kernel
theorem dX7_cold_26 : decode cX7_cold 26 = .ok (.ireturn, 1) := by decide +kernel
theorem dX7_cold_27 : decode cX7_cold 27 = .ok (.iload_n 2, 1) := by decide +kernel
theorem dX7_cold_28 : decode cX7_cold 28 = .ok (.istore_n 3, 1) := by decide +kernel
theorem dX7_cold_29 : decode cX7_cold 29 = .ok (.iload_n 3, 1) := by decide +kernel
theorem dX7_cold_30 : decode cX7_cold 30 = .ok (.sipush 999, 3) := by decide +kernel
theorem dX7_cold_33 : decode cX7_cold 33 = .ok (.if_icmp .gt 27, 3) := by decide +kernel
theorem dX7_cold_36 : decode cX7_cold 36 = .ok (.aload_n 0, 1) := by decide +kernel
theorem dX7_cold_37 : decode cX7_cold 37 = .ok (.getfield 19, 3) := by decide +kernel
theorem dX7_cold_40 : decode cX7_cold 40 = .ok (.iload_n 1, 1) := by decide +kernel
theorem dX7_cold_41 : decode cX7_cold 41 = .ok (.iload_n 3, 1) := by decide +kernel
theorem dX7_cold_42 : decode cX7_cold 42 = .ok (.invokevirtual 187, 3) := by decide +kernel
theorem dX7_cold_45 : decode cX7_cold 45 = .ok (.ifCond .eq 9, 3) := by decide +kernel
theorem dX7_cold_48 : decode cX7_cold 48 = .ok (.aload_n 0, 1) := by decide +kernel
theorem dX7_cold_49 : decode cX7_cold 49 = .ok (.iload_n 3, 1) := by decide +kernel
theorem dX7_cold_50 : decode cX7_cold 50 = .ok (.invokevirtual 93, 3) := by decide +kernel
theorem dX7_cold_53 : decode cX7_cold 53 = .ok (.ireturn, 1) := by decide +kernel
theorem dX7_cold_54 : decode cX7_cold 54 = .ok (.iinc 3 1, 3) := by decide +kernel
theorem dX7_cold_57 : decode cX7_cold 57 = .ok (.goto (-28), 3) := by decide +kernel
theorem dX7_cold_60 : decode cX7_cold 60 = .ok (.aload_n 0, 1) := by decide +kernel
theorem dX7_cold_61 : decode cX7_cold 61 = .ok (.bipush (-2), 2) := by decide +kernel
theorem dX7_cold_63 : decode cX7_cold 63 = .ok (.invokevirtual 93, 3) := by decide +kernel
theorem dX7_cold_66 : decode cX7_cold 66 = .ok (.ireturn, 1) := by decide +kernel
theorem dX7_mark_0 : decode cX7_mark 0 = .ok (.aload_n 0, 1) := by decide +kernel
theorem dX7_mark_1 : decode cX7_mark 1 = .ok (.invokevirtual 106, 3) := by decide +kernel
theorem dX7_mark_4 : decode cX7_mark 4 = .ok (.ifCond .ne 9, 3) := by decide +kernel
theorem dX7_mark_7 : decode cX7_mark 7 = .ok (.aload_n 0, 1) := by decide +kernel
theorem dX7_mark_8 : decode cX7_mark 8 = .ok (.iconst 1, 1) := by decide +kernel
theorem dX7_mark_9 : decode cX7_mark 9 = .ok (.invokevirtual 66, 3) := by decide +kernel
theorem dX7_mark_12 : decode cX7_mark 12 = .ok (.ireturn, 1) := by decide +kernel
theorem dX7_mark_13 : decode cX7_mark 13 = .ok (.aload_n 0, 1) := by decide +kernel
theorem dX7_mark_14 : decode cX7_mark 14 = .ok (.getfield 87, 3) := by decide +kernel
theorem dX7_mark_17 : decode cX7_mark 17 = .ok (.iconst 4, 1) := by decide +kernel
theorem dX7_mark_18 : decode cX7_mark 18 = .ok (.if_icmp .lt 9, 3) := by decide +kernel
theorem dX7_mark_21 : decode cX7_mark 21 = .ok (.aload_n 0, 1) := by decide +kernel
theorem dX7_mark_22 : decode cX7_mark 22 = .ok (.iconst 3, 1) := by decide +kernel
theorem dX7_mark_23 : decode cX7_mark 23 = .ok (.invokevirtual 66, 3) := by decide +kernel
theorem dX7_mark_26 : decode cX7_mark 26 = .ok (.ireturn, 1) := by decide +kernel
theorem dX7_mark_27 : decode cX7_mark 27 = .ok (.aload_n 0, 1) := by decide +kernel
theorem dX7_mark_28 : decode cX7_mark 28 = .ok (.getfield 33, 3) := by decide +kernel
theorem dX7_mark_31 : decode cX7_mark 31 = .ok (.aload_n 0, 1) := by decide +kernel
theorem dX7_mark_32 : decode cX7_mark 32 = .ok (.getfield 87, 3) := by decide +kernel
theorem dX7_mark_35 : decode cX7_mark 35 = .ok (.aaload, 1) := by decide +kernel
theorem dX7_mark_36 : decode cX7_mark 36 = .ok (.aload_n 0, 1) := by decide +kernel
theorem dX7_mark_37 : decode cX7_mark 37 = .ok (.getfield 29, 3) := by decide +kernel
theorem dX7_mark_40 : decode cX7_mark 40 = .ok (.invokevirtual 191, 3) := by decide +kernel
theorem dX7_mark_43 : decode cX7_mark 43 = .ok (.aload_n 0, 1) := by decide +kernel
theorem dX7_mark_44 : decode cX7_mark 44 = .ok (.dup, 1) := by decide +kernel
theorem dX7_mark_45 : decode cX7_mark 45 = .ok (.getfield 87, 3) := by decide +kernel
theorem dX7_mark_48 : decode cX7_mark 48 = .ok (.iconst 1, 1) := by decide +kernel
theorem dX7_mark_49 : decode cX7_mark 49 = .ok (.iadd, 1) := by decide +kernel
theorem dX7_mark_50 : decode cX7_mark 50 = .ok (.putfield 87, 3) := by decide +kernel
theorem dX7_mark_53 : decode cX7_mark 53 = .ok (.aload_n 0, 1) := by decide +kernel
theorem dX7_mark_54 : decode cX7_mark 54 = .ok (.aload_n 0, 1) := by decide +kernel
theorem dX7_mark_55 : decode cX7_mark 55 = .ok (.getfield 87, 3) := by decide +kernel
theorem dX7_mark_58 : decode cX7_mark 58 = .ok (.iconst 1, 1) := by decide +kernel
theorem dX7_mark_59 : decode cX7_mark 59 = .ok (.isub, 1) := by decide +kernel
theorem dX7_mark_60 : decode cX7_mark 60 = .ok (.invokevirtual 93, 3) := by decide +kernel
theorem dX7_mark_63 : decode cX7_mark 63 = .ok (.ireturn, 1) := by decide +kernel
theorem dX7_back_0 : decode cX7_back 0 = .ok (.iload_n 1, 1) := by decide +kernel
theorem dX7_back_1 : decode cX7_back 1 = .ok (.ifCond .lt 11, 3) := by decide +kernel
theorem dX7_back_4 : decode cX7_back 4 = .ok (.iload_n 1, 1) := by decide +kernel
theorem dX7_back_5 : decode cX7_back 5 = .ok (.aload_n 0, 1) := by decide +kernel
theorem dX7_back_6 : decode cX7_back 6 = .ok (.getfield 87, 3) := by decide +kernel
theorem dX7_back_9 : decode cX7_back 9 = .ok (.if_icmp .lt 9, 3) := by decide +kernel
theorem dX7_back_12 : decode cX7_back 12 = .ok (.aload_n 0, 1) := by decide +kernel
theorem dX7_back_13 : decode cX7_back 13 = .ok (.iconst 1, 1) := by decide +kernel
theorem dX7_back_14 : decode cX7_back 14 = .ok (.invokevirtual 133, 3) := by decide +kernel
theorem dX7_back_17 : decode cX7_back 17 = .ok (.ireturn, 1) := by decide +kernel
theorem dX7_back_18 : decode cX7_back 18 = .ok (.aload_n 0, 1) := by decide +kernel
theorem dX7_back_19 : decode cX7_back 19 = .ok (.getfield 29, 3) := by decide +kernel
theorem dX7_back_22 : decode cX7_back 22 = .ok (.aload_n 0, 1) := by decide +kernel
theorem dX7_back_23 : decode cX7_back 23 = .ok (.getfield 33, 3) := by decide +kernel
theorem dX7_back_26 : decode cX7_back 26 = .ok (.iload_n 1, 1) := by decide +kernel
theorem dX7_back_27 : decode cX7_back 27 = .ok (.aaload, 1) := by decide +kernel
theorem dX7_back_28 : decode cX7_back 28 = .ok (.invokevirtual 191, 3) := by decide +kernel
theorem dX7_back_31 : decode cX7_back 31 = .ok (.aload_n 0, 1) := by decide +kernel
theorem dX7_back_32 : decode cX7_back 32 = .ok (.invokevirtual 137, 3) := by decide +kernel
theorem dX7_back_35 : decode cX7_back 35 = .ok (.ireturn, 1) := by decide +kernel
theorem dX7_meets_0 : decode cX7_meets 0 = .ok (.aload_n 0, 1) := by decide +kernel
theorem dX7_meets_1 : decode cX7_meets 1 = .ok (.invokevirtual 106, 3) := by decide +kernel
theorem dX7_meets_4 : decode cX7_meets 4 = .ok (.ifCond .ne 9, 3) := by decide +kernel
theorem dX7_meets_7 : decode cX7_meets 7 = .ok (.aload_n 0, 1) := by decide +kernel
theorem dX7_meets_8 : decode cX7_meets 8 = .ok (.iconst 1, 1) := by decide +kernel
theorem dX7_meets_9 : decode cX7_meets 9 = .ok (.invokevirtual 66, 3) := by decide +kernel
theorem dX7_meets_12 : decode cX7_meets 12 = .ok (.ireturn, 1) := by decide +kernel
theorem dX7_meets_13 : decode cX7_meets 13 = .ok (.aload_n 0, 1) := by decide +kernel
theorem dX7_meets_14 : decode cX7_meets 14 = .ok (.iload_n 1, 1) := by decide +kernel
theorem dX7_meets_15 : decode cX7_meets 15 = .ok (.invokevirtual 195, 3) := by decide +kernel
theorem dX7_meets_18 : decode cX7_meets 18 = .ok (.ifCond .eq 18, 3) := by decide +kernel
theorem dX7_meets_21 : decode cX7_meets 21 = .ok (.aload_n 0, 1) := by decide +kernel
theorem dX7_meets_22 : decode cX7_meets 22 = .ok (.aload_n 0, 1) := by decide +kernel
theorem dX7_meets_23 : decode cX7_meets 23 = .ok (.getfield 19, 3) := by decide +kernel
theorem dX7_meets_26 : decode cX7_meets 26 = .ok (.iload_n 1, 1) := by decide +kernel
theorem dX7_meets_27 : decode cX7_meets 27 = .ok (.invokevirtual 198, 3) := by decide +kernel
theorem dX7_meets_30 : decode cX7_meets 30 = .ok (.invokevirtual 93, 3) := by decide +kernel
theorem dX7_meets_33 : decode cX7_meets 33 = .ok (.goto 8, 3) := by decide +kernel
theorem dX7_meets_36 : decode cX7_meets 36 = .ok (.aload_n 0, 1) := by decide +kernel
theorem dX7_meets_37 : decode cX7_meets 37 = .ok (.iconst 2, 1) := by decide +kernel
theorem dX7_meets_38 : decode cX7_meets 38 = .ok (.invokevirtual 66, 3) := by decide +kernel
theorem dX7_meets_41 : decode cX7_meets 41 = .ok (.ireturn, 1) := by decide +kernel
theorem dX7_soonest_0 : decode cX7_soonest 0 = .ok (.aload_n 0, 1) := by decide +kernel
theorem dX7_soonest_1 : decode cX7_soonest 1 = .ok (.invokevirtual 106, 3) := by decide +kernel
theorem dX7_soonest_4 : decode cX7_soonest 4 = .ok (.ifCond .ne 9, 3) := by decide +kernel
theorem dX7_soonest_7 : decode cX7_soonest 7 = .ok (.aload_n 0, 1) := by decide +kernel
theorem dX7_soonest_8 : decode cX7_soonest 8 = .ok (.iconst 1, 1) := by decide +kernel
theorem dX7_soonest_9 : decode cX7_soonest 9 = .ok (.invokevirtual 66, 3) := by decide +kernel
theorem dX7_soonest_12 : decode cX7_soonest 12 = .ok (.ireturn, 1) := by decide +kernel
theorem dX7_soonest_13 : decode cX7_soonest 13 = .ok (.iconst 0, 1) := by decide +kernel
theorem dX7_soonest_14 : decode cX7_soonest 14 = .ok (.istore_n 1, 1) := by decide +kernel
theorem dX7_soonest_15 : decode cX7_soonest 15 = .ok (.aload_n 0, 1) := by decide +kernel
theorem dX7_soonest_16 : decode cX7_soonest 16 = .ok (.getfield 19, 3) := by decide +kernel
theorem dX7_soonest_19 : decode cX7_soonest 19 = .ok (.iconst 0, 1) := by decide +kernel
theorem dX7_soonest_20 : decode cX7_soonest 20 = .ok (.invokevirtual 198, 3) := by decide +kernel
theorem dX7_soonest_23 : decode cX7_soonest 23 = .ok (.istore_n 2, 1) := by decide +kernel
theorem dX7_soonest_24 : decode cX7_soonest 24 = .ok (.iconst 1, 1) := by decide +kernel
theorem dX7_soonest_25 : decode cX7_soonest 25 = .ok (.istore_n 3, 1) := by decide +kernel
theorem dX7_soonest_26 : decode cX7_soonest 26 = .ok (.iload_n 3, 1) := by decide +kernel
theorem dX7_soonest_27 : decode cX7_soonest 27 = .ok (.aload_n 0, 1) := by decide +kernel
theorem dX7_soonest_28 : decode cX7_soonest 28 = .ok (.getfield 19, 3) := by decide +kernel
theorem dX7_soonest_31 : decode cX7_soonest 31 = .ok (.invokevirtual 110, 3) := by decide +kernel
theorem dX7_soonest_34 : decode cX7_soonest 34 = .ok (.if_icmp .gt 30, 3) := by decide +kernel
theorem dX7_soonest_37 : decode cX7_soonest 37 = .ok (.aload_n 0, 1) := by decide +kernel
theorem dX7_soonest_38 : decode cX7_soonest 38 = .ok (.getfield 19, 3) := by decide +kernel
theorem dX7_soonest_41 : decode cX7_soonest 41 = .ok (.iload_n 3, 1) := by decide +kernel
theorem dX7_soonest_42 : decode cX7_soonest 42 = .ok (.invokevirtual 198, 3) := by decide +kernel
theorem dX7_soonest_45 : decode cX7_soonest 45 = .ok (.istore 4, 2) := by decide +kernel
theorem dX7_soonest_47 : decode cX7_soonest 47 = .ok (.iload 4, 2) := by decide +kernel
theorem dX7_soonest_49 : decode cX7_soonest 49 = .ok (.iload_n 2, 1) := by decide +kernel
theorem dX7_soonest_50 : decode cX7_soonest 50 = .ok (.if_icmp .ge 8, 3) := by decide +kernel
theorem dX7_soonest_53 : decode cX7_soonest 53 = .ok (.iload_n 3, 1) := by decide +kernel
theorem dX7_soonest_54 : decode cX7_soonest 54 = .ok (.istore_n 1, 1) := by decide +kernel
theorem dX7_soonest_55 : decode cX7_soonest 55 = .ok (.iload 4, 2) := by decide +kernel
theorem dX7_soonest_57 : decode cX7_soonest 57 = .ok (.istore_n 2, 1) := by decide +kernel
theorem dX7_soonest_58 : decode cX7_soonest 58 = .ok (.iinc 3 1, 3) := by decide +kernel
theorem dX7_soonest_61 : decode cX7_soonest 61 = .ok (.goto (-35), 3) := by decide +kernel
theorem dX7_soonest_64 : decode cX7_soonest 64 = .ok (.aload_n 0, 1) := by decide +kernel
theorem dX7_soonest_65 : decode cX7_soonest 65 = .ok (.iload_n 1, 1) := by decide +kernel
theorem dX7_soonest_66 : decode cX7_soonest 66 = .ok (.invokevirtual 93, 3) := by decide +kernel
theorem dX7_soonest_69 : decode cX7_soonest 69 = .ok (.ireturn, 1) := by decide +kernel
theorem dX7_lacking_0 : decode cX7_lacking 0 = .ok (.aload_n 0, 1) := by decide +kernel
theorem dX7_lacking_1 : decode cX7_lacking 1 = .ok (.invokevirtual 106, 3) := by decide +kernel
theorem dX7_lacking_4 : decode cX7_lacking 4 = .ok (.ifCond .ne 9, 3) := by decide +kernel
theorem dX7_lacking_7 : decode cX7_lacking 7 = .ok (.aload_n 0, 1) := by decide +kernel
theorem dX7_lacking_8 : decode cX7_lacking 8 = .ok (.iconst 1, 1) := by decide +kernel
theorem dX7_lacking_9 : decode cX7_lacking 9 = .ok (.invokevirtual 66, 3) := by decide +kernel
theorem dX7_lacking_12 : decode cX7_lacking 12 = .ok (.ireturn, 1) := by decide +kernel
theorem dX7_lacking_13 : decode cX7_lacking 13 = .ok (.aload_n 0, 1) := by decide +kernel
theorem dX7_lacking_14 : decode cX7_lacking 14 = .ok (.iload_n 1, 1) := by decide +kernel
theorem dX7_lacking_15 : decode cX7_lacking 15 = .ok (.invokevirtual 195, 3) := by decide +kernel
theorem dX7_lacking_18 : decode cX7_lacking 18 = .ok (.ifCond .eq 18, 3) := by decide +kernel
theorem dX7_lacking_21 : decode cX7_lacking 21 = .ok (.aload_n 0, 1) := by decide +kernel
theorem dX7_lacking_22 : decode cX7_lacking 22 = .ok (.aload_n 0, 1) := by decide +kernel
theorem dX7_lacking_23 : decode cX7_lacking 23 = .ok (.getfield 19, 3) := by decide +kernel
theorem dX7_lacking_26 : decode cX7_lacking 26 = .ok (.iload_n 1, 1) := by decide +kernel
theorem dX7_lacking_27 : decode cX7_lacking 27 = .ok (.invokevirtual 201, 3) := by decide +kernel
theorem dX7_lacking_30 : decode cX7_lacking 30 = .ok (.invokevirtual 93, 3) := by decide +kernel
theorem dX7_lacking_33 : decode cX7_lacking 33 = .ok (.goto 8, 3) := by decide +kernel
theorem dX7_lacking_36 : decode cX7_lacking 36 = .ok (.aload_n 0, 1) := by decide +kernel
theorem dX7_lacking_37 : decode cX7_lacking 37 = .ok (.iconst 2, 1) := by decide +kernel
theorem dX7_lacking_38 : decode cX7_lacking 38 = .ok (.invokevirtual 66, 3) := by decide +kernel
theorem dX7_lacking_41 : decode cX7_lacking 41 = .ok (.ireturn, 1) := by decide +kernel
theorem dX7_fairest_0 : decode cX7_fairest 0 = .ok (.aload_n 0, 1) := by decide +kernel
theorem dX7_fairest_1 : decode cX7_fairest 1 = .ok (.invokevirtual 106, 3) := by decide +kernel
theorem dX7_fairest_4 : decode cX7_fairest 4 = .ok (.ifCond .ne 9, 3) := by decide +kernel
theorem dX7_fairest_7 : decode cX7_fairest 7 = .ok (.aload_n 0, 1) := by decide +kernel
theorem dX7_fairest_8 : decode cX7_fairest 8 = .ok (.iconst 1, 1) := by decide +kernel
theorem dX7_fairest_9 : decode cX7_fairest 9 = .ok (.invokevirtual 66, 3) := by decide +kernel
theorem dX7_fairest_12 : decode cX7_fairest 12 = .ok (.ireturn, 1) := by decide +kernel
theorem dX7_fairest_13 : decode cX7_fairest 13 = .ok (.iconst 0, 1) := by decide +kernel
theorem dX7_fairest_14 : decode cX7_fairest 14 = .ok (.istore_n 1, 1) := by decide +kernel
theorem dX7_fairest_15 : decode cX7_fairest 15 = .ok (.aload_n 0, 1) := by decide +kernel
theorem dX7_fairest_16 : decode cX7_fairest 16 = .ok (.getfield 19, 3) := by decide +kernel
theorem dX7_fairest_19 : decode cX7_fairest 19 = .ok (.iconst 0, 1) := by decide +kernel
theorem dX7_fairest_20 : decode cX7_fairest 20 = .ok (.invokevirtual 201, 3) := by decide +kernel
theorem dX7_fairest_23 : decode cX7_fairest 23 = .ok (.istore_n 2, 1) := by decide +kernel
theorem dX7_fairest_24 : decode cX7_fairest 24 = .ok (.iconst 1, 1) := by decide +kernel
theorem dX7_fairest_25 : decode cX7_fairest 25 = .ok (.istore_n 3, 1) := by decide +kernel
theorem dX7_fairest_26 : decode cX7_fairest 26 = .ok (.iload_n 3, 1) := by decide +kernel
theorem dX7_fairest_27 : decode cX7_fairest 27 = .ok (.aload_n 0, 1) := by decide +kernel
theorem dX7_fairest_28 : decode cX7_fairest 28 = .ok (.getfield 19, 3) := by decide +kernel
theorem dX7_fairest_31 : decode cX7_fairest 31 = .ok (.invokevirtual 110, 3) := by decide +kernel
theorem dX7_fairest_34 : decode cX7_fairest 34 = .ok (.if_icmp .gt 30, 3) := by decide +kernel
theorem dX7_fairest_37 : decode cX7_fairest 37 = .ok (.aload_n 0, 1) := by decide +kernel
theorem dX7_fairest_38 : decode cX7_fairest 38 = .ok (.getfield 19, 3) := by decide +kernel
theorem dX7_fairest_41 : decode cX7_fairest 41 = .ok (.iload_n 3, 1) := by decide +kernel
theorem dX7_fairest_42 : decode cX7_fairest 42 = .ok (.invokevirtual 201, 3) := by decide +kernel
theorem dX7_fairest_45 : decode cX7_fairest 45 = .ok (.istore 4, 2) := by decide +kernel
theorem dX7_fairest_47 : decode cX7_fairest 47 = .ok (.iload 4, 2) := by decide +kernel
theorem dX7_fairest_49 : decode cX7_fairest 49 = .ok (.iload_n 2, 1) := by decide +kernel
theorem dX7_fairest_50 : decode cX7_fairest 50 = .ok (.if_icmp .ge 8, 3) := by decide +kernel
theorem dX7_fairest_53 : decode cX7_fairest 53 = .ok (.iload_n 3, 1) := by decide +kernel
theorem dX7_fairest_54 : decode cX7_fairest 54 = .ok (.istore_n 1, 1) := by decide +kernel
theorem dX7_fairest_55 : decode cX7_fairest 55 = .ok (.iload 4, 2) := by decide +kernel
theorem dX7_fairest_57 : decode cX7_fairest 57 = .ok (.istore_n 2, 1) := by decide +kernel
theorem dX7_fairest_58 : decode cX7_fairest 58 = .ok (.iinc 3 1, 3) := by decide +kernel
theorem dX7_fairest_61 : decode cX7_fairest 61 = .ok (.goto (-35), 3) := by decide +kernel
theorem dX7_fairest_64 : decode cX7_fairest 64 = .ok (.aload_n 0, 1) := by decide +kernel
theorem dX7_fairest_65 : decode cX7_fairest 65 = .ok (.iload_n 1, 1) := by decide +kernel
theorem dX7_fairest_66 : decode cX7_fairest 66 = .ok (.invokevirtual 93, 3) := by decide +kernel
theorem dX7_fairest_69 : decode cX7_fairest 69 = .ok (.ireturn, 1) := by decide +kernel
theorem dX7_met_0 : decode cX7_met 0 = .ok (.aload_n 0, 1) := by decide +kernel
theorem dX7_met_1 : decode cX7_met 1 = .ok (.getfield 19, 3) := by decide +kernel
theorem dX7_met_4 : decode cX7_met 4 = .ok (.iconst 0, 1) := by decide +kernel
theorem dX7_met_5 : decode cX7_met 5 = .ok (.invokevirtual 204, 3) := by decide +kernel
theorem dX7_met_8 : decode cX7_met 8 = .ok (.ifCond .ne 9, 3) := by decide +kernel
theorem dX7_met_11 : decode cX7_met 11 = .ok (.aload_n 0, 1) := by decide +kernel
theorem dX7_met_12 : decode cX7_met 12 = .ok (.iconst 1, 1) := by decide +kernel
theorem dX7_met_13 : decode cX7_met 13 = .ok (.invokevirtual 66, 3) := by decide +kernel
theorem dX7_met_16 : decode cX7_met 16 = .ok (.ireturn, 1) := by decide +kernel
theorem dX7_met_17 : decode cX7_met 17 = .ok (.aload_n 0, 1) := by decide +kernel
theorem dX7_met_18 : decode cX7_met 18 = .ok (.getfield 29, 3) := by decide +kernel
theorem dX7_met_21 : decode cX7_met 21 = .ok (.invokevirtual 140, 3) := by decide +kernel
theorem dX7_met_24 : decode cX7_met 24 = .ok (.ifCond .eq 17, 3) := by decide +kernel
theorem dX7_met_27 : decode cX7_met 27 = .ok (.aload_n 0, 1) := by decide +kernel
theorem dX7_met_28 : decode cX7_met 28 = .ok (.aload_n 0, 1) := by decide +kernel
theorem dX7_met_29 : decode cX7_met 29 = .ok (.getfield 29, 3) := by decide +kernel
theorem dX7_met_32 : decode cX7_met 32 = .ok (.invokevirtual 207, 3) := by decide +kernel
theorem dX7_met_35 : decode cX7_met 35 = .ok (.invokevirtual 93, 3) := by decide +kernel
theorem dX7_met_38 : decode cX7_met 38 = .ok (.goto 8, 3) := by decide +kernel
theorem dX7_met_41 : decode cX7_met 41 = .ok (.aload_n 0, 1) := by decide +kernel
theorem dX7_met_42 : decode cX7_met 42 = .ok (.iconst 5, 1) := by decide +kernel
theorem dX7_met_43 : decode cX7_met 43 = .ok (.invokevirtual 66, 3) := by decide +kernel
theorem dX7_met_46 : decode cX7_met 46 = .ok (.ireturn, 1) := by decide +kernel
theorem dX7_out_0 : decode cX7_out 0 = .ok (.aload_n 0, 1) := by decide +kernel
theorem dX7_out_1 : decode cX7_out 1 = .ok (.iload_n 1, 1) := by decide +kernel
theorem dX7_out_2 : decode cX7_out 2 = .ok (.invokevirtual 99, 3) := by decide +kernel
theorem dX7_out_5 : decode cX7_out 5 = .ok (.ifCond .eq 11, 3) := by decide +kernel
theorem dX7_out_8 : decode cX7_out 8 = .ok (.aload_n 0, 1) := by decide +kernel
theorem dX7_out_9 : decode cX7_out 9 = .ok (.iload_n 2, 1) := by decide +kernel
theorem dX7_out_10 : decode cX7_out 10 = .ok (.invokevirtual 117, 3) := by decide +kernel
theorem dX7_out_13 : decode cX7_out 13 = .ok (.ifCond .ne 10, 3) := by decide +kernel
theorem dX7_out_16 : decode cX7_out 16 = .ok (.aload_n 0, 1) := by decide +kernel
theorem dX7_out_17 : decode cX7_out 17 = .ok (.iconst 1, 1) := by decide +kernel
theorem dX7_out_18 : decode cX7_out 18 = .ok (.invokevirtual 66, 3) := by decide +kernel
theorem dX7_out_21 : decode cX7_out 21 = .ok (.i2l, 1) := by decide +kernel
theorem dX7_out_22 : decode cX7_out 22 = .ok (.lreturn, 1) := by decide +kernel
theorem dX7_out_23 : decode cX7_out 23 = .ok (.iload_n 3, 1) := by decide +kernel
theorem dX7_out_24 : decode cX7_out 24 = .ok (.ifCond .lt 9, 3) := by decide +kernel
theorem dX7_out_27 : decode cX7_out 27 = .ok (.iload_n 3, 1) := by decide +kernel
theorem dX7_out_28 : decode cX7_out 28 = .ok (.bipush 99, 2) := by decide +kernel
theorem dX7_out_30 : decode cX7_out 30 = .ok (.if_icmp .le 10, 3) := by decide +kernel
theorem dX7_out_33 : decode cX7_out 33 = .ok (.aload_n 0, 1) := by decide +kernel
theorem dX7_out_34 : decode cX7_out 34 = .ok (.iconst 2, 1) := by decide +kernel
theorem dX7_out_35 : decode cX7_out 35 = .ok (.invokevirtual 66, 3) := by decide +kernel
theorem dX7_out_38 : decode cX7_out 38 = .ok (.i2l, 1) := by decide +kernel
theorem dX7_out_39 : decode cX7_out 39 = .ok (.lreturn, 1) := by decide +kernel
theorem dX7_out_40 : decode cX7_out 40 = .ok (.aload_n 0, 1) := by decide +kernel
theorem dX7_out_41 : decode cX7_out 41 = .ok (.getfield 47, 3) := by decide +kernel
theorem dX7_out_44 : decode cX7_out 44 = .ok (.aload_n 0, 1) := by decide +kernel
theorem dX7_out_45 : decode cX7_out 45 = .ok (.getfield 19, 3) := by decide +kernel
theorem dX7_out_48 : decode cX7_out 48 = .ok (.iload_n 1, 1) := by decide +kernel
theorem dX7_out_49 : decode cX7_out 49 = .ok (.iload_n 2, 1) := by decide +kernel
theorem dX7_out_50 : decode cX7_out 50 = .ok (.invokevirtual 210, 3) := by decide +kernel
theorem dX7_out_53 : decode cX7_out 53 = .ok (.ifCond .ne 10, 3) := by decide +kernel
theorem dX7_out_56 : decode cX7_out 56 = .ok (.aload_n 0, 1) := by decide +kernel
theorem dX7_out_57 : decode cX7_out 57 = .ok (.iconst 3, 1) := by decide +kernel
theorem dX7_out_58 : decode cX7_out 58 = .ok (.invokevirtual 66, 3) := by decide +kernel
theorem dX7_out_61 : decode cX7_out 61 = .ok (.i2l, 1) := by decide +kernel
theorem dX7_out_62 : decode cX7_out 62 = .ok (.lreturn, 1) := by decide +kernel
theorem dX7_out_63 : decode cX7_out 63 = .ok (.aload_n 0, 1) := by decide +kernel
theorem dX7_out_64 : decode cX7_out 64 = .ok (.iconst 0, 1) := by decide +kernel
theorem dX7_out_65 : decode cX7_out 65 = .ok (.invokevirtual 93, 3) := by decide +kernel
theorem dX7_out_68 : decode cX7_out 68 = .ok (.pop, 1) := by decide +kernel
theorem dX7_out_69 : decode cX7_out 69 = .ok (.aload_n 0, 1) := by decide +kernel
theorem dX7_out_70 : decode cX7_out 70 = .ok (.getfield 47, 3) := by decide +kernel
theorem dX7_out_73 : decode cX7_out 73 = .ok (.iload_n 3, 1) := by decide +kernel
theorem dX7_out_74 : decode cX7_out 74 = .ok (.invokevirtual 214, 3) := by decide +kernel
theorem dX7_out_77 : decode cX7_out 77 = .ok (.lreturn, 1) := by decide +kernel
theorem dX7_ways_0 : decode cX7_ways 0 = .ok (.aload_n 0, 1) := by decide +kernel
theorem dX7_ways_1 : decode cX7_ways 1 = .ok (.iload_n 1, 1) := by decide +kernel
theorem dX7_ways_2 : decode cX7_ways 2 = .ok (.invokevirtual 99, 3) := by decide +kernel
theorem dX7_ways_5 : decode cX7_ways 5 = .ok (.ifCond .ne 10, 3) := by decide +kernel
theorem dX7_ways_8 : decode cX7_ways 8 = .ok (.aload_n 0, 1) := by decide +kernel
theorem dX7_ways_9 : decode cX7_ways 9 = .ok (.iconst 1, 1) := by decide +kernel
theorem dX7_ways_10 : decode cX7_ways 10 = .ok (.invokevirtual 66, 3) := by decide +kernel
theorem dX7_ways_13 : decode cX7_ways 13 = .ok (.i2l, 1) := by decide +kernel
theorem dX7_ways_14 : decode cX7_ways 14 = .ok (.lreturn, 1) := by decide +kernel
theorem dX7_ways_15 : decode cX7_ways 15 = .ok (.aload_n 0, 1) := by decide +kernel
theorem dX7_ways_16 : decode cX7_ways 16 = .ok (.getfield 47, 3) := by decide +kernel
theorem dX7_ways_19 : decode cX7_ways 19 = .ok (.aload_n 0, 1) := by decide +kernel
theorem dX7_ways_20 : decode cX7_ways 20 = .ok (.getfield 19, 3) := by decide +kernel
theorem dX7_ways_23 : decode cX7_ways 23 = .ok (.iload_n 1, 1) := by decide +kernel
theorem dX7_ways_24 : decode cX7_ways 24 = .ok (.iconst 0, 1) := by decide +kernel
theorem dX7_ways_25 : decode cX7_ways 25 = .ok (.invokevirtual 210, 3) := by decide +kernel
theorem dX7_ways_28 : decode cX7_ways 28 = .ok (.ifCond .ne 10, 3) := by decide +kernel
theorem dX7_ways_31 : decode cX7_ways 31 = .ok (.aload_n 0, 1) := by decide +kernel
theorem dX7_ways_32 : decode cX7_ways 32 = .ok (.iconst 3, 1) := by decide +kernel
theorem dX7_ways_33 : decode cX7_ways 33 = .ok (.invokevirtual 66, 3) := by decide +kernel
theorem dX7_ways_36 : decode cX7_ways 36 = .ok (.i2l, 1) := by decide +kernel
theorem dX7_ways_37 : decode cX7_ways 37 = .ok (.lreturn, 1) := by decide +kernel
theorem dX7_ways_38 : decode cX7_ways 38 = .ok (.aload_n 0, 1) := by decide +kernel
theorem dX7_ways_39 : decode cX7_ways 39 = .ok (.iconst 0, 1) := by decide +kernel
theorem dX7_ways_40 : decode cX7_ways 40 = .ok (.invokevirtual 93, 3) := by decide +kernel
theorem dX7_ways_43 : decode cX7_ways 43 = .ok (.pop, 1) := by decide +kernel
theorem dX7_ways_44 : decode cX7_ways 44 = .ok (.aload_n 0, 1) := by decide +kernel
theorem dX7_ways_45 : decode cX7_ways 45 = .ok (.getfield 47, 3) := by decide +kernel
theorem dX7_ways_48 : decode cX7_ways 48 = .ok (.invokevirtual 218, 3) := by decide +kernel
theorem dX7_ways_51 : decode cX7_ways 51 = .ok (.lreturn, 1) := by decide +kernel
theorem dX7_enough_0 : decode cX7_enough 0 = .ok (.aload_n 0, 1) := by decide +kernel
theorem dX7_enough_1 : decode cX7_enough 1 = .ok (.iload_n 1, 1) := by decide +kernel
theorem dX7_enough_2 : decode cX7_enough 2 = .ok (.invokevirtual 99, 3) := by decide +kernel
theorem dX7_enough_5 : decode cX7_enough 5 = .ok (.ifCond .eq 11, 3) := by decide +kernel
theorem dX7_enough_8 : decode cX7_enough 8 = .ok (.aload_n 0, 1) := by decide +kernel
theorem dX7_enough_9 : decode cX7_enough 9 = .ok (.iload_n 2, 1) := by decide +kernel
theorem dX7_enough_10 : decode cX7_enough 10 = .ok (.invokevirtual 117, 3) := by decide +kernel
theorem dX7_enough_13 : decode cX7_enough 13 = .ok (.ifCond .ne 9, 3) := by decide +kernel
theorem dX7_enough_16 : decode cX7_enough 16 = .ok (.aload_n 0, 1) := by decide +kernel
theorem dX7_enough_17 : decode cX7_enough 17 = .ok (.iconst 1, 1) := by decide +kernel
theorem dX7_enough_18 : decode cX7_enough 18 = .ok (.invokevirtual 66, 3) := by decide +kernel
theorem dX7_enough_21 : decode cX7_enough 21 = .ok (.ireturn, 1) := by decide +kernel
theorem dX7_enough_22 : decode cX7_enough 22 = .ok (.iload_n 3, 1) := by decide +kernel
theorem dX7_enough_23 : decode cX7_enough 23 = .ok (.ifCond .lt 9, 3) := by decide +kernel
theorem dX7_enough_26 : decode cX7_enough 26 = .ok (.iload_n 3, 1) := by decide +kernel
theorem dX7_enough_27 : decode cX7_enough 27 = .ok (.bipush 99, 2) := by decide +kernel
theorem dX7_enough_29 : decode cX7_enough 29 = .ok (.if_icmp .le 9, 3) := by decide +kernel
theorem dX7_enough_32 : decode cX7_enough 32 = .ok (.aload_n 0, 1) := by decide +kernel
theorem dX7_enough_33 : decode cX7_enough 33 = .ok (.iconst 2, 1) := by decide +kernel
theorem dX7_enough_34 : decode cX7_enough 34 = .ok (.invokevirtual 66, 3) := by decide +kernel
theorem dX7_enough_37 : decode cX7_enough 37 = .ok (.ireturn, 1) := by decide +kernel
theorem dX7_enough_38 : decode cX7_enough 38 = .ok (.aload_n 0, 1) := by decide +kernel
theorem dX7_enough_39 : decode cX7_enough 39 = .ok (.getfield 47, 3) := by decide +kernel
theorem dX7_enough_42 : decode cX7_enough 42 = .ok (.aload_n 0, 1) := by decide +kernel
theorem dX7_enough_43 : decode cX7_enough 43 = .ok (.getfield 19, 3) := by decide +kernel
theorem dX7_enough_46 : decode cX7_enough 46 = .ok (.iload_n 1, 1) := by decide +kernel
theorem dX7_enough_47 : decode cX7_enough 47 = .ok (.iload_n 2, 1) := by decide +kernel
theorem dX7_enough_48 : decode cX7_enough 48 = .ok (.invokevirtual 210, 3) := by decide +kernel
theorem dX7_enough_51 : decode cX7_enough 51 = .ok (.ifCond .ne 9, 3) := by decide +kernel
theorem dX7_enough_54 : decode cX7_enough 54 = .ok (.aload_n 0, 1) := by decide +kernel
theorem dX7_enough_55 : decode cX7_enough 55 = .ok (.iconst 3, 1) := by decide +kernel
