theorem dX0_init_0 : decode cX0_init 0 = .ok (.aload_n 0, 1) := by decide +kernel
theorem dX0_init_1 : decode cX0_init 1 = .ok (.invokespecial 3, 3) := by decide +kernel
theorem dX0_init_4 : decode cX0_init 4 = .ok (.aload_n 0, 1) := by decide +kernel
theorem dX0_init_5 : decode cX0_init 5 = .ok (.bipush 14, 2) := by decide +kernel
theorem dX0_init_7 : decode cX0_init 7 = .ok (.newarray .int, 2) := by decide +kernel
theorem dX0_init_9 : decode cX0_init 9 = .ok (.putfield 9, 3) := by decide +kernel
theorem dX0_init_12 : decode cX0_init 12 = .ok (.aload_n 0, 1) := by decide +kernel
theorem dX0_init_13 : decode cX0_init 13 = .ok (.iconst 4, 1) := by decide +kernel
theorem dX0_init_14 : decode cX0_init 14 = .ok (.newarray .int, 2) := by decide +kernel
theorem dX0_init_16 : decode cX0_init 16 = .ok (.putfield 15, 3) := by decide +kernel
theorem dX0_init_19 : decode cX0_init 19 = .ok (.aload_n 0, 1) := by decide +kernel
theorem dX0_init_20 : decode cX0_init 20 = .ok (.sipush 2401, 3) := by decide +kernel
theorem dX0_init_23 : decode cX0_init 23 = .ok (.newarray .int, 2) := by decide +kernel
theorem dX0_init_25 : decode cX0_init 25 = .ok (.putfield 18, 3) := by decide +kernel
theorem dX0_init_28 : decode cX0_init 28 = .ok (.return_, 1) := by decide +kernel
theorem dX0_empty_0 : decode cX0_empty 0 = .ok (.aload_n 0, 1) := by decide +kernel
theorem dX0_empty_1 : decode cX0_empty 1 = .ok (.bipush 14, 2) := by decide +kernel
theorem dX0_empty_3 : decode cX0_empty 3 = .ok (.aload_n 1, 1) := by decide +kernel
theorem dX0_empty_4 : decode cX0_empty 4 = .ok (.iconst 5, 1) := by decide +kernel
theorem dX0_empty_5 : decode cX0_empty 5 = .ok (.iload_n 2, 1) := by decide +kernel
theorem dX0_empty_6 : decode cX0_empty 6 = .ok (.iconst 1, 1) := by decide +kernel
theorem dX0_empty_7 : decode cX0_empty 7 = .ok (.invokevirtual 21, 3) := by decide +kernel
theorem dX0_empty_10 : decode cX0_empty 10 = .ok (.invokestatic 27, 3) := by decide +kernel
theorem dX0_empty_13 : decode cX0_empty 13 = .ok (.putfield 33, 3) := by decide +kernel
theorem dX0_empty_16 : decode cX0_empty 16 = .ok (.iconst 0, 1) := by decide +kernel
theorem dX0_empty_17 : decode cX0_empty 17 = .ok (.istore_n 3, 1) := by decide +kernel
theorem dX0_empty_18 : decode cX0_empty 18 = .ok (.iload_n 3, 1) := by decide +kernel
theorem dX0_empty_19 : decode cX0_empty 19 = .ok (.aload_n 0, 1) := by decide +kernel
theorem dX0_empty_20 : decode cX0_empty 20 = .ok (.getfield 33, 3) := by decide +kernel
theorem dX0_empty_23 : decode cX0_empty 23 = .ok (.if_icmp .ge 22, 3) := by decide +kernel
theorem dX0_empty_26 : decode cX0_empty 26 = .ok (.aload_n 0, 1) := by decide +kernel
theorem dX0_empty_27 : decode cX0_empty 27 = .ok (.getfield 9, 3) := by decide +kernel
theorem dX0_empty_30 : decode cX0_empty 30 = .ok (.iload_n 3, 1) := by decide +kernel
theorem dX0_empty_31 : decode cX0_empty 31 = .ok (.aload_n 1, 1) := by decide +kernel
theorem dX0_empty_32 : decode cX0_empty 32 = .ok (.iconst 5, 1) := by decide +kernel
theorem dX0_empty_33 : decode cX0_empty 33 = .ok (.iload_n 2, 1) := by decide +kernel
theorem dX0_empty_34 : decode cX0_empty 34 = .ok (.iconst 2, 1) := by decide +kernel
theorem dX0_empty_35 : decode cX0_empty 35 = .ok (.invokevirtual 21, 3) := by decide +kernel
theorem dX0_empty_38 : decode cX0_empty 38 = .ok (.iastore, 1) := by decide +kernel
theorem dX0_empty_39 : decode cX0_empty 39 = .ok (.iinc 3 1, 3) := by decide +kernel
theorem dX0_empty_42 : decode cX0_empty 42 = .ok (.goto (-24), 3) := by decide +kernel
theorem dX0_empty_45 : decode cX0_empty 45 = .ok (.return_, 1) := by decide +kernel
theorem dX0_takes_0 : decode cX0_takes 0 = .ok (.iconst 0, 1) := by decide +kernel
theorem dX0_takes_1 : decode cX0_takes 1 = .ok (.istore_n 2, 1) := by decide +kernel
theorem dX0_takes_2 : decode cX0_takes 2 = .ok (.iload_n 2, 1) := by decide +kernel
theorem dX0_takes_3 : decode cX0_takes 3 = .ok (.aload_n 0, 1) := by decide +kernel
theorem dX0_takes_4 : decode cX0_takes 4 = .ok (.getfield 33, 3) := by decide +kernel
theorem dX0_takes_7 : decode cX0_takes 7 = .ok (.if_icmp .ge 31, 3) := by decide +kernel
theorem dX0_takes_10 : decode cX0_takes 10 = .ok (.aload_n 0, 1) := by decide +kernel
theorem dX0_takes_11 : decode cX0_takes 11 = .ok (.getfield 9, 3) := by decide +kernel
theorem dX0_takes_14 : decode cX0_takes 14 = .ok (.iload_n 2, 1) := by decide +kernel
theorem dX0_takes_15 : decode cX0_takes 15 = .ok (.iaload, 1) := by decide +kernel
theorem dX0_takes_16 : decode cX0_takes 16 = .ok (.iload_n 1, 1) := by decide +kernel
theorem dX0_takes_17 : decode cX0_takes 17 = .ok (.if_icmp .lt 15, 3) := by decide +kernel
theorem dX0_takes_20 : decode cX0_takes 20 = .ok (.aload_n 0, 1) := by decide +kernel
theorem dX0_takes_21 : decode cX0_takes 21 = .ok (.getfield 9, 3) := by decide +kernel
theorem dX0_takes_24 : decode cX0_takes 24 = .ok (.iload_n 2, 1) := by decide +kernel
theorem dX0_takes_25 : decode cX0_takes 25 = .ok (.dup2, 1) := by decide +kernel
theorem dX0_takes_26 : decode cX0_takes 26 = .ok (.iaload, 1) := by decide +kernel
theorem dX0_takes_27 : decode cX0_takes 27 = .ok (.iload_n 1, 1) := by decide +kernel
theorem dX0_takes_28 : decode cX0_takes 28 = .ok (.isub, 1) := by decide +kernel
theorem dX0_takes_29 : decode cX0_takes 29 = .ok (.iastore, 1) := by decide +kernel
theorem dX0_takes_30 : decode cX0_takes 30 = .ok (.iconst 1, 1) := by decide +kernel
theorem dX0_takes_31 : decode cX0_takes 31 = .ok (.ireturn, 1) := by decide +kernel
theorem dX0_takes_32 : decode cX0_takes 32 = .ok (.iinc 2 1, 3) := by decide +kernel
theorem dX0_takes_35 : decode cX0_takes 35 = .ok (.goto (-33), 3) := by decide +kernel
theorem dX0_takes_38 : decode cX0_takes 38 = .ok (.iconst 0, 1) := by decide +kernel
theorem dX0_takes_39 : decode cX0_takes 39 = .ok (.ireturn, 1) := by decide +kernel
theorem dX0_roomIn_0 : decode cX0_roomIn 0 = .ok (.iload_n 1, 1) := by decide +kernel
theorem dX0_roomIn_1 : decode cX0_roomIn 1 = .ok (.ifCond .lt 18, 3) := by decide +kernel
theorem dX0_roomIn_4 : decode cX0_roomIn 4 = .ok (.iload_n 1, 1) := by decide +kernel
theorem dX0_roomIn_5 : decode cX0_roomIn 5 = .ok (.bipush 14, 2) := by decide +kernel
theorem dX0_roomIn_7 : decode cX0_roomIn 7 = .ok (.if_icmp .ge 12, 3) := by decide +kernel
theorem dX0_roomIn_10 : decode cX0_roomIn 10 = .ok (.aload_n 0, 1) := by decide +kernel
theorem dX0_roomIn_11 : decode cX0_roomIn 11 = .ok (.getfield 9, 3) := by decide +kernel
theorem dX0_roomIn_14 : decode cX0_roomIn 14 = .ok (.iload_n 1, 1) := by decide +kernel
theorem dX0_roomIn_15 : decode cX0_roomIn 15 = .ok (.iaload, 1) := by decide +kernel
theorem dX0_roomIn_16 : decode cX0_roomIn 16 = .ok (.goto 4, 3) := by decide +kernel
theorem dX0_roomIn_19 : decode cX0_roomIn 19 = .ok (.iconst 0, 1) := by decide +kernel
theorem dX0_roomIn_20 : decode cX0_roomIn 20 = .ok (.ireturn, 1) := by decide +kernel
theorem dX0_holdLoad_0 : decode cX0_holdLoad 0 = .ok (.aload_n 0, 1) := by decide +kernel
theorem dX0_holdLoad_1 : decode cX0_holdLoad 1 = .ok (.aload_n 1, 1) := by decide +kernel
theorem dX0_holdLoad_2 : decode cX0_holdLoad 2 = .ok (.iload_n 2, 1) := by decide +kernel
theorem dX0_holdLoad_3 : decode cX0_holdLoad 3 = .ok (.invokevirtual 37, 3) := by decide +kernel
theorem dX0_holdLoad_6 : decode cX0_holdLoad 6 = .ok (.iconst 0, 1) := by decide +kernel
theorem dX0_holdLoad_7 : decode cX0_holdLoad 7 = .ok (.istore_n 3, 1) := by decide +kernel
theorem dX0_holdLoad_8 : decode cX0_holdLoad 8 = .ok (.iload_n 3, 1) := by decide +kernel
theorem dX0_holdLoad_9 : decode cX0_holdLoad 9 = .ok (.aload_n 1, 1) := by decide +kernel
theorem dX0_holdLoad_10 : decode cX0_holdLoad 10 = .ok (.iconst 2, 1) := by decide +kernel
theorem dX0_holdLoad_11 : decode cX0_holdLoad 11 = .ok (.invokevirtual 41, 3) := by decide +kernel
theorem dX0_holdLoad_14 : decode cX0_holdLoad 14 = .ok (.if_icmp .ge 49, 3) := by decide +kernel
theorem dX0_holdLoad_17 : decode cX0_holdLoad 17 = .ok (.aload_n 1, 1) := by decide +kernel
theorem dX0_holdLoad_18 : decode cX0_holdLoad 18 = .ok (.iconst 2, 1) := by decide +kernel
theorem dX0_holdLoad_19 : decode cX0_holdLoad 19 = .ok (.iload_n 3, 1) := by decide +kernel
theorem dX0_holdLoad_20 : decode cX0_holdLoad 20 = .ok (.iconst 0, 1) := by decide +kernel
theorem dX0_holdLoad_21 : decode cX0_holdLoad 21 = .ok (.invokevirtual 21, 3) := by decide +kernel
theorem dX0_holdLoad_24 : decode cX0_holdLoad 24 = .ok (.istore 4, 2) := by decide +kernel
theorem dX0_holdLoad_26 : decode cX0_holdLoad 26 = .ok (.iconst 0, 1) := by decide +kernel
theorem dX0_holdLoad_27 : decode cX0_holdLoad 27 = .ok (.istore 5, 2) := by decide +kernel
theorem dX0_holdLoad_29 : decode cX0_holdLoad 29 = .ok (.iload 5, 2) := by decide +kernel
theorem dX0_holdLoad_31 : decode cX0_holdLoad 31 = .ok (.aload_n 1, 1) := by decide +kernel
theorem dX0_holdLoad_32 : decode cX0_holdLoad 32 = .ok (.iload_n 2, 1) := by decide +kernel
theorem dX0_holdLoad_33 : decode cX0_holdLoad 33 = .ok (.iload_n 3, 1) := by decide +kernel
theorem dX0_holdLoad_34 : decode cX0_holdLoad 34 = .ok (.invokevirtual 44, 3) := by decide +kernel
theorem dX0_holdLoad_37 : decode cX0_holdLoad 37 = .ok (.if_icmp .ge 20, 3) := by decide +kernel
theorem dX0_holdLoad_40 : decode cX0_holdLoad 40 = .ok (.aload_n 0, 1) := by decide +kernel
theorem dX0_holdLoad_41 : decode cX0_holdLoad 41 = .ok (.iload 4, 2) := by decide +kernel
theorem dX0_holdLoad_43 : decode cX0_holdLoad 43 = .ok (.invokevirtual 47, 3) := by decide +kernel
theorem dX0_holdLoad_46 : decode cX0_holdLoad 46 = .ok (.ifCond .ne 5, 3) := by decide +kernel
theorem dX0_holdLoad_49 : decode cX0_holdLoad 49 = .ok (.iconst 0, 1) := by decide +kernel
theorem dX0_holdLoad_50 : decode cX0_holdLoad 50 = .ok (.ireturn, 1) := by decide +kernel
theorem dX0_holdLoad_51 : decode cX0_holdLoad 51 = .ok (.iinc 5 1, 3) := by decide +kernel
theorem dX0_holdLoad_54 : decode cX0_holdLoad 54 = .ok (.goto (-25), 3) := by decide +kernel
theorem dX0_holdLoad_57 : decode cX0_holdLoad 57 = .ok (.iinc 3 1, 3) := by decide +kernel
theorem dX0_holdLoad_60 : decode cX0_holdLoad 60 = .ok (.goto (-52), 3) := by decide +kernel
theorem dX0_holdLoad_63 : decode cX0_holdLoad 63 = .ok (.iconst 1, 1) := by decide +kernel
theorem dX0_holdLoad_64 : decode cX0_holdLoad 64 = .ok (.ireturn, 1) := by decide +kernel
theorem dX0_takeBack_0 : decode cX0_takeBack 0 = .ok (.aload_n 0, 1) := by decide +kernel
theorem dX0_takeBack_1 : decode cX0_takeBack 1 = .ok (.aload_n 1, 1) := by decide +kernel
theorem dX0_takeBack_2 : decode cX0_takeBack 2 = .ok (.iload_n 3, 1) := by decide +kernel
theorem dX0_takeBack_3 : decode cX0_takeBack 3 = .ok (.invokevirtual 37, 3) := by decide +kernel
theorem dX0_takeBack_6 : decode cX0_takeBack 6 = .ok (.iconst 0, 1) := by decide +kernel
theorem dX0_takeBack_7 : decode cX0_takeBack 7 = .ok (.istore 4, 2) := by decide +kernel
theorem dX0_takeBack_9 : decode cX0_takeBack 9 = .ok (.iconst 1, 1) := by decide +kernel
theorem dX0_takeBack_10 : decode cX0_takeBack 10 = .ok (.istore 5, 2) := by decide +kernel
theorem dX0_takeBack_12 : decode cX0_takeBack 12 = .ok (.iload 5, 2) := by decide +kernel
theorem dX0_takeBack_14 : decode cX0_takeBack 14 = .ok (.aload_n 1, 1) := by decide +kernel
theorem dX0_takeBack_15 : decode cX0_takeBack 15 = .ok (.invokevirtual 51, 3) := by decide +kernel
theorem dX0_takeBack_18 : decode cX0_takeBack 18 = .ok (.if_icmp .gt 78, 3) := by decide +kernel
theorem dX0_takeBack_21 : decode cX0_takeBack 21 = .ok (.iconst 0, 1) := by decide +kernel
theorem dX0_takeBack_22 : decode cX0_takeBack 22 = .ok (.istore 6, 2) := by decide +kernel
theorem dX0_takeBack_24 : decode cX0_takeBack 24 = .ok (.iload 6, 2) := by decide +kernel
theorem dX0_takeBack_26 : decode cX0_takeBack 26 = .ok (.aload_n 1, 1) := by decide +kernel
theorem dX0_takeBack_27 : decode cX0_takeBack 27 = .ok (.iconst 2, 1) := by decide +kernel
theorem dX0_takeBack_28 : decode cX0_takeBack 28 = .ok (.invokevirtual 41, 3) := by decide +kernel
theorem dX0_takeBack_31 : decode cX0_takeBack 31 = .ok (.if_icmp .ge 59, 3) := by decide +kernel
theorem dX0_takeBack_34 : decode cX0_takeBack 34 = .ok (.aload_n 1, 1) := by decide +kernel
theorem dX0_takeBack_35 : decode cX0_takeBack 35 = .ok (.iconst 2, 1) := by decide +kernel
theorem dX0_takeBack_36 : decode cX0_takeBack 36 = .ok (.iload 6, 2) := by decide +kernel
theorem dX0_takeBack_38 : decode cX0_takeBack 38 = .ok (.iconst 0, 1) := by decide +kernel
theorem dX0_takeBack_39 : decode cX0_takeBack 39 = .ok (.invokevirtual 21, 3) := by decide +kernel
theorem dX0_takeBack_42 : decode cX0_takeBack 42 = .ok (.istore 7, 2) := by decide +kernel
theorem dX0_takeBack_44 : decode cX0_takeBack 44 = .ok (.iconst 0, 1) := by decide +kernel
theorem dX0_takeBack_45 : decode cX0_takeBack 45 = .ok (.istore 8, 2) := by decide +kernel
theorem dX0_takeBack_47 : decode cX0_takeBack 47 = .ok (.iload 8, 2) := by decide +kernel
theorem dX0_takeBack_49 : decode cX0_takeBack 49 = .ok (.aload_n 2, 1) := by decide +kernel
theorem dX0_takeBack_50 : decode cX0_takeBack 50 = .ok (.iload 5, 2) := by decide +kernel
theorem dX0_takeBack_52 : decode cX0_takeBack 52 = .ok (.bipush 7, 2) := by decide +kernel
theorem dX0_takeBack_54 : decode cX0_takeBack 54 = .ok (.iload 6, 2) := by decide +kernel
theorem dX0_takeBack_56 : decode cX0_takeBack 56 = .ok (.iadd, 1) := by decide +kernel
theorem dX0_takeBack_57 : decode cX0_takeBack 57 = .ok (.invokevirtual 55, 3) := by decide +kernel
theorem dX0_takeBack_60 : decode cX0_takeBack 60 = .ok (.if_icmp .ge 24, 3) := by decide +kernel
theorem dX0_takeBack_63 : decode cX0_takeBack 63 = .ok (.aload_n 0, 1) := by decide +kernel
theorem dX0_takeBack_64 : decode cX0_takeBack 64 = .ok (.iload 7, 2) := by decide +kernel
theorem dX0_takeBack_66 : decode cX0_takeBack 66 = .ok (.invokevirtual 47, 3) := by decide +kernel
theorem dX0_takeBack_69 : decode cX0_takeBack 69 = .ok (.ifCond .ne 6, 3) := by decide +kernel
theorem dX0_takeBack_72 : decode cX0_takeBack 72 = .ok (.iload 4, 2) := by decide +kernel
theorem dX0_takeBack_74 : decode cX0_takeBack 74 = .ok (.ireturn, 1) := by decide +kernel
theorem dX0_takeBack_75 : decode cX0_takeBack 75 = .ok (.iinc 4 1, 3) := by decide +kernel
theorem dX0_takeBack_78 : decode cX0_takeBack 78 = .ok (.iinc 8 1, 3) := by decide +kernel
theorem dX0_takeBack_81 : decode cX0_takeBack 81 = .ok (.goto (-34), 3) := by decide +kernel
theorem dX0_takeBack_84 : decode cX0_takeBack 84 = .ok (.iinc 6 1, 3) := by decide +kernel
theorem dX0_takeBack_87 : decode cX0_takeBack 87 = .ok (.goto (-63), 3) := by decide +kernel
theorem dX0_takeBack_90 : decode cX0_takeBack 90 = .ok (.iinc 5 1, 3) := by decide +kernel
theorem dX0_takeBack_93 : decode cX0_takeBack 93 = .ok (.goto (-81), 3) := by decide +kernel
theorem dX0_takeBack_96 : decode cX0_takeBack 96 = .ok (.iload 4, 2) := by decide +kernel
theorem dX0_takeBack_98 : decode cX0_takeBack 98 = .ok (.ireturn, 1) := by decide +kernel
theorem dX0_want_0 : decode cX0_want 0 = .ok (.iload_n 1, 1) := by decide +kernel
theorem dX0_want_1 : decode cX0_want 1 = .ok (.ifCond .lt 19, 3) := by decide +kernel
theorem dX0_want_4 : decode cX0_want 4 = .ok (.iload_n 1, 1) := by decide +kernel
theorem dX0_want_5 : decode cX0_want 5 = .ok (.iconst 4, 1) := by decide +kernel
theorem dX0_want_6 : decode cX0_want 6 = .ok (.if_icmp .ge 14, 3) := by decide +kernel
theorem dX0_want_9 : decode cX0_want 9 = .ok (.aload_n 0, 1) := by decide +kernel
theorem dX0_want_10 : decode cX0_want 10 = .ok (.getfield 15, 3) := by decide +kernel
theorem dX0_want_13 : decode cX0_want 13 = .ok (.iload_n 1, 1) := by decide +kernel
theorem dX0_want_14 : decode cX0_want 14 = .ok (.iconst 0, 1) := by decide +kernel
theorem dX0_want_15 : decode cX0_want 15 = .ok (.iload_n 2, 1) := by decide +kernel
theorem dX0_want_16 : decode cX0_want 16 = .ok (.invokestatic 60, 3) := by decide +kernel
theorem dX0_want_19 : decode cX0_want 19 = .ok (.iastore, 1) := by decide +kernel
theorem dX0_want_20 : decode cX0_want 20 = .ok (.return_, 1) := by decide +kernel
theorem dX0_fewestOf_0 : decode cX0_fewestOf 0 = .ok (.iconst 1, 1) := by decide +kernel
theorem dX0_fewestOf_1 : decode cX0_fewestOf 1 = .ok (.istore_n 3, 1) := by decide +kernel
theorem dX0_fewestOf_2 : decode cX0_fewestOf 2 = .ok (.iconst 0, 1) := by decide +kernel
theorem dX0_fewestOf_3 : decode cX0_fewestOf 3 = .ok (.istore 4, 2) := by decide +kernel
theorem dX0_fewestOf_5 : decode cX0_fewestOf 5 = .ok (.iload 4, 2) := by decide +kernel
theorem dX0_fewestOf_7 : decode cX0_fewestOf 7 = .ok (.iconst 4, 1) := by decide +kernel
theorem dX0_fewestOf_8 : decode cX0_fewestOf 8 = .ok (.if_icmp .ge 21, 3) := by decide +kernel
theorem dX0_fewestOf_11 : decode cX0_fewestOf 11 = .ok (.iload_n 3, 1) := by decide +kernel
theorem dX0_fewestOf_12 : decode cX0_fewestOf 12 = .ok (.aload_n 0, 1) := by decide +kernel
theorem dX0_fewestOf_13 : decode cX0_fewestOf 13 = .ok (.getfield 15, 3) := by decide +kernel
theorem dX0_fewestOf_16 : decode cX0_fewestOf 16 = .ok (.iload 4, 2) := by decide +kernel
theorem dX0_fewestOf_18 : decode cX0_fewestOf 18 = .ok (.iaload, 1) := by decide +kernel
theorem dX0_fewestOf_19 : decode cX0_fewestOf 19 = .ok (.iconst 1, 1) := by decide +kernel
theorem dX0_fewestOf_20 : decode cX0_fewestOf 20 = .ok (.iadd, 1) := by decide +kernel
theorem dX0_fewestOf_21 : decode cX0_fewestOf 21 = .ok (.imul, 1) := by decide +kernel
theorem dX0_fewestOf_22 : decode cX0_fewestOf 22 = .ok (.istore_n 3, 1) := by decide +kernel
theorem dX0_fewestOf_23 : decode cX0_fewestOf 23 = .ok (.iinc 4 1, 3) := by decide +kernel
theorem dX0_fewestOf_26 : decode cX0_fewestOf 26 = .ok (.goto (-21), 3) := by decide +kernel
theorem dX0_fewestOf_29 : decode cX0_fewestOf 29 = .ok (.iload_n 3, 1) := by decide +kernel
theorem dX0_fewestOf_30 : decode cX0_fewestOf 30 = .ok (.iconst 1, 1) := by decide +kernel
theorem dX0_fewestOf_31 : decode cX0_fewestOf 31 = .ok (.if_icmp .lt 10, 3) := by decide +kernel
theorem dX0_fewestOf_34 : decode cX0_fewestOf 34 = .ok (.iload_n 3, 1) := by decide +kernel
theorem dX0_fewestOf_35 : decode cX0_fewestOf 35 = .ok (.sipush 2401, 3) := by decide +kernel
theorem dX0_fewestOf_38 : decode cX0_fewestOf 38 = .ok (.if_icmp .le 5, 3) := by decide +kernel
theorem dX0_fewestOf_41 : decode cX0_fewestOf 41 = .ok (.iconst 0, 1) := by decide +kernel
theorem dX0_fewestOf_42 : decode cX0_fewestOf 42 = .ok (.ireturn, 1) := by decide +kernel
theorem dX0_fewestOf_43 : decode cX0_fewestOf 43 = .ok (.aload_n 0, 1) := by decide +kernel
theorem dX0_fewestOf_44 : decode cX0_fewestOf 44 = .ok (.getfield 18, 3) := by decide +kernel
theorem dX0_fewestOf_47 : decode cX0_fewestOf 47 = .ok (.iconst 0, 1) := by decide +kernel
theorem dX0_fewestOf_48 : decode cX0_fewestOf 48 = .ok (.iload_n 2, 1) := by decide +kernel
theorem dX0_fewestOf_49 : decode cX0_fewestOf 49 = .ok (.iastore, 1) := by decide +kernel
theorem dX0_fewestOf_50 : decode cX0_fewestOf 50 = .ok (.iconst 1, 1) := by decide +kernel
theorem dX0_fewestOf_51 : decode cX0_fewestOf 51 = .ok (.istore 4, 2) := by decide +kernel
theorem dX0_fewestOf_53 : decode cX0_fewestOf 53 = .ok (.iload 4, 2) := by decide +kernel
theorem dX0_fewestOf_55 : decode cX0_fewestOf 55 = .ok (.iload_n 3, 1) := by decide +kernel
theorem dX0_fewestOf_56 : decode cX0_fewestOf 56 = .ok (.if_icmp .ge 24, 3) := by decide +kernel
theorem dX0_fewestOf_59 : decode cX0_fewestOf 59 = .ok (.aload_n 0, 1) := by decide +kernel
theorem dX0_fewestOf_60 : decode cX0_fewestOf 60 = .ok (.getfield 18, 3) := by decide +kernel
theorem dX0_fewestOf_63 : decode cX0_fewestOf 63 = .ok (.iload 4, 2) := by decide +kernel
theorem dX0_fewestOf_65 : decode cX0_fewestOf 65 = .ok (.aload_n 0, 1) := by decide +kernel
theorem dX0_fewestOf_66 : decode cX0_fewestOf 66 = .ok (.aload_n 1, 1) := by decide +kernel
theorem dX0_fewestOf_67 : decode cX0_fewestOf 67 = .ok (.iload 4, 2) := by decide +kernel
theorem dX0_fewestOf_69 : decode cX0_fewestOf 69 = .ok (.iload_n 2, 1) := by decide +kernel
theorem dX0_fewestOf_70 : decode cX0_fewestOf 70 = .ok (.invokevirtual 63, 3) := by decide +kernel
theorem dX0_fewestOf_73 : decode cX0_fewestOf 73 = .ok (.iastore, 1) := by decide +kernel
theorem dX0_fewestOf_74 : decode cX0_fewestOf 74 = .ok (.iinc 4 1, 3) := by decide +kernel
theorem dX0_fewestOf_77 : decode cX0_fewestOf 77 = .ok (.goto (-24), 3) := by decide +kernel
theorem dX0_fewestOf_80 : decode cX0_fewestOf 80 = .ok (.aload_n 0, 1) := by decide +kernel
theorem dX0_fewestOf_81 : decode cX0_fewestOf 81 = .ok (.getfield 18, 3) := by decide +kernel
theorem dX0_fewestOf_84 : decode cX0_fewestOf 84 = .ok (.iload_n 3, 1) := by decide +kernel
theorem dX0_fewestOf_85 : decode cX0_fewestOf 85 = .ok (.iconst 1, 1) := by decide +kernel
theorem dX0_fewestOf_86 : decode cX0_fewestOf 86 = .ok (.isub, 1) := by decide +kernel
theorem dX0_fewestOf_87 : decode cX0_fewestOf 87 = .ok (.iaload, 1) := by decide +kernel
theorem dX0_fewestOf_88 : decode cX0_fewestOf 88 = .ok (.bipush 64, 2) := by decide +kernel
theorem dX0_fewestOf_90 : decode cX0_fewestOf 90 = .ok (.idiv, 1) := by decide +kernel
theorem dX0_fewestOf_91 : decode cX0_fewestOf 91 = .ok (.ireturn, 1) := by decide +kernel
theorem dX0_bestFilling_0 : decode cX0_bestFilling 0 = .ok (.ldc 67, 2) := by decide +kernel
theorem dX0_bestFilling_2 : decode cX0_bestFilling 2 = .ok (.istore 4, 2) := by decide +kernel
theorem dX0_bestFilling_4 : decode cX0_bestFilling 4 = .ok (.iconst 1, 1) := by decide +kernel
theorem dX0_bestFilling_5 : decode cX0_bestFilling 5 = .ok (.istore 5, 2) := by decide +kernel
theorem dX0_bestFilling_7 : decode cX0_bestFilling 7 = .ok (.iconst 0, 1) := by decide +kernel
theorem dX0_bestFilling_8 : decode cX0_bestFilling 8 = .ok (.istore 6, 2) := by decide +kernel
theorem dX0_bestFilling_10 : decode cX0_bestFilling 10 = .ok (.iload 6, 2) := by decide +kernel
theorem dX0_bestFilling_12 : decode cX0_bestFilling 12 = .ok (.iconst 4, 1) := by decide +kernel
theorem dX0_bestFilling_13 : decode cX0_bestFilling 13 = .ok (.if_icmp .ge 121, 3) := by decide +kernel
theorem dX0_bestFilling_16 : decode cX0_bestFilling 16 = .ok (.iload_n 2, 1) := by decide +kernel
theorem dX0_bestFilling_17 : decode cX0_bestFilling 17 = .ok (.iload 5, 2) := by decide +kernel
theorem dX0_bestFilling_19 : decode cX0_bestFilling 19 = .ok (.idiv, 1) := by decide +kernel
theorem dX0_bestFilling_20 : decode cX0_bestFilling 20 = .ok (.aload_n 0, 1) := by decide +kernel
theorem dX0_bestFilling_21 : decode cX0_bestFilling 21 = .ok (.getfield 15, 3) := by decide +kernel
theorem dX0_bestFilling_24 : decode cX0_bestFilling 24 = .ok (.iload 6, 2) := by decide +kernel
theorem dX0_bestFilling_26 : decode cX0_bestFilling 26 = .ok (.iaload, 1) := by decide +kernel
theorem dX0_bestFilling_27 : decode cX0_bestFilling 27 = .ok (.iconst 1, 1) := by decide +kernel
theorem dX0_bestFilling_28 : decode cX0_bestFilling 28 = .ok (.iadd, 1) := by decide +kernel
theorem dX0_bestFilling_29 : decode cX0_bestFilling 29 = .ok (.irem, 1) := by decide +kernel
theorem dX0_bestFilling_30 : decode cX0_bestFilling 30 = .ok (.istore 7, 2) := by decide +kernel
theorem dX0_bestFilling_32 : decode cX0_bestFilling 32 = .ok (.iload 7, 2) := by decide +kernel
theorem dX0_bestFilling_34 : decode cX0_bestFilling 34 = .ok (.ifCond .le 80, 3) := by decide +kernel
theorem dX0_bestFilling_37 : decode cX0_bestFilling 37 = .ok (.aload_n 0, 1) := by decide +kernel
theorem dX0_bestFilling_38 : decode cX0_bestFilling 38 = .ok (.getfield 18, 3) := by decide +kernel
theorem dX0_bestFilling_41 : decode cX0_bestFilling 41 = .ok (.iload_n 2, 1) := by decide +kernel
theorem dX0_bestFilling_42 : decode cX0_bestFilling 42 = .ok (.iload 5, 2) := by decide +kernel
theorem dX0_bestFilling_44 : decode cX0_bestFilling 44 = .ok (.isub, 1) := by decide +kernel
theorem dX0_bestFilling_45 : decode cX0_bestFilling 45 = .ok (.iaload, 1) := by decide +kernel
theorem dX0_bestFilling_46 : decode cX0_bestFilling 46 = .ok (.istore 8, 2) := by decide +kernel
theorem dX0_bestFilling_48 : decode cX0_bestFilling 48 = .ok (.aload_n 1, 1) := by decide +kernel
theorem dX0_bestFilling_49 : decode cX0_bestFilling 49 = .ok (.iconst 2, 1) := by decide +kernel
theorem dX0_bestFilling_50 : decode cX0_bestFilling 50 = .ok (.iload 6, 2) := by decide +kernel
theorem dX0_bestFilling_52 : decode cX0_bestFilling 52 = .ok (.iconst 0, 1) := by decide +kernel
theorem dX0_bestFilling_53 : decode cX0_bestFilling 53 = .ok (.invokevirtual 21, 3) := by decide +kernel
theorem dX0_bestFilling_56 : decode cX0_bestFilling 56 = .ok (.istore 9, 2) := by decide +kernel
theorem dX0_bestFilling_58 : decode cX0_bestFilling 58 = .ok (.iload 8, 2) := by decide +kernel
theorem dX0_bestFilling_60 : decode cX0_bestFilling 60 = .ok (.bipush 64, 2) := by decide +kernel
theorem dX0_bestFilling_62 : decode cX0_bestFilling 62 = .ok (.irem, 1) := by decide +kernel
theorem dX0_bestFilling_63 : decode cX0_bestFilling 63 = .ok (.iload 9, 2) := by decide +kernel
theorem dX0_bestFilling_65 : decode cX0_bestFilling 65 = .ok (.iadd, 1) := by decide +kernel
theorem dX0_bestFilling_66 : decode cX0_bestFilling 66 = .ok (.iload_n 3, 1) := by decide +kernel
theorem dX0_bestFilling_67 : decode cX0_bestFilling 67 = .ok (.if_icmp .gt 7, 3) := by decide +kernel
theorem dX0_bestFilling_70 : decode cX0_bestFilling 70 = .ok (.iconst 1, 1) := by decide +kernel
theorem dX0_bestFilling_71 : decode cX0_bestFilling 71 = .ok (.goto 4, 3) := by decide +kernel
theorem dX0_bestFilling_74 : decode cX0_bestFilling 74 = .ok (.iconst 0, 1) := by decide +kernel
theorem dX0_bestFilling_75 : decode cX0_bestFilling 75 = .ok (.istore 10, 2) := by decide +kernel
theorem dX0_bestFilling_77 : decode cX0_bestFilling 77 = .ok (.iload 10, 2) := by decide +kernel
theorem dX0_bestFilling_79 : decode cX0_bestFilling 79 = .ok (.ifCond .eq 11, 3) := by decide +kernel
theorem dX0_bestFilling_82 : decode cX0_bestFilling 82 = .ok (.iload 8, 2) := by decide +kernel
theorem dX0_bestFilling_84 : decode cX0_bestFilling 84 = .ok (.iload 9, 2) := by decide +kernel
theorem dX0_bestFilling_86 : decode cX0_bestFilling 86 = .ok (.iadd, 1) := by decide +kernel
theorem dX0_bestFilling_87 : decode cX0_bestFilling 87 = .ok (.goto 16, 3) := by decide +kernel
theorem dX0_bestFilling_90 : decode cX0_bestFilling 90 = .ok (.iload 8, 2) := by decide +kernel
theorem dX0_bestFilling_92 : decode cX0_bestFilling 92 = .ok (.bipush 64, 2) := by decide +kernel
theorem dX0_bestFilling_94 : decode cX0_bestFilling 94 = .ok (.idiv, 1) := by decide +kernel
theorem dX0_bestFilling_95 : decode cX0_bestFilling 95 = .ok (.iconst 1, 1) := by decide +kernel
theorem dX0_bestFilling_96 : decode cX0_bestFilling 96 = .ok (.iadd, 1) := by decide +kernel
theorem dX0_bestFilling_97 : decode cX0_bestFilling 97 = .ok (.bipush 64, 2) := by decide +kernel
theorem dX0_bestFilling_99 : decode cX0_bestFilling 99 = .ok (.imul, 1) := by decide +kernel
theorem dX0_bestFilling_100 : decode cX0_bestFilling 100 = .ok (.iload 9, 2) := by decide +kernel
theorem dX0_bestFilling_102 : decode cX0_bestFilling 102 = .ok (.iadd, 1) := by decide +kernel
theorem dX0_bestFilling_103 : decode cX0_bestFilling 103 = .ok (.istore 11, 2) := by decide +kernel
theorem dX0_bestFilling_105 : decode cX0_bestFilling 105 = .ok (.iload 4, 2) := by decide +kernel
theorem dX0_bestFilling_107 : decode cX0_bestFilling 107 = .ok (.iload 11, 2) := by decide +kernel
theorem dX0_bestFilling_109 : decode cX0_bestFilling 109 = .ok (.invokestatic 27, 3) := by decide +kernel
theorem dX0_bestFilling_112 : decode cX0_bestFilling 112 = .ok (.istore 4, 2) := by decide +kernel
theorem dX0_bestFilling_114 : decode cX0_bestFilling 114 = .ok (.iload 5, 2) := by decide +kernel
theorem dX0_bestFilling_116 : decode cX0_bestFilling 116 = .ok (.aload_n 0, 1) := by decide +kernel
theorem dX0_bestFilling_117 : decode cX0_bestFilling 117 = .ok (.getfield 15, 3) := by decide +kernel
theorem dX0_bestFilling_120 : decode cX0_bestFilling 120 = .ok (.iload 6, 2) := by decide +kernel
theorem dX0_bestFilling_122 : decode cX0_bestFilling 122 = .ok (.iaload, 1) := by decide +kernel
theorem dX0_bestFilling_123 : decode cX0_bestFilling 123 = .ok (.iconst 1, 1) := by decide +kernel
theorem dX0_bestFilling_124 : decode cX0_bestFilling 124 = .ok (.iadd, 1) := by decide +kernel
theorem dX0_bestFilling_125 : decode cX0_bestFilling 125 = .ok (.imul, 1) := by decide +kernel
theorem dX0_bestFilling_126 : decode cX0_bestFilling 126 = .ok (.istore 5, 2) := by decide +kernel
theorem dX0_bestFilling_128 : decode cX0_bestFilling 128 = .ok (.iinc 6 1, 3) := by decide +kernel
theorem dX0_bestFilling_131 : decode cX0_bestFilling 131 = .ok (.goto (-121), 3) := by decide +kernel
theorem dX0_bestFilling_134 : decode cX0_bestFilling 134 = .ok (.iload 4, 2) := by decide +kernel
theorem dX0_bestFilling_136 : decode cX0_bestFilling 136 = .ok (.ireturn, 1) := by decide +kernel
