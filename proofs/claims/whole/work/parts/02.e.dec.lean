theorem dX1_init_0 : decode cX1_init 0 = .ok (.aload_n 0, 1) := by decide +kernel
theorem dX1_init_1 : decode cX1_init 1 = .ok (.invokespecial 3, 3) := by decide +kernel
theorem dX1_init_4 : decode cX1_init 4 = .ok (.aload_n 0, 1) := by decide +kernel
theorem dX1_init_5 : decode cX1_init 5 = .ok (.bipush 13, 2) := by decide +kernel
theorem dX1_init_7 : decode cX1_init 7 = .ok (.newarray .int, 2) := by decide +kernel
theorem dX1_init_9 : decode cX1_init 9 = .ok (.putfield 9, 3) := by decide +kernel
theorem dX1_init_12 : decode cX1_init 12 = .ok (.aload_n 0, 1) := by decide +kernel
theorem dX1_init_13 : decode cX1_init 13 = .ok (.sipush 1248, 3) := by decide +kernel
theorem dX1_init_16 : decode cX1_init 16 = .ok (.newarray .int, 2) := by decide +kernel
theorem dX1_init_18 : decode cX1_init 18 = .ok (.putfield 15, 3) := by decide +kernel
theorem dX1_init_21 : decode cX1_init 21 = .ok (.aload_n 0, 1) := by decide +kernel
theorem dX1_init_22 : decode cX1_init 22 = .ok (.bipush 41, 2) := by decide +kernel
theorem dX1_init_24 : decode cX1_init 24 = .ok (.newarray .int, 2) := by decide +kernel
theorem dX1_init_26 : decode cX1_init 26 = .ok (.putfield 18, 3) := by decide +kernel
theorem dX1_init_29 : decode cX1_init 29 = .ok (.aload_n 0, 1) := by decide +kernel
theorem dX1_init_30 : decode cX1_init 30 = .ok (.bipush 41, 2) := by decide +kernel
theorem dX1_init_32 : decode cX1_init 32 = .ok (.newarray .int, 2) := by decide +kernel
theorem dX1_init_34 : decode cX1_init 34 = .ok (.putfield 21, 3) := by decide +kernel
theorem dX1_init_37 : decode cX1_init 37 = .ok (.aload_n 0, 1) := by decide +kernel
theorem dX1_init_38 : decode cX1_init 38 = .ok (.bipush 8, 2) := by decide +kernel
theorem dX1_init_40 : decode cX1_init 40 = .ok (.newarray .int, 2) := by decide +kernel
theorem dX1_init_42 : decode cX1_init 42 = .ok (.putfield 24, 3) := by decide +kernel
theorem dX1_init_45 : decode cX1_init 45 = .ok (.return_, 1) := by decide +kernel
theorem dX1_forget_0 : decode cX1_forget 0 = .ok (.aload_n 0, 1) := by decide +kernel
theorem dX1_forget_1 : decode cX1_forget 1 = .ok (.getfield 9, 3) := by decide +kernel
theorem dX1_forget_4 : decode cX1_forget 4 = .ok (.iconst 0, 1) := by decide +kernel
theorem dX1_forget_5 : decode cX1_forget 5 = .ok (.invokestatic 27, 3) := by decide +kernel
theorem dX1_forget_8 : decode cX1_forget 8 = .ok (.return_, 1) := by decide +kernel
theorem dX1_lacks_0 : decode cX1_lacks 0 = .ok (.aload_n 0, 1) := by decide +kernel
theorem dX1_lacks_1 : decode cX1_lacks 1 = .ok (.getfield 9, 3) := by decide +kernel
theorem dX1_lacks_4 : decode cX1_lacks 4 = .ok (.iconst 0, 1) := by decide +kernel
theorem dX1_lacks_5 : decode cX1_lacks 5 = .ok (.iaload, 1) := by decide +kernel
theorem dX1_lacks_6 : decode cX1_lacks 6 = .ok (.ifCond .eq 30, 3) := by decide +kernel
theorem dX1_lacks_9 : decode cX1_lacks 9 = .ok (.aload_n 0, 1) := by decide +kernel
theorem dX1_lacks_10 : decode cX1_lacks 10 = .ok (.getfield 9, 3) := by decide +kernel
theorem dX1_lacks_13 : decode cX1_lacks 13 = .ok (.iconst 1, 1) := by decide +kernel
theorem dX1_lacks_14 : decode cX1_lacks 14 = .ok (.iaload, 1) := by decide +kernel
theorem dX1_lacks_15 : decode cX1_lacks 15 = .ok (.ifCond .eq 21, 3) := by decide +kernel
theorem dX1_lacks_18 : decode cX1_lacks 18 = .ok (.aload_n 0, 1) := by decide +kernel
theorem dX1_lacks_19 : decode cX1_lacks 19 = .ok (.getfield 9, 3) := by decide +kernel
theorem dX1_lacks_22 : decode cX1_lacks 22 = .ok (.iconst 2, 1) := by decide +kernel
theorem dX1_lacks_23 : decode cX1_lacks 23 = .ok (.iaload, 1) := by decide +kernel
theorem dX1_lacks_24 : decode cX1_lacks 24 = .ok (.ifCond .eq 12, 3) := by decide +kernel
theorem dX1_lacks_27 : decode cX1_lacks 27 = .ok (.aload_n 0, 1) := by decide +kernel
theorem dX1_lacks_28 : decode cX1_lacks 28 = .ok (.getfield 9, 3) := by decide +kernel
theorem dX1_lacks_31 : decode cX1_lacks 31 = .ok (.iconst 5, 1) := by decide +kernel
theorem dX1_lacks_32 : decode cX1_lacks 32 = .ok (.iaload, 1) := by decide +kernel
theorem dX1_lacks_33 : decode cX1_lacks 33 = .ok (.ifCond .ne 7, 3) := by decide +kernel
theorem dX1_lacks_36 : decode cX1_lacks 36 = .ok (.iconst 1, 1) := by decide +kernel
theorem dX1_lacks_37 : decode cX1_lacks 37 = .ok (.goto 4, 3) := by decide +kernel
theorem dX1_lacks_40 : decode cX1_lacks 40 = .ok (.iconst 0, 1) := by decide +kernel
theorem dX1_lacks_41 : decode cX1_lacks 41 = .ok (.ireturn, 1) := by decide +kernel
theorem dX1_count_0 : decode cX1_count 0 = .ok (.iload_n 1, 1) := by decide +kernel
theorem dX1_count_1 : decode cX1_count 1 = .ok (.ifCond .lt 18, 3) := by decide +kernel
theorem dX1_count_4 : decode cX1_count 4 = .ok (.iload_n 1, 1) := by decide +kernel
theorem dX1_count_5 : decode cX1_count 5 = .ok (.bipush 13, 2) := by decide +kernel
theorem dX1_count_7 : decode cX1_count 7 = .ok (.if_icmp .ge 12, 3) := by decide +kernel
theorem dX1_count_10 : decode cX1_count 10 = .ok (.aload_n 0, 1) := by decide +kernel
theorem dX1_count_11 : decode cX1_count 11 = .ok (.getfield 9, 3) := by decide +kernel
theorem dX1_count_14 : decode cX1_count 14 = .ok (.iload_n 1, 1) := by decide +kernel
theorem dX1_count_15 : decode cX1_count 15 = .ok (.iaload, 1) := by decide +kernel
theorem dX1_count_16 : decode cX1_count 16 = .ok (.goto 4, 3) := by decide +kernel
theorem dX1_count_19 : decode cX1_count 19 = .ok (.iconst 0, 1) := by decide +kernel
theorem dX1_count_20 : decode cX1_count 20 = .ok (.ireturn, 1) := by decide +kernel
theorem dX1_isFull_0 : decode cX1_isFull 0 = .ok (.iload_n 1, 1) := by decide +kernel
theorem dX1_isFull_1 : decode cX1_isFull 1 = .ok (.ifCond .lt 23, 3) := by decide +kernel
theorem dX1_isFull_4 : decode cX1_isFull 4 = .ok (.iload_n 1, 1) := by decide +kernel
theorem dX1_isFull_5 : decode cX1_isFull 5 = .ok (.bipush 13, 2) := by decide +kernel
theorem dX1_isFull_7 : decode cX1_isFull 7 = .ok (.if_icmp .ge 17, 3) := by decide +kernel
theorem dX1_isFull_10 : decode cX1_isFull 10 = .ok (.aload_n 0, 1) := by decide +kernel
theorem dX1_isFull_11 : decode cX1_isFull 11 = .ok (.getfield 9, 3) := by decide +kernel
theorem dX1_isFull_14 : decode cX1_isFull 14 = .ok (.iload_n 1, 1) := by decide +kernel
theorem dX1_isFull_15 : decode cX1_isFull 15 = .ok (.iaload, 1) := by decide +kernel
theorem dX1_isFull_16 : decode cX1_isFull 16 = .ok (.getstatic 33, 3) := by decide +kernel
theorem dX1_isFull_19 : decode cX1_isFull 19 = .ok (.iload_n 1, 1) := by decide +kernel
theorem dX1_isFull_20 : decode cX1_isFull 20 = .ok (.iaload, 1) := by decide +kernel
theorem dX1_isFull_21 : decode cX1_isFull 21 = .ok (.if_icmp .lt 7, 3) := by decide +kernel
theorem dX1_isFull_24 : decode cX1_isFull 24 = .ok (.iconst 1, 1) := by decide +kernel
theorem dX1_isFull_25 : decode cX1_isFull 25 = .ok (.goto 4, 3) := by decide +kernel
theorem dX1_isFull_28 : decode cX1_isFull 28 = .ok (.iconst 0, 1) := by decide +kernel
theorem dX1_isFull_29 : decode cX1_isFull 29 = .ok (.ireturn, 1) := by decide +kernel
theorem dX1_open_0 : decode cX1_open 0 = .ok (.iconst 0, 1) := by decide +kernel
theorem dX1_open_1 : decode cX1_open 1 = .ok (.istore_n 2, 1) := by decide +kernel
theorem dX1_open_2 : decode cX1_open 2 = .ok (.iload_n 2, 1) := by decide +kernel
theorem dX1_open_3 : decode cX1_open 3 = .ok (.bipush 12, 2) := by decide +kernel
theorem dX1_open_5 : decode cX1_open 5 = .ok (.if_icmp .ge 16, 3) := by decide +kernel
theorem dX1_open_8 : decode cX1_open 8 = .ok (.aload_n 0, 1) := by decide +kernel
theorem dX1_open_9 : decode cX1_open 9 = .ok (.iload_n 1, 1) := by decide +kernel
theorem dX1_open_10 : decode cX1_open 10 = .ok (.iload_n 2, 1) := by decide +kernel
theorem dX1_open_11 : decode cX1_open 11 = .ok (.iconst 0, 1) := by decide +kernel
theorem dX1_open_12 : decode cX1_open 12 = .ok (.invokevirtual 36, 3) := by decide +kernel
theorem dX1_open_15 : decode cX1_open 15 = .ok (.iinc 2 1, 3) := by decide +kernel
theorem dX1_open_18 : decode cX1_open 18 = .ok (.goto (-16), 3) := by decide +kernel
theorem dX1_open_21 : decode cX1_open 21 = .ok (.return_, 1) := by decide +kernel
theorem dX1_put_0 : decode cX1_put 0 = .ok (.iload_n 1, 1) := by decide +kernel
theorem dX1_put_1 : decode cX1_put 1 = .ok (.ifCond .lt 19, 3) := by decide +kernel
theorem dX1_put_4 : decode cX1_put 4 = .ok (.iload_n 1, 1) := by decide +kernel
theorem dX1_put_5 : decode cX1_put 5 = .ok (.bipush 13, 2) := by decide +kernel
theorem dX1_put_7 : decode cX1_put 7 = .ok (.if_icmp .ge 13, 3) := by decide +kernel
theorem dX1_put_10 : decode cX1_put 10 = .ok (.iload_n 2, 1) := by decide +kernel
theorem dX1_put_11 : decode cX1_put 11 = .ok (.ifCond .lt 9, 3) := by decide +kernel
theorem dX1_put_14 : decode cX1_put 14 = .ok (.iload_n 2, 1) := by decide +kernel
theorem dX1_put_15 : decode cX1_put 15 = .ok (.bipush 12, 2) := by decide +kernel
theorem dX1_put_17 : decode cX1_put 17 = .ok (.if_icmp .lt 4, 3) := by decide +kernel
theorem dX1_put_20 : decode cX1_put 20 = .ok (.return_, 1) := by decide +kernel
theorem dX1_put_21 : decode cX1_put 21 = .ok (.aload_n 0, 1) := by decide +kernel
theorem dX1_put_22 : decode cX1_put 22 = .ok (.getfield 9, 3) := by decide +kernel
theorem dX1_put_25 : decode cX1_put 25 = .ok (.iload_n 1, 1) := by decide +kernel
theorem dX1_put_26 : decode cX1_put 26 = .ok (.iaload, 1) := by decide +kernel
theorem dX1_put_27 : decode cX1_put 27 = .ok (.istore 4, 2) := by decide +kernel
theorem dX1_put_29 : decode cX1_put 29 = .ok (.iload 4, 2) := by decide +kernel
theorem dX1_put_31 : decode cX1_put 31 = .ok (.ifCond .lt 28, 3) := by decide +kernel
theorem dX1_put_34 : decode cX1_put 34 = .ok (.iload 4, 2) := by decide +kernel
theorem dX1_put_36 : decode cX1_put 36 = .ok (.bipush 8, 2) := by decide +kernel
theorem dX1_put_38 : decode cX1_put 38 = .ok (.if_icmp .ge 21, 3) := by decide +kernel
theorem dX1_put_41 : decode cX1_put 41 = .ok (.aload_n 0, 1) := by decide +kernel
theorem dX1_put_42 : decode cX1_put 42 = .ok (.getfield 15, 3) := by decide +kernel
theorem dX1_put_45 : decode cX1_put 45 = .ok (.iload_n 1, 1) := by decide +kernel
theorem dX1_put_46 : decode cX1_put 46 = .ok (.bipush 8, 2) := by decide +kernel
theorem dX1_put_48 : decode cX1_put 48 = .ok (.imul, 1) := by decide +kernel
theorem dX1_put_49 : decode cX1_put 49 = .ok (.iload 4, 2) := by decide +kernel
theorem dX1_put_51 : decode cX1_put 51 = .ok (.iadd, 1) := by decide +kernel
theorem dX1_put_52 : decode cX1_put 52 = .ok (.bipush 12, 2) := by decide +kernel
theorem dX1_put_54 : decode cX1_put 54 = .ok (.imul, 1) := by decide +kernel
theorem dX1_put_55 : decode cX1_put 55 = .ok (.iload_n 2, 1) := by decide +kernel
theorem dX1_put_56 : decode cX1_put 56 = .ok (.iadd, 1) := by decide +kernel
theorem dX1_put_57 : decode cX1_put 57 = .ok (.iload_n 3, 1) := by decide +kernel
theorem dX1_put_58 : decode cX1_put 58 = .ok (.iastore, 1) := by decide +kernel
theorem dX1_put_59 : decode cX1_put 59 = .ok (.return_, 1) := by decide +kernel
theorem dX1_close_0 : decode cX1_close 0 = .ok (.aload_n 0, 1) := by decide +kernel
theorem dX1_close_1 : decode cX1_close 1 = .ok (.iload_n 1, 1) := by decide +kernel
theorem dX1_close_2 : decode cX1_close 2 = .ok (.invokevirtual 40, 3) := by decide +kernel
theorem dX1_close_5 : decode cX1_close 5 = .ok (.ifCond .ne 13, 3) := by decide +kernel
theorem dX1_close_8 : decode cX1_close 8 = .ok (.aload_n 0, 1) := by decide +kernel
theorem dX1_close_9 : decode cX1_close 9 = .ok (.getfield 9, 3) := by decide +kernel
theorem dX1_close_12 : decode cX1_close 12 = .ok (.iload_n 1, 1) := by decide +kernel
theorem dX1_close_13 : decode cX1_close 13 = .ok (.dup2, 1) := by decide +kernel
theorem dX1_close_14 : decode cX1_close 14 = .ok (.iaload, 1) := by decide +kernel
theorem dX1_close_15 : decode cX1_close 15 = .ok (.iconst 1, 1) := by decide +kernel
theorem dX1_close_16 : decode cX1_close 16 = .ok (.iadd, 1) := by decide +kernel
theorem dX1_close_17 : decode cX1_close 17 = .ok (.iastore, 1) := by decide +kernel
theorem dX1_close_18 : decode cX1_close 18 = .ok (.return_, 1) := by decide +kernel
theorem dX1_get_0 : decode cX1_get 0 = .ok (.iload_n 1, 1) := by decide +kernel
theorem dX1_get_1 : decode cX1_get 1 = .ok (.ifCond .lt 29, 3) := by decide +kernel
theorem dX1_get_4 : decode cX1_get 4 = .ok (.iload_n 1, 1) := by decide +kernel
theorem dX1_get_5 : decode cX1_get 5 = .ok (.bipush 13, 2) := by decide +kernel
theorem dX1_get_7 : decode cX1_get 7 = .ok (.if_icmp .ge 23, 3) := by decide +kernel
theorem dX1_get_10 : decode cX1_get 10 = .ok (.iload_n 2, 1) := by decide +kernel
theorem dX1_get_11 : decode cX1_get 11 = .ok (.ifCond .lt 19, 3) := by decide +kernel
theorem dX1_get_14 : decode cX1_get 14 = .ok (.iload_n 2, 1) := by decide +kernel
theorem dX1_get_15 : decode cX1_get 15 = .ok (.bipush 8, 2) := by decide +kernel
theorem dX1_get_17 : decode cX1_get 17 = .ok (.if_icmp .ge 13, 3) := by decide +kernel
theorem dX1_get_20 : decode cX1_get 20 = .ok (.iload_n 3, 1) := by decide +kernel
theorem dX1_get_21 : decode cX1_get 21 = .ok (.ifCond .lt 9, 3) := by decide +kernel
theorem dX1_get_24 : decode cX1_get 24 = .ok (.iload_n 3, 1) := by decide +kernel
theorem dX1_get_25 : decode cX1_get 25 = .ok (.bipush 12, 2) := by decide +kernel
theorem dX1_get_27 : decode cX1_get 27 = .ok (.if_icmp .lt 5, 3) := by decide +kernel
theorem dX1_get_30 : decode cX1_get 30 = .ok (.iconst 0, 1) := by decide +kernel
theorem dX1_get_31 : decode cX1_get 31 = .ok (.ireturn, 1) := by decide +kernel
theorem dX1_get_32 : decode cX1_get 32 = .ok (.aload_n 0, 1) := by decide +kernel
theorem dX1_get_33 : decode cX1_get 33 = .ok (.getfield 15, 3) := by decide +kernel
theorem dX1_get_36 : decode cX1_get 36 = .ok (.iload_n 1, 1) := by decide +kernel
theorem dX1_get_37 : decode cX1_get 37 = .ok (.bipush 8, 2) := by decide +kernel
theorem dX1_get_39 : decode cX1_get 39 = .ok (.imul, 1) := by decide +kernel
theorem dX1_get_40 : decode cX1_get 40 = .ok (.iload_n 2, 1) := by decide +kernel
theorem dX1_get_41 : decode cX1_get 41 = .ok (.iadd, 1) := by decide +kernel
theorem dX1_get_42 : decode cX1_get 42 = .ok (.bipush 12, 2) := by decide +kernel
theorem dX1_get_44 : decode cX1_get 44 = .ok (.imul, 1) := by decide +kernel
theorem dX1_get_45 : decode cX1_get 45 = .ok (.iload_n 3, 1) := by decide +kernel
theorem dX1_get_46 : decode cX1_get 46 = .ok (.iadd, 1) := by decide +kernel
theorem dX1_get_47 : decode cX1_get 47 = .ok (.iaload, 1) := by decide +kernel
theorem dX1_get_48 : decode cX1_get 48 = .ok (.ireturn, 1) := by decide +kernel
theorem dX1_addLiking_0 : decode cX1_addLiking 0 = .ok (.aload_n 0, 1) := by decide +kernel
theorem dX1_addLiking_1 : decode cX1_addLiking 1 = .ok (.bipush 7, 2) := by decide +kernel
theorem dX1_addLiking_3 : decode cX1_addLiking 3 = .ok (.aload_n 0, 1) := by decide +kernel
theorem dX1_addLiking_4 : decode cX1_addLiking 4 = .ok (.bipush 7, 2) := by decide +kernel
theorem dX1_addLiking_6 : decode cX1_addLiking 6 = .ok (.invokevirtual 44, 3) := by decide +kernel
theorem dX1_addLiking_9 : decode cX1_addLiking 9 = .ok (.iconst 3, 1) := by decide +kernel
theorem dX1_addLiking_10 : decode cX1_addLiking 10 = .ok (.invokevirtual 48, 3) := by decide +kernel
theorem dX1_addLiking_13 : decode cX1_addLiking 13 = .ok (.istore_n 3, 1) := by decide +kernel
theorem dX1_addLiking_14 : decode cX1_addLiking 14 = .ok (.aload_n 0, 1) := by decide +kernel
theorem dX1_addLiking_15 : decode cX1_addLiking 15 = .ok (.bipush 7, 2) := by decide +kernel
theorem dX1_addLiking_17 : decode cX1_addLiking 17 = .ok (.iconst 4, 1) := by decide +kernel
theorem dX1_addLiking_18 : decode cX1_addLiking 18 = .ok (.iconst 2, 1) := by decide +kernel
theorem dX1_addLiking_19 : decode cX1_addLiking 19 = .ok (.iload_n 3, 1) := by decide +kernel
theorem dX1_addLiking_20 : decode cX1_addLiking 20 = .ok (.imul, 1) := by decide +kernel
theorem dX1_addLiking_21 : decode cX1_addLiking 21 = .ok (.iadd, 1) := by decide +kernel
theorem dX1_addLiking_22 : decode cX1_addLiking 22 = .ok (.iload_n 1, 1) := by decide +kernel
theorem dX1_addLiking_23 : decode cX1_addLiking 23 = .ok (.invokevirtual 36, 3) := by decide +kernel
theorem dX1_addLiking_26 : decode cX1_addLiking 26 = .ok (.aload_n 0, 1) := by decide +kernel
theorem dX1_addLiking_27 : decode cX1_addLiking 27 = .ok (.bipush 7, 2) := by decide +kernel
theorem dX1_addLiking_29 : decode cX1_addLiking 29 = .ok (.iconst 4, 1) := by decide +kernel
theorem dX1_addLiking_30 : decode cX1_addLiking 30 = .ok (.iconst 2, 1) := by decide +kernel
theorem dX1_addLiking_31 : decode cX1_addLiking 31 = .ok (.iload_n 3, 1) := by decide +kernel
theorem dX1_addLiking_32 : decode cX1_addLiking 32 = .ok (.imul, 1) := by decide +kernel
theorem dX1_addLiking_33 : decode cX1_addLiking 33 = .ok (.iadd, 1) := by decide +kernel
theorem dX1_addLiking_34 : decode cX1_addLiking 34 = .ok (.iconst 1, 1) := by decide +kernel
theorem dX1_addLiking_35 : decode cX1_addLiking 35 = .ok (.iadd, 1) := by decide +kernel
theorem dX1_addLiking_36 : decode cX1_addLiking 36 = .ok (.iload_n 2, 1) := by decide +kernel
theorem dX1_addLiking_37 : decode cX1_addLiking 37 = .ok (.invokevirtual 36, 3) := by decide +kernel
theorem dX1_addLiking_40 : decode cX1_addLiking 40 = .ok (.aload_n 0, 1) := by decide +kernel
theorem dX1_addLiking_41 : decode cX1_addLiking 41 = .ok (.bipush 7, 2) := by decide +kernel
theorem dX1_addLiking_43 : decode cX1_addLiking 43 = .ok (.iconst 3, 1) := by decide +kernel
theorem dX1_addLiking_44 : decode cX1_addLiking 44 = .ok (.iload_n 3, 1) := by decide +kernel
theorem dX1_addLiking_45 : decode cX1_addLiking 45 = .ok (.iconst 1, 1) := by decide +kernel
theorem dX1_addLiking_46 : decode cX1_addLiking 46 = .ok (.iadd, 1) := by decide +kernel
theorem dX1_addLiking_47 : decode cX1_addLiking 47 = .ok (.invokevirtual 36, 3) := by decide +kernel
theorem dX1_addLiking_50 : decode cX1_addLiking 50 = .ok (.return_, 1) := by decide +kernel
theorem dX1_weightIn_0 : decode cX1_weightIn 0 = .ok (.aload_n 0, 1) := by decide +kernel
theorem dX1_weightIn_1 : decode cX1_weightIn 1 = .ok (.bipush 7, 2) := by decide +kernel
theorem dX1_weightIn_3 : decode cX1_weightIn 3 = .ok (.iload_n 1, 1) := by decide +kernel
theorem dX1_weightIn_4 : decode cX1_weightIn 4 = .ok (.iconst 3, 1) := by decide +kernel
theorem dX1_weightIn_5 : decode cX1_weightIn 5 = .ok (.invokevirtual 48, 3) := by decide +kernel
theorem dX1_weightIn_8 : decode cX1_weightIn 8 = .ok (.istore_n 3, 1) := by decide +kernel
theorem dX1_weightIn_9 : decode cX1_weightIn 9 = .ok (.iconst 0, 1) := by decide +kernel
theorem dX1_weightIn_10 : decode cX1_weightIn 10 = .ok (.istore 4, 2) := by decide +kernel
theorem dX1_weightIn_12 : decode cX1_weightIn 12 = .ok (.iload 4, 2) := by decide +kernel
theorem dX1_weightIn_14 : decode cX1_weightIn 14 = .ok (.iload_n 3, 1) := by decide +kernel
theorem dX1_weightIn_15 : decode cX1_weightIn 15 = .ok (.if_icmp .ge 48, 3) := by decide +kernel
theorem dX1_weightIn_18 : decode cX1_weightIn 18 = .ok (.iload 4, 2) := by decide +kernel
theorem dX1_weightIn_20 : decode cX1_weightIn 20 = .ok (.iconst 4, 1) := by decide +kernel
theorem dX1_weightIn_21 : decode cX1_weightIn 21 = .ok (.if_icmp .ge 42, 3) := by decide +kernel
theorem dX1_weightIn_24 : decode cX1_weightIn 24 = .ok (.aload_n 0, 1) := by decide +kernel
theorem dX1_weightIn_25 : decode cX1_weightIn 25 = .ok (.bipush 7, 2) := by decide +kernel
theorem dX1_weightIn_27 : decode cX1_weightIn 27 = .ok (.iload_n 1, 1) := by decide +kernel
theorem dX1_weightIn_28 : decode cX1_weightIn 28 = .ok (.iconst 4, 1) := by decide +kernel
theorem dX1_weightIn_29 : decode cX1_weightIn 29 = .ok (.iconst 2, 1) := by decide +kernel
theorem dX1_weightIn_30 : decode cX1_weightIn 30 = .ok (.iload 4, 2) := by decide +kernel
theorem dX1_weightIn_32 : decode cX1_weightIn 32 = .ok (.imul, 1) := by decide +kernel
theorem dX1_weightIn_33 : decode cX1_weightIn 33 = .ok (.iadd, 1) := by decide +kernel
theorem dX1_weightIn_34 : decode cX1_weightIn 34 = .ok (.invokevirtual 48, 3) := by decide +kernel
theorem dX1_weightIn_37 : decode cX1_weightIn 37 = .ok (.iload_n 2, 1) := by decide +kernel
theorem dX1_weightIn_38 : decode cX1_weightIn 38 = .ok (.if_icmp .ne 19, 3) := by decide +kernel
theorem dX1_weightIn_41 : decode cX1_weightIn 41 = .ok (.aload_n 0, 1) := by decide +kernel
theorem dX1_weightIn_42 : decode cX1_weightIn 42 = .ok (.bipush 7, 2) := by decide +kernel
theorem dX1_weightIn_44 : decode cX1_weightIn 44 = .ok (.iload_n 1, 1) := by decide +kernel
theorem dX1_weightIn_45 : decode cX1_weightIn 45 = .ok (.iconst 4, 1) := by decide +kernel
theorem dX1_weightIn_46 : decode cX1_weightIn 46 = .ok (.iconst 2, 1) := by decide +kernel
theorem dX1_weightIn_47 : decode cX1_weightIn 47 = .ok (.iload 4, 2) := by decide +kernel
theorem dX1_weightIn_49 : decode cX1_weightIn 49 = .ok (.imul, 1) := by decide +kernel
theorem dX1_weightIn_50 : decode cX1_weightIn 50 = .ok (.iadd, 1) := by decide +kernel
theorem dX1_weightIn_51 : decode cX1_weightIn 51 = .ok (.iconst 1, 1) := by decide +kernel
theorem dX1_weightIn_52 : decode cX1_weightIn 52 = .ok (.iadd, 1) := by decide +kernel
theorem dX1_weightIn_53 : decode cX1_weightIn 53 = .ok (.invokevirtual 48, 3) := by decide +kernel
theorem dX1_weightIn_56 : decode cX1_weightIn 56 = .ok (.ireturn, 1) := by decide +kernel
theorem dX1_weightIn_57 : decode cX1_weightIn 57 = .ok (.iinc 4 1, 3) := by decide +kernel
theorem dX1_weightIn_60 : decode cX1_weightIn 60 = .ok (.goto (-48), 3) := by decide +kernel
theorem dX1_weightIn_63 : decode cX1_weightIn 63 = .ok (.iconst 0, 1) := by decide +kernel
theorem dX1_weightIn_64 : decode cX1_weightIn 64 = .ok (.ireturn, 1) := by decide +kernel
theorem dX1_settle_0 : decode cX1_settle 0 = .ok (.aload_n 0, 1) := by decide +kernel
theorem dX1_settle_1 : decode cX1_settle 1 = .ok (.getfield 24, 3) := by decide +kernel
theorem dX1_settle_4 : decode cX1_settle 4 = .ok (.iconst 0, 1) := by decide +kernel
theorem dX1_settle_5 : decode cX1_settle 5 = .ok (.invokestatic 27, 3) := by decide +kernel
theorem dX1_settle_8 : decode cX1_settle 8 = .ok (.iconst 0, 1) := by decide +kernel
theorem dX1_settle_9 : decode cX1_settle 9 = .ok (.istore_n 1, 1) := by decide +kernel
theorem dX1_settle_10 : decode cX1_settle 10 = .ok (.iload_n 1, 1) := by decide +kernel
theorem dX1_settle_11 : decode cX1_settle 11 = .ok (.aload_n 0, 1) := by decide +kernel
theorem dX1_settle_12 : decode cX1_settle 12 = .ok (.getfield 9, 3) := by decide +kernel
theorem dX1_settle_15 : decode cX1_settle 15 = .ok (.bipush 6, 2) := by decide +kernel
theorem dX1_settle_17 : decode cX1_settle 17 = .ok (.iaload, 1) := by decide +kernel
theorem dX1_settle_18 : decode cX1_settle 18 = .ok (.if_icmp .ge 59, 3) := by decide +kernel
theorem dX1_settle_21 : decode cX1_settle 21 = .ok (.aload_n 0, 1) := by decide +kernel
theorem dX1_settle_22 : decode cX1_settle 22 = .ok (.bipush 6, 2) := by decide +kernel
theorem dX1_settle_24 : decode cX1_settle 24 = .ok (.iload_n 1, 1) := by decide +kernel
theorem dX1_settle_25 : decode cX1_settle 25 = .ok (.iconst 0, 1) := by decide +kernel
theorem dX1_settle_26 : decode cX1_settle 26 = .ok (.invokevirtual 48, 3) := by decide +kernel
theorem dX1_settle_29 : decode cX1_settle 29 = .ok (.iconst 4, 1) := by decide +kernel
theorem dX1_settle_30 : decode cX1_settle 30 = .ok (.imul, 1) := by decide +kernel
theorem dX1_settle_31 : decode cX1_settle 31 = .ok (.aload_n 0, 1) := by decide +kernel
theorem dX1_settle_32 : decode cX1_settle 32 = .ok (.bipush 6, 2) := by decide +kernel
theorem dX1_settle_34 : decode cX1_settle 34 = .ok (.iload_n 1, 1) := by decide +kernel
theorem dX1_settle_35 : decode cX1_settle 35 = .ok (.iconst 1, 1) := by decide +kernel
theorem dX1_settle_36 : decode cX1_settle 36 = .ok (.invokevirtual 48, 3) := by decide +kernel
theorem dX1_settle_39 : decode cX1_settle 39 = .ok (.iadd, 1) := by decide +kernel
theorem dX1_settle_40 : decode cX1_settle 40 = .ok (.istore_n 2, 1) := by decide +kernel
theorem dX1_settle_41 : decode cX1_settle 41 = .ok (.iload_n 2, 1) := by decide +kernel
theorem dX1_settle_42 : decode cX1_settle 42 = .ok (.ifCond .lt 29, 3) := by decide +kernel
theorem dX1_settle_45 : decode cX1_settle 45 = .ok (.iload_n 2, 1) := by decide +kernel
theorem dX1_settle_46 : decode cX1_settle 46 = .ok (.aload_n 0, 1) := by decide +kernel
theorem dX1_settle_47 : decode cX1_settle 47 = .ok (.getfield 24, 3) := by decide +kernel
theorem dX1_settle_50 : decode cX1_settle 50 = .ok (.arraylength, 1) := by decide +kernel
theorem dX1_settle_51 : decode cX1_settle 51 = .ok (.if_icmp .ge 20, 3) := by decide +kernel
theorem dX1_settle_54 : decode cX1_settle 54 = .ok (.aload_n 0, 1) := by decide +kernel
theorem dX1_settle_55 : decode cX1_settle 55 = .ok (.getfield 24, 3) := by decide +kernel
theorem dX1_settle_58 : decode cX1_settle 58 = .ok (.iload_n 2, 1) := by decide +kernel
theorem dX1_settle_59 : decode cX1_settle 59 = .ok (.dup2, 1) := by decide +kernel
theorem dX1_settle_60 : decode cX1_settle 60 = .ok (.iaload, 1) := by decide +kernel
theorem dX1_settle_61 : decode cX1_settle 61 = .ok (.aload_n 0, 1) := by decide +kernel
theorem dX1_settle_62 : decode cX1_settle 62 = .ok (.bipush 6, 2) := by decide +kernel
theorem dX1_settle_64 : decode cX1_settle 64 = .ok (.iload_n 1, 1) := by decide +kernel
theorem dX1_settle_65 : decode cX1_settle 65 = .ok (.iconst 2, 1) := by decide +kernel
theorem dX1_settle_66 : decode cX1_settle 66 = .ok (.invokevirtual 48, 3) := by decide +kernel
theorem dX1_settle_69 : decode cX1_settle 69 = .ok (.iadd, 1) := by decide +kernel
theorem dX1_settle_70 : decode cX1_settle 70 = .ok (.iastore, 1) := by decide +kernel
theorem dX1_settle_71 : decode cX1_settle 71 = .ok (.iinc 1 1, 3) := by decide +kernel
theorem dX1_settle_74 : decode cX1_settle 74 = .ok (.goto (-64), 3) := by decide +kernel
theorem dX1_settle_77 : decode cX1_settle 77 = .ok (.iconst 1, 1) := by decide +kernel
theorem dX1_settle_78 : decode cX1_settle 78 = .ok (.istore_n 1, 1) := by decide +kernel
theorem dX1_settle_79 : decode cX1_settle 79 = .ok (.iload_n 1, 1) := by decide +kernel
theorem dX1_settle_80 : decode cX1_settle 80 = .ok (.bipush 40, 2) := by decide +kernel
theorem dX1_settle_82 : decode cX1_settle 82 = .ok (.if_icmp .gt 47, 3) := by decide +kernel
theorem dX1_settle_85 : decode cX1_settle 85 = .ok (.aload_n 0, 1) := by decide +kernel
theorem dX1_settle_86 : decode cX1_settle 86 = .ok (.getfield 18, 3) := by decide +kernel
theorem dX1_settle_89 : decode cX1_settle 89 = .ok (.iload_n 1, 1) := by decide +kernel
theorem dX1_settle_90 : decode cX1_settle 90 = .ok (.aload_n 0, 1) := by decide +kernel
theorem dX1_settle_91 : decode cX1_settle 91 = .ok (.iload_n 1, 1) := by decide +kernel
theorem dX1_settle_92 : decode cX1_settle 92 = .ok (.invokevirtual 52, 3) := by decide +kernel
theorem dX1_settle_95 : decode cX1_settle 95 = .ok (.iastore, 1) := by decide +kernel
theorem dX1_settle_96 : decode cX1_settle 96 = .ok (.aload_n 0, 1) := by decide +kernel
theorem dX1_settle_97 : decode cX1_settle 97 = .ok (.getfield 21, 3) := by decide +kernel
theorem dX1_settle_100 : decode cX1_settle 100 = .ok (.iload_n 1, 1) := by decide +kernel
theorem dX1_settle_101 : decode cX1_settle 101 = .ok (.aload_n 0, 1) := by decide +kernel
theorem dX1_settle_102 : decode cX1_settle 102 = .ok (.bipush 7, 2) := by decide +kernel
theorem dX1_settle_104 : decode cX1_settle 104 = .ok (.aload_n 0, 1) := by decide +kernel
theorem dX1_settle_105 : decode cX1_settle 105 = .ok (.getfield 18, 3) := by decide +kernel
theorem dX1_settle_108 : decode cX1_settle 108 = .ok (.iload_n 1, 1) := by decide +kernel
theorem dX1_settle_109 : decode cX1_settle 109 = .ok (.iaload, 1) := by decide +kernel
theorem dX1_settle_110 : decode cX1_settle 110 = .ok (.iconst 2, 1) := by decide +kernel
theorem dX1_settle_111 : decode cX1_settle 111 = .ok (.invokevirtual 48, 3) := by decide +kernel
theorem dX1_settle_114 : decode cX1_settle 114 = .ok (.aload_n 0, 1) := by decide +kernel
theorem dX1_settle_115 : decode cX1_settle 115 = .ok (.iload_n 1, 1) := by decide +kernel
theorem dX1_settle_116 : decode cX1_settle 116 = .ok (.invokevirtual 55, 3) := by decide +kernel
theorem dX1_settle_119 : decode cX1_settle 119 = .ok (.invokestatic 58, 3) := by decide +kernel
theorem dX1_settle_122 : decode cX1_settle 122 = .ok (.iastore, 1) := by decide +kernel
theorem dX1_settle_123 : decode cX1_settle 123 = .ok (.iinc 1 1, 3) := by decide +kernel
theorem dX1_settle_126 : decode cX1_settle 126 = .ok (.goto (-47), 3) := by decide +kernel
theorem dX1_settle_129 : decode cX1_settle 129 = .ok (.return_, 1) := by decide +kernel
theorem dX1_latestBlock_0 : decode cX1_latestBlock 0 = .ok (.aload_n 0, 1) := by decide +kernel
theorem dX1_latestBlock_1 : decode cX1_latestBlock 1 = .ok (.getfield 9, 3) := by decide +kernel
theorem dX1_latestBlock_4 : decode cX1_latestBlock 4 = .ok (.bipush 7, 2) := by decide +kernel
theorem dX1_latestBlock_6 : decode cX1_latestBlock 6 = .ok (.iaload, 1) := by decide +kernel
theorem dX1_latestBlock_7 : decode cX1_latestBlock 7 = .ok (.iconst 1, 1) := by decide +kernel
theorem dX1_latestBlock_8 : decode cX1_latestBlock 8 = .ok (.isub, 1) := by decide +kernel
theorem dX1_latestBlock_9 : decode cX1_latestBlock 9 = .ok (.istore_n 2, 1) := by decide +kernel
theorem dX1_latestBlock_10 : decode cX1_latestBlock 10 = .ok (.iload_n 2, 1) := by decide +kernel
theorem dX1_latestBlock_11 : decode cX1_latestBlock 11 = .ok (.ifCond .lt 35, 3) := by decide +kernel
theorem dX1_latestBlock_14 : decode cX1_latestBlock 14 = .ok (.iload_n 1, 1) := by decide +kernel
theorem dX1_latestBlock_15 : decode cX1_latestBlock 15 = .ok (.aload_n 0, 1) := by decide +kernel
theorem dX1_latestBlock_16 : decode cX1_latestBlock 16 = .ok (.bipush 7, 2) := by decide +kernel
theorem dX1_latestBlock_18 : decode cX1_latestBlock 18 = .ok (.iload_n 2, 1) := by decide +kernel
theorem dX1_latestBlock_19 : decode cX1_latestBlock 19 = .ok (.iconst 0, 1) := by decide +kernel
theorem dX1_latestBlock_20 : decode cX1_latestBlock 20 = .ok (.invokevirtual 48, 3) := by decide +kernel
theorem dX1_latestBlock_23 : decode cX1_latestBlock 23 = .ok (.if_icmp .lt 17, 3) := by decide +kernel
theorem dX1_latestBlock_26 : decode cX1_latestBlock 26 = .ok (.iload_n 1, 1) := by decide +kernel
theorem dX1_latestBlock_27 : decode cX1_latestBlock 27 = .ok (.aload_n 0, 1) := by decide +kernel
theorem dX1_latestBlock_28 : decode cX1_latestBlock 28 = .ok (.bipush 7, 2) := by decide +kernel
theorem dX1_latestBlock_30 : decode cX1_latestBlock 30 = .ok (.iload_n 2, 1) := by decide +kernel
theorem dX1_latestBlock_31 : decode cX1_latestBlock 31 = .ok (.iconst 1, 1) := by decide +kernel
theorem dX1_latestBlock_32 : decode cX1_latestBlock 32 = .ok (.invokevirtual 48, 3) := by decide +kernel
theorem dX1_latestBlock_35 : decode cX1_latestBlock 35 = .ok (.if_icmp .gt 5, 3) := by decide +kernel
theorem dX1_latestBlock_38 : decode cX1_latestBlock 38 = .ok (.iload_n 2, 1) := by decide +kernel
theorem dX1_latestBlock_39 : decode cX1_latestBlock 39 = .ok (.ireturn, 1) := by decide +kernel
theorem dX1_latestBlock_40 : decode cX1_latestBlock 40 = .ok (.iinc 2 (-1), 3) := by decide +kernel
theorem dX1_latestBlock_43 : decode cX1_latestBlock 43 = .ok (.goto (-33), 3) := by decide +kernel
theorem dX1_latestBlock_46 : decode cX1_latestBlock 46 = .ok (.iconst (-1), 1) := by decide +kernel
theorem dX1_latestBlock_47 : decode cX1_latestBlock 47 = .ok (.ireturn, 1) := by decide +kernel
theorem dX1_namedIn_0 : decode cX1_namedIn 0 = .ok (.iconst 0, 1) := by decide +kernel
theorem dX1_namedIn_1 : decode cX1_namedIn 1 = .ok (.istore_n 2, 1) := by decide +kernel
theorem dX1_namedIn_2 : decode cX1_namedIn 2 = .ok (.iconst 0, 1) := by decide +kernel
theorem dX1_namedIn_3 : decode cX1_namedIn 3 = .ok (.istore_n 3, 1) := by decide +kernel
theorem dX1_namedIn_4 : decode cX1_namedIn 4 = .ok (.iload_n 3, 1) := by decide +kernel
theorem dX1_namedIn_5 : decode cX1_namedIn 5 = .ok (.aload_n 0, 1) := by decide +kernel
theorem dX1_namedIn_6 : decode cX1_namedIn 6 = .ok (.getfield 9, 3) := by decide +kernel
theorem dX1_namedIn_9 : decode cX1_namedIn 9 = .ok (.bipush 8, 2) := by decide +kernel
theorem dX1_namedIn_11 : decode cX1_namedIn 11 = .ok (.iaload, 1) := by decide +kernel
theorem dX1_namedIn_12 : decode cX1_namedIn 12 = .ok (.if_icmp .ge 24, 3) := by decide +kernel
theorem dX1_namedIn_15 : decode cX1_namedIn 15 = .ok (.aload_n 0, 1) := by decide +kernel
theorem dX1_namedIn_16 : decode cX1_namedIn 16 = .ok (.bipush 8, 2) := by decide +kernel
theorem dX1_namedIn_18 : decode cX1_namedIn 18 = .ok (.iload_n 3, 1) := by decide +kernel
theorem dX1_namedIn_19 : decode cX1_namedIn 19 = .ok (.iconst 0, 1) := by decide +kernel
theorem dX1_namedIn_20 : decode cX1_namedIn 20 = .ok (.invokevirtual 48, 3) := by decide +kernel
theorem dX1_namedIn_23 : decode cX1_namedIn 23 = .ok (.iload_n 1, 1) := by decide +kernel
theorem dX1_namedIn_24 : decode cX1_namedIn 24 = .ok (.if_icmp .ne 6, 3) := by decide +kernel
theorem dX1_namedIn_27 : decode cX1_namedIn 27 = .ok (.iinc 2 1, 3) := by decide +kernel
theorem dX1_namedIn_30 : decode cX1_namedIn 30 = .ok (.iinc 3 1, 3) := by decide +kernel
theorem dX1_namedIn_33 : decode cX1_namedIn 33 = .ok (.goto (-29), 3) := by decide +kernel
theorem dX1_namedIn_36 : decode cX1_namedIn 36 = .ok (.iload_n 2, 1) := by decide +kernel
theorem dX1_namedIn_37 : decode cX1_namedIn 37 = .ok (.ireturn, 1) := by decide +kernel
theorem dX1_rows_0 : decode cX1_rows 0 = .ok (.aload_n 0, 1) := by decide +kernel
theorem dX1_rows_1 : decode cX1_rows 1 = .ok (.getfield 9, 3) := by decide +kernel
theorem dX1_rows_4 : decode cX1_rows 4 = .ok (.iconst 0, 1) := by decide +kernel
theorem dX1_rows_5 : decode cX1_rows 5 = .ok (.iaload, 1) := by decide +kernel
theorem dX1_rows_6 : decode cX1_rows 6 = .ok (.ifCond .ne 7, 3) := by decide +kernel
theorem dX1_rows_9 : decode cX1_rows 9 = .ok (.iconst 0, 1) := by decide +kernel
theorem dX1_rows_10 : decode cX1_rows 10 = .ok (.goto 10, 3) := by decide +kernel
theorem dX1_rows_13 : decode cX1_rows 13 = .ok (.aload_n 0, 1) := by decide +kernel
theorem dX1_rows_14 : decode cX1_rows 14 = .ok (.iconst 0, 1) := by decide +kernel
theorem dX1_rows_15 : decode cX1_rows 15 = .ok (.iconst 0, 1) := by decide +kernel
theorem dX1_rows_16 : decode cX1_rows 16 = .ok (.iconst 0, 1) := by decide +kernel
theorem dX1_rows_17 : decode cX1_rows 17 = .ok (.invokevirtual 48, 3) := by decide +kernel
theorem dX1_rows_20 : decode cX1_rows 20 = .ok (.ireturn, 1) := by decide +kernel
theorem dX1_walk_0 : decode cX1_walk 0 = .ok (.aload_n 0, 1) := by decide +kernel
theorem dX1_walk_1 : decode cX1_walk 1 = .ok (.iconst 0, 1) := by decide +kernel
theorem dX1_walk_2 : decode cX1_walk 2 = .ok (.iconst 0, 1) := by decide +kernel
theorem dX1_walk_3 : decode cX1_walk 3 = .ok (.iconst 1, 1) := by decide +kernel
theorem dX1_walk_4 : decode cX1_walk 4 = .ok (.invokevirtual 48, 3) := by decide +kernel
theorem dX1_walk_7 : decode cX1_walk 7 = .ok (.ireturn, 1) := by decide +kernel
theorem dX1_serve_0 : decode cX1_serve 0 = .ok (.aload_n 0, 1) := by decide +kernel
theorem dX1_serve_1 : decode cX1_serve 1 = .ok (.iconst 0, 1) := by decide +kernel
theorem dX1_serve_2 : decode cX1_serve 2 = .ok (.iconst 0, 1) := by decide +kernel
theorem dX1_serve_3 : decode cX1_serve 3 = .ok (.iconst 2, 1) := by decide +kernel
theorem dX1_serve_4 : decode cX1_serve 4 = .ok (.invokevirtual 48, 3) := by decide +kernel
theorem dX1_serve_7 : decode cX1_serve 7 = .ok (.ireturn, 1) := by decide +kernel
theorem dX1_blockOf_0 : decode cX1_blockOf 0 = .ok (.iload_n 1, 1) := by decide +kernel
theorem dX1_blockOf_1 : decode cX1_blockOf 1 = .ok (.iconst 1, 1) := by decide +kernel
theorem dX1_blockOf_2 : decode cX1_blockOf 2 = .ok (.if_icmp .lt 18, 3) := by decide +kernel
theorem dX1_blockOf_5 : decode cX1_blockOf 5 = .ok (.iload_n 1, 1) := by decide +kernel
theorem dX1_blockOf_6 : decode cX1_blockOf 6 = .ok (.bipush 40, 2) := by decide +kernel
theorem dX1_blockOf_8 : decode cX1_blockOf 8 = .ok (.if_icmp .gt 12, 3) := by decide +kernel
theorem dX1_blockOf_11 : decode cX1_blockOf 11 = .ok (.aload_n 0, 1) := by decide +kernel
theorem dX1_blockOf_12 : decode cX1_blockOf 12 = .ok (.getfield 18, 3) := by decide +kernel
theorem dX1_blockOf_15 : decode cX1_blockOf 15 = .ok (.iload_n 1, 1) := by decide +kernel
theorem dX1_blockOf_16 : decode cX1_blockOf 16 = .ok (.iaload, 1) := by decide +kernel
theorem dX1_blockOf_17 : decode cX1_blockOf 17 = .ok (.goto 4, 3) := by decide +kernel
theorem dX1_blockOf_20 : decode cX1_blockOf 20 = .ok (.iconst (-1), 1) := by decide +kernel
theorem dX1_blockOf_21 : decode cX1_blockOf 21 = .ok (.ireturn, 1) := by decide +kernel
theorem dX1_sitting_0 : decode cX1_sitting 0 = .ok (.iload_n 1, 1) := by decide +kernel
theorem dX1_sitting_1 : decode cX1_sitting 1 = .ok (.iconst 1, 1) := by decide +kernel
theorem dX1_sitting_2 : decode cX1_sitting 2 = .ok (.if_icmp .lt 18, 3) := by decide +kernel
theorem dX1_sitting_5 : decode cX1_sitting 5 = .ok (.iload_n 1, 1) := by decide +kernel
theorem dX1_sitting_6 : decode cX1_sitting 6 = .ok (.bipush 40, 2) := by decide +kernel
theorem dX1_sitting_8 : decode cX1_sitting 8 = .ok (.if_icmp .gt 12, 3) := by decide +kernel
theorem dX1_sitting_11 : decode cX1_sitting 11 = .ok (.aload_n 0, 1) := by decide +kernel
theorem dX1_sitting_12 : decode cX1_sitting 12 = .ok (.getfield 21, 3) := by decide +kernel
theorem dX1_sitting_15 : decode cX1_sitting 15 = .ok (.iload_n 1, 1) := by decide +kernel
theorem dX1_sitting_16 : decode cX1_sitting 16 = .ok (.iaload, 1) := by decide +kernel
theorem dX1_sitting_17 : decode cX1_sitting 17 = .ok (.goto 4, 3) := by decide +kernel
theorem dX1_sitting_20 : decode cX1_sitting 20 = .ok (.iconst 0, 1) := by decide +kernel
theorem dX1_sitting_21 : decode cX1_sitting 21 = .ok (.ireturn, 1) := by decide +kernel
theorem dX1_sittingWithin_0 : decode cX1_sittingWithin 0 = .ok (.iconst 0, 1) := by decide +kernel
theorem dX1_sittingWithin_1 : decode cX1_sittingWithin 1 = .ok (.istore_n 3, 1) := by decide +kernel
theorem dX1_sittingWithin_2 : decode cX1_sittingWithin 2 = .ok (.iload_n 1, 1) := by decide +kernel
theorem dX1_sittingWithin_3 : decode cX1_sittingWithin 3 = .ok (.istore 4, 2) := by decide +kernel
theorem dX1_sittingWithin_5 : decode cX1_sittingWithin 5 = .ok (.iload 4, 2) := by decide +kernel
theorem dX1_sittingWithin_7 : decode cX1_sittingWithin 7 = .ok (.iload_n 2, 1) := by decide +kernel
theorem dX1_sittingWithin_8 : decode cX1_sittingWithin 8 = .ok (.if_icmp .gt 25, 3) := by decide +kernel
theorem dX1_sittingWithin_11 : decode cX1_sittingWithin 11 = .ok (.iload 4, 2) := by decide +kernel
theorem dX1_sittingWithin_13 : decode cX1_sittingWithin 13 = .ok (.bipush 40, 2) := by decide +kernel
theorem dX1_sittingWithin_15 : decode cX1_sittingWithin 15 = .ok (.if_icmp .gt 18, 3) := by decide +kernel
theorem dX1_sittingWithin_18 : decode cX1_sittingWithin 18 = .ok (.iload_n 3, 1) := by decide +kernel
theorem dX1_sittingWithin_19 : decode cX1_sittingWithin 19 = .ok (.aload_n 0, 1) := by decide +kernel
theorem dX1_sittingWithin_20 : decode cX1_sittingWithin 20 = .ok (.iload 4, 2) := by decide +kernel
theorem dX1_sittingWithin_22 : decode cX1_sittingWithin 22 = .ok (.invokevirtual 64, 3) := by decide +kernel
theorem dX1_sittingWithin_25 : decode cX1_sittingWithin 25 = .ok (.iadd, 1) := by decide +kernel
theorem dX1_sittingWithin_26 : decode cX1_sittingWithin 26 = .ok (.istore_n 3, 1) := by decide +kernel
theorem dX1_sittingWithin_27 : decode cX1_sittingWithin 27 = .ok (.iinc 4 1, 3) := by decide +kernel
theorem dX1_sittingWithin_30 : decode cX1_sittingWithin 30 = .ok (.goto (-25), 3) := by decide +kernel
theorem dX1_sittingWithin_33 : decode cX1_sittingWithin 33 = .ok (.iload_n 3, 1) := by decide +kernel
theorem dX1_sittingWithin_34 : decode cX1_sittingWithin 34 = .ok (.ireturn, 1) := by decide +kernel
theorem dX1_unnamedIn_0 : decode cX1_unnamedIn 0 = .ok (.aload_n 0, 1) := by decide +kernel
theorem dX1_unnamedIn_1 : decode cX1_unnamedIn 1 = .ok (.iload_n 1, 1) := by decide +kernel
theorem dX1_unnamedIn_2 : decode cX1_unnamedIn 2 = .ok (.invokevirtual 64, 3) := by decide +kernel
theorem dX1_unnamedIn_5 : decode cX1_unnamedIn 5 = .ok (.aload_n 0, 1) := by decide +kernel
theorem dX1_unnamedIn_6 : decode cX1_unnamedIn 6 = .ok (.iload_n 1, 1) := by decide +kernel
theorem dX1_unnamedIn_7 : decode cX1_unnamedIn 7 = .ok (.invokevirtual 55, 3) := by decide +kernel
theorem dX1_unnamedIn_10 : decode cX1_unnamedIn 10 = .ok (.isub, 1) := by decide +kernel
theorem dX1_unnamedIn_11 : decode cX1_unnamedIn 11 = .ok (.ireturn, 1) := by decide +kernel
theorem dX1_isNamedInside_0 : decode cX1_isNamedInside 0 = .ok (.iload_n 1, 1) := by decide +kernel
theorem dX1_isNamedInside_1 : decode cX1_isNamedInside 1 = .ok (.ifCond .lt 33, 3) := by decide +kernel
theorem dX1_isNamedInside_4 : decode cX1_isNamedInside 4 = .ok (.iload_n 1, 1) := by decide +kernel
theorem dX1_isNamedInside_5 : decode cX1_isNamedInside 5 = .ok (.aload_n 0, 1) := by decide +kernel
theorem dX1_isNamedInside_6 : decode cX1_isNamedInside 6 = .ok (.getfield 9, 3) := by decide +kernel
theorem dX1_isNamedInside_9 : decode cX1_isNamedInside 9 = .ok (.bipush 8, 2) := by decide +kernel
theorem dX1_isNamedInside_11 : decode cX1_isNamedInside 11 = .ok (.iaload, 1) := by decide +kernel
theorem dX1_isNamedInside_12 : decode cX1_isNamedInside 12 = .ok (.if_icmp .ge 22, 3) := by decide +kernel
theorem dX1_isNamedInside_15 : decode cX1_isNamedInside 15 = .ok (.aload_n 0, 1) := by decide +kernel
theorem dX1_isNamedInside_16 : decode cX1_isNamedInside 16 = .ok (.bipush 8, 2) := by decide +kernel
theorem dX1_isNamedInside_18 : decode cX1_isNamedInside 18 = .ok (.iload_n 1, 1) := by decide +kernel
theorem dX1_isNamedInside_19 : decode cX1_isNamedInside 19 = .ok (.iconst 0, 1) := by decide +kernel
theorem dX1_isNamedInside_20 : decode cX1_isNamedInside 20 = .ok (.invokevirtual 48, 3) := by decide +kernel
theorem dX1_isNamedInside_23 : decode cX1_isNamedInside 23 = .ok (.aload_n 0, 1) := by decide +kernel
theorem dX1_isNamedInside_24 : decode cX1_isNamedInside 24 = .ok (.invokevirtual 67, 3) := by decide +kernel
theorem dX1_isNamedInside_27 : decode cX1_isNamedInside 27 = .ok (.if_icmp .gt 7, 3) := by decide +kernel
theorem dX1_isNamedInside_30 : decode cX1_isNamedInside 30 = .ok (.iconst 1, 1) := by decide +kernel
theorem dX1_isNamedInside_31 : decode cX1_isNamedInside 31 = .ok (.goto 4, 3) := by decide +kernel
theorem dX1_isNamedInside_34 : decode cX1_isNamedInside 34 = .ok (.iconst 0, 1) := by decide +kernel
theorem dX1_isNamedInside_35 : decode cX1_isNamedInside 35 = .ok (.ireturn, 1) := by decide +kernel
theorem dX1_weight_0 : decode cX1_weight 0 = .ok (.aload_n 0, 1) := by decide +kernel
theorem dX1_weight_1 : decode cX1_weight 1 = .ok (.aload_n 0, 1) := by decide +kernel
theorem dX1_weight_2 : decode cX1_weight 2 = .ok (.iload_n 1, 1) := by decide +kernel
theorem dX1_weight_3 : decode cX1_weight 3 = .ok (.invokevirtual 71, 3) := by decide +kernel
theorem dX1_weight_6 : decode cX1_weight 6 = .ok (.iload_n 2, 1) := by decide +kernel
theorem dX1_weight_7 : decode cX1_weight 7 = .ok (.invokevirtual 74, 3) := by decide +kernel
theorem dX1_weight_10 : decode cX1_weight 10 = .ok (.ireturn, 1) := by decide +kernel
theorem dX1_weights_0 : decode cX1_weights 0 = .ok (.iconst 0, 1) := by decide +kernel
theorem dX1_weights_1 : decode cX1_weights 1 = .ok (.istore_n 2, 1) := by decide +kernel
theorem dX1_weights_2 : decode cX1_weights 2 = .ok (.iconst 0, 1) := by decide +kernel
theorem dX1_weights_3 : decode cX1_weights 3 = .ok (.istore_n 3, 1) := by decide +kernel
theorem dX1_weights_4 : decode cX1_weights 4 = .ok (.iload_n 3, 1) := by decide +kernel
theorem dX1_weights_5 : decode cX1_weights 5 = .ok (.iconst 4, 1) := by decide +kernel
theorem dX1_weights_6 : decode cX1_weights 6 = .ok (.if_icmp .ge 30, 3) := by decide +kernel
theorem dX1_weights_9 : decode cX1_weights 9 = .ok (.iload_n 2, 1) := by decide +kernel
theorem dX1_weights_10 : decode cX1_weights 10 = .ok (.aload_n 0, 1) := by decide +kernel
theorem dX1_weights_11 : decode cX1_weights 11 = .ok (.bipush 7, 2) := by decide +kernel
theorem dX1_weights_13 : decode cX1_weights 13 = .ok (.aload_n 0, 1) := by decide +kernel
theorem dX1_weights_14 : decode cX1_weights 14 = .ok (.iload_n 1, 1) := by decide +kernel
theorem dX1_weights_15 : decode cX1_weights 15 = .ok (.invokevirtual 71, 3) := by decide +kernel
theorem dX1_weights_18 : decode cX1_weights 18 = .ok (.iconst 4, 1) := by decide +kernel
theorem dX1_weights_19 : decode cX1_weights 19 = .ok (.iconst 2, 1) := by decide +kernel
theorem dX1_weights_20 : decode cX1_weights 20 = .ok (.iload_n 3, 1) := by decide +kernel
theorem dX1_weights_21 : decode cX1_weights 21 = .ok (.imul, 1) := by decide +kernel
theorem dX1_weights_22 : decode cX1_weights 22 = .ok (.iadd, 1) := by decide +kernel
theorem dX1_weights_23 : decode cX1_weights 23 = .ok (.iconst 1, 1) := by decide +kernel
theorem dX1_weights_24 : decode cX1_weights 24 = .ok (.iadd, 1) := by decide +kernel
theorem dX1_weights_25 : decode cX1_weights 25 = .ok (.invokevirtual 48, 3) := by decide +kernel
theorem dX1_weights_28 : decode cX1_weights 28 = .ok (.iadd, 1) := by decide +kernel
theorem dX1_weights_29 : decode cX1_weights 29 = .ok (.istore_n 2, 1) := by decide +kernel
theorem dX1_weights_30 : decode cX1_weights 30 = .ok (.iinc 3 1, 3) := by decide +kernel
theorem dX1_weights_33 : decode cX1_weights 33 = .ok (.goto (-29), 3) := by decide +kernel
theorem dX1_weights_36 : decode cX1_weights 36 = .ok (.iload_n 2, 1) := by decide +kernel
theorem dX1_weights_37 : decode cX1_weights 37 = .ok (.ireturn, 1) := by decide +kernel
theorem dX1_likedBy_0 : decode cX1_likedBy 0 = .ok (.aload_n 0, 1) := by decide +kernel
theorem dX1_likedBy_1 : decode cX1_likedBy 1 = .ok (.iload_n 1, 1) := by decide +kernel
theorem dX1_likedBy_2 : decode cX1_likedBy 2 = .ok (.invokevirtual 71, 3) := by decide +kernel
theorem dX1_likedBy_5 : decode cX1_likedBy 5 = .ok (.istore_n 3, 1) := by decide +kernel
theorem dX1_likedBy_6 : decode cX1_likedBy 6 = .ok (.iload_n 2, 1) := by decide +kernel
theorem dX1_likedBy_7 : decode cX1_likedBy 7 = .ok (.istore 4, 2) := by decide +kernel
theorem dX1_likedBy_9 : decode cX1_likedBy 9 = .ok (.iconst 0, 1) := by decide +kernel
theorem dX1_likedBy_10 : decode cX1_likedBy 10 = .ok (.istore 5, 2) := by decide +kernel
theorem dX1_likedBy_12 : decode cX1_likedBy 12 = .ok (.iload 5, 2) := by decide +kernel
theorem dX1_likedBy_14 : decode cX1_likedBy 14 = .ok (.iconst 4, 1) := by decide +kernel
theorem dX1_likedBy_15 : decode cX1_likedBy 15 = .ok (.if_icmp .ge 48, 3) := by decide +kernel
theorem dX1_likedBy_18 : decode cX1_likedBy 18 = .ok (.iload 4, 2) := by decide +kernel
theorem dX1_likedBy_20 : decode cX1_likedBy 20 = .ok (.aload_n 0, 1) := by decide +kernel
theorem dX1_likedBy_21 : decode cX1_likedBy 21 = .ok (.bipush 7, 2) := by decide +kernel
theorem dX1_likedBy_23 : decode cX1_likedBy 23 = .ok (.iload_n 3, 1) := by decide +kernel
theorem dX1_likedBy_24 : decode cX1_likedBy 24 = .ok (.iconst 4, 1) := by decide +kernel
theorem dX1_likedBy_25 : decode cX1_likedBy 25 = .ok (.iconst 2, 1) := by decide +kernel
theorem dX1_likedBy_26 : decode cX1_likedBy 26 = .ok (.iload 5, 2) := by decide +kernel
theorem dX1_likedBy_28 : decode cX1_likedBy 28 = .ok (.imul, 1) := by decide +kernel
theorem dX1_likedBy_29 : decode cX1_likedBy 29 = .ok (.iadd, 1) := by decide +kernel
theorem dX1_likedBy_30 : decode cX1_likedBy 30 = .ok (.iconst 1, 1) := by decide +kernel
theorem dX1_likedBy_31 : decode cX1_likedBy 31 = .ok (.iadd, 1) := by decide +kernel
theorem dX1_likedBy_32 : decode cX1_likedBy 32 = .ok (.invokevirtual 48, 3) := by decide +kernel
theorem dX1_likedBy_35 : decode cX1_likedBy 35 = .ok (.isub, 1) := by decide +kernel
theorem dX1_likedBy_36 : decode cX1_likedBy 36 = .ok (.istore 4, 2) := by decide +kernel
theorem dX1_likedBy_38 : decode cX1_likedBy 38 = .ok (.iload 4, 2) := by decide +kernel
theorem dX1_likedBy_40 : decode cX1_likedBy 40 = .ok (.ifCond .ge 17, 3) := by decide +kernel
theorem dX1_likedBy_43 : decode cX1_likedBy 43 = .ok (.aload_n 0, 1) := by decide +kernel
theorem dX1_likedBy_44 : decode cX1_likedBy 44 = .ok (.bipush 7, 2) := by decide +kernel
theorem dX1_likedBy_46 : decode cX1_likedBy 46 = .ok (.iload_n 3, 1) := by decide +kernel
theorem dX1_likedBy_47 : decode cX1_likedBy 47 = .ok (.iconst 4, 1) := by decide +kernel
theorem dX1_likedBy_48 : decode cX1_likedBy 48 = .ok (.iconst 2, 1) := by decide +kernel
theorem dX1_likedBy_49 : decode cX1_likedBy 49 = .ok (.iload 5, 2) := by decide +kernel
theorem dX1_likedBy_51 : decode cX1_likedBy 51 = .ok (.imul, 1) := by decide +kernel
theorem dX1_likedBy_52 : decode cX1_likedBy 52 = .ok (.iadd, 1) := by decide +kernel
theorem dX1_likedBy_53 : decode cX1_likedBy 53 = .ok (.invokevirtual 48, 3) := by decide +kernel
theorem dX1_likedBy_56 : decode cX1_likedBy 56 = .ok (.ireturn, 1) := by decide +kernel
theorem dX1_likedBy_57 : decode cX1_likedBy 57 = .ok (.iinc 5 1, 3) := by decide +kernel
theorem dX1_likedBy_60 : decode cX1_likedBy 60 = .ok (.goto (-48), 3) := by decide +kernel
theorem dX1_likedBy_63 : decode cX1_likedBy 63 = .ok (.iconst 0, 1) := by decide +kernel
theorem dX1_likedBy_64 : decode cX1_likedBy 64 = .ok (.ireturn, 1) := by decide +kernel
theorem dX1_isFront_0 : decode cX1_isFront 0 = .ok (.aload_n 0, 1) := by decide +kernel
theorem dX1_isFront_1 : decode cX1_isFront 1 = .ok (.iconst 5, 1) := by decide +kernel
theorem dX1_isFront_2 : decode cX1_isFront 2 = .ok (.iload_n 1, 1) := by decide +kernel
theorem dX1_isFront_3 : decode cX1_isFront 3 = .ok (.iconst 0, 1) := by decide +kernel
theorem dX1_isFront_4 : decode cX1_isFront 4 = .ok (.invokevirtual 48, 3) := by decide +kernel
theorem dX1_isFront_7 : decode cX1_isFront 7 = .ok (.ifCond .ne 7, 3) := by decide +kernel
theorem dX1_isFront_10 : decode cX1_isFront 10 = .ok (.iconst 1, 1) := by decide +kernel
theorem dX1_isFront_11 : decode cX1_isFront 11 = .ok (.goto 4, 3) := by decide +kernel
theorem dX1_isFront_14 : decode cX1_isFront 14 = .ok (.iconst 0, 1) := by decide +kernel
theorem dX1_isFront_15 : decode cX1_isFront 15 = .ok (.ireturn, 1) := by decide +kernel
theorem dX1_hasTrolleyFrom_0 : decode cX1_hasTrolleyFrom 0 = .ok (.iconst 0, 1) := by decide +kernel
theorem dX1_hasTrolleyFrom_1 : decode cX1_hasTrolleyFrom 1 = .ok (.istore_n 2, 1) := by decide +kernel
theorem dX1_hasTrolleyFrom_2 : decode cX1_hasTrolleyFrom 2 = .ok (.iload_n 2, 1) := by decide +kernel
theorem dX1_hasTrolleyFrom_3 : decode cX1_hasTrolleyFrom 3 = .ok (.aload_n 0, 1) := by decide +kernel
theorem dX1_hasTrolleyFrom_4 : decode cX1_hasTrolleyFrom 4 = .ok (.getfield 9, 3) := by decide +kernel
theorem dX1_hasTrolleyFrom_7 : decode cX1_hasTrolleyFrom 7 = .ok (.iconst 5, 1) := by decide +kernel
theorem dX1_hasTrolleyFrom_8 : decode cX1_hasTrolleyFrom 8 = .ok (.iaload, 1) := by decide +kernel
theorem dX1_hasTrolleyFrom_9 : decode cX1_hasTrolleyFrom 9 = .ok (.if_icmp .ge 22, 3) := by decide +kernel
theorem dX1_hasTrolleyFrom_12 : decode cX1_hasTrolleyFrom 12 = .ok (.aload_n 0, 1) := by decide +kernel
theorem dX1_hasTrolleyFrom_13 : decode cX1_hasTrolleyFrom 13 = .ok (.iconst 5, 1) := by decide +kernel
theorem dX1_hasTrolleyFrom_14 : decode cX1_hasTrolleyFrom 14 = .ok (.iload_n 2, 1) := by decide +kernel
theorem dX1_hasTrolleyFrom_15 : decode cX1_hasTrolleyFrom 15 = .ok (.iconst 0, 1) := by decide +kernel
theorem dX1_hasTrolleyFrom_16 : decode cX1_hasTrolleyFrom 16 = .ok (.invokevirtual 48, 3) := by decide +kernel
theorem dX1_hasTrolleyFrom_19 : decode cX1_hasTrolleyFrom 19 = .ok (.iload_n 1, 1) := by decide +kernel
theorem dX1_hasTrolleyFrom_20 : decode cX1_hasTrolleyFrom 20 = .ok (.if_icmp .ne 5, 3) := by decide +kernel
theorem dX1_hasTrolleyFrom_23 : decode cX1_hasTrolleyFrom 23 = .ok (.iconst 1, 1) := by decide +kernel
theorem dX1_hasTrolleyFrom_24 : decode cX1_hasTrolleyFrom 24 = .ok (.ireturn, 1) := by decide +kernel
theorem dX1_hasTrolleyFrom_25 : decode cX1_hasTrolleyFrom 25 = .ok (.iinc 2 1, 3) := by decide +kernel
theorem dX1_hasTrolleyFrom_28 : decode cX1_hasTrolleyFrom 28 = .ok (.goto (-26), 3) := by decide +kernel
theorem dX1_hasTrolleyFrom_31 : decode cX1_hasTrolleyFrom 31 = .ok (.iconst 0, 1) := by decide +kernel
theorem dX1_hasTrolleyFrom_32 : decode cX1_hasTrolleyFrom 32 = .ok (.ireturn, 1) := by decide +kernel
theorem dX1_loadOf_0 : decode cX1_loadOf 0 = .ok (.iload_n 1, 1) := by decide +kernel
theorem dX1_loadOf_1 : decode cX1_loadOf 1 = .ok (.iconst 4, 1) := by decide +kernel
theorem dX1_loadOf_2 : decode cX1_loadOf 2 = .ok (.imul, 1) := by decide +kernel
theorem dX1_loadOf_3 : decode cX1_loadOf 3 = .ok (.iload_n 2, 1) := by decide +kernel
theorem dX1_loadOf_4 : decode cX1_loadOf 4 = .ok (.iadd, 1) := by decide +kernel
theorem dX1_loadOf_5 : decode cX1_loadOf 5 = .ok (.istore_n 3, 1) := by decide +kernel
theorem dX1_loadOf_6 : decode cX1_loadOf 6 = .ok (.iload_n 3, 1) := by decide +kernel
theorem dX1_loadOf_7 : decode cX1_loadOf 7 = .ok (.ifCond .lt 21, 3) := by decide +kernel
theorem dX1_loadOf_10 : decode cX1_loadOf 10 = .ok (.iload_n 3, 1) := by decide +kernel
theorem dX1_loadOf_11 : decode cX1_loadOf 11 = .ok (.aload_n 0, 1) := by decide +kernel
theorem dX1_loadOf_12 : decode cX1_loadOf 12 = .ok (.getfield 24, 3) := by decide +kernel
theorem dX1_loadOf_15 : decode cX1_loadOf 15 = .ok (.arraylength, 1) := by decide +kernel
theorem dX1_loadOf_16 : decode cX1_loadOf 16 = .ok (.if_icmp .ge 12, 3) := by decide +kernel
theorem dX1_loadOf_19 : decode cX1_loadOf 19 = .ok (.aload_n 0, 1) := by decide +kernel
theorem dX1_loadOf_20 : decode cX1_loadOf 20 = .ok (.getfield 24, 3) := by decide +kernel
theorem dX1_loadOf_23 : decode cX1_loadOf 23 = .ok (.iload_n 3, 1) := by decide +kernel
theorem dX1_loadOf_24 : decode cX1_loadOf 24 = .ok (.iaload, 1) := by decide +kernel
theorem dX1_loadOf_25 : decode cX1_loadOf 25 = .ok (.goto 4, 3) := by decide +kernel
theorem dX1_loadOf_28 : decode cX1_loadOf 28 = .ok (.iconst 0, 1) := by decide +kernel
theorem dX1_loadOf_29 : decode cX1_loadOf 29 = .ok (.ireturn, 1) := by decide +kernel
theorem dX1_loadOfKind_0 : decode cX1_loadOfKind 0 = .ok (.aload_n 0, 1) := by decide +kernel
theorem dX1_loadOfKind_1 : decode cX1_loadOfKind 1 = .ok (.iconst 0, 1) := by decide +kernel
theorem dX1_loadOfKind_2 : decode cX1_loadOfKind 2 = .ok (.iload_n 1, 1) := by decide +kernel
theorem dX1_loadOfKind_3 : decode cX1_loadOfKind 3 = .ok (.invokevirtual 77, 3) := by decide +kernel
theorem dX1_loadOfKind_6 : decode cX1_loadOfKind 6 = .ok (.aload_n 0, 1) := by decide +kernel
theorem dX1_loadOfKind_7 : decode cX1_loadOfKind 7 = .ok (.iconst 1, 1) := by decide +kernel
theorem dX1_loadOfKind_8 : decode cX1_loadOfKind 8 = .ok (.iload_n 1, 1) := by decide +kernel
theorem dX1_loadOfKind_9 : decode cX1_loadOfKind 9 = .ok (.invokevirtual 77, 3) := by decide +kernel
theorem dX1_loadOfKind_12 : decode cX1_loadOfKind 12 = .ok (.iadd, 1) := by decide +kernel
theorem dX1_loadOfKind_13 : decode cX1_loadOfKind 13 = .ok (.ireturn, 1) := by decide +kernel
theorem dX1_loadOfTrolley_0 : decode cX1_loadOfTrolley 0 = .ok (.iconst 0, 1) := by decide +kernel
theorem dX1_loadOfTrolley_1 : decode cX1_loadOfTrolley 1 = .ok (.istore_n 2, 1) := by decide +kernel
theorem dX1_loadOfTrolley_2 : decode cX1_loadOfTrolley 2 = .ok (.iconst 0, 1) := by decide +kernel
theorem dX1_loadOfTrolley_3 : decode cX1_loadOfTrolley 3 = .ok (.istore_n 3, 1) := by decide +kernel
theorem dX1_loadOfTrolley_4 : decode cX1_loadOfTrolley 4 = .ok (.iload_n 3, 1) := by decide +kernel
theorem dX1_loadOfTrolley_5 : decode cX1_loadOfTrolley 5 = .ok (.iconst 4, 1) := by decide +kernel
theorem dX1_loadOfTrolley_6 : decode cX1_loadOfTrolley 6 = .ok (.if_icmp .ge 18, 3) := by decide +kernel
theorem dX1_loadOfTrolley_9 : decode cX1_loadOfTrolley 9 = .ok (.iload_n 2, 1) := by decide +kernel
theorem dX1_loadOfTrolley_10 : decode cX1_loadOfTrolley 10 = .ok (.aload_n 0, 1) := by decide +kernel
theorem dX1_loadOfTrolley_11 : decode cX1_loadOfTrolley 11 = .ok (.iload_n 1, 1) := by decide +kernel
theorem dX1_loadOfTrolley_12 : decode cX1_loadOfTrolley 12 = .ok (.iload_n 3, 1) := by decide +kernel
theorem dX1_loadOfTrolley_13 : decode cX1_loadOfTrolley 13 = .ok (.invokevirtual 77, 3) := by decide +kernel
theorem dX1_loadOfTrolley_16 : decode cX1_loadOfTrolley 16 = .ok (.iadd, 1) := by decide +kernel
theorem dX1_loadOfTrolley_17 : decode cX1_loadOfTrolley 17 = .ok (.istore_n 2, 1) := by decide +kernel
theorem dX1_loadOfTrolley_18 : decode cX1_loadOfTrolley 18 = .ok (.iinc 3 1, 3) := by decide +kernel
theorem dX1_loadOfTrolley_21 : decode cX1_loadOfTrolley 21 = .ok (.goto (-17), 3) := by decide +kernel
theorem dX1_loadOfTrolley_24 : decode cX1_loadOfTrolley 24 = .ok (.iload_n 2, 1) := by decide +kernel
theorem dX1_loadOfTrolley_25 : decode cX1_loadOfTrolley 25 = .ok (.ireturn, 1) := by decide +kernel
theorem dX1_degrees_0 : decode cX1_degrees 0 = .ok (.iconst 0, 1) := by decide +kernel
theorem dX1_degrees_1 : decode cX1_degrees 1 = .ok (.istore_n 3, 1) := by decide +kernel
theorem dX1_degrees_2 : decode cX1_degrees 2 = .ok (.iconst 0, 1) := by decide +kernel
theorem dX1_degrees_3 : decode cX1_degrees 3 = .ok (.istore 4, 2) := by decide +kernel
theorem dX1_degrees_5 : decode cX1_degrees 5 = .ok (.iload 4, 2) := by decide +kernel
theorem dX1_degrees_7 : decode cX1_degrees 7 = .ok (.aload_n 0, 1) := by decide +kernel
theorem dX1_degrees_8 : decode cX1_degrees 8 = .ok (.getfield 9, 3) := by decide +kernel
theorem dX1_degrees_11 : decode cX1_degrees 11 = .ok (.iconst 3, 1) := by decide +kernel
theorem dX1_degrees_12 : decode cX1_degrees 12 = .ok (.iaload, 1) := by decide +kernel
theorem dX1_degrees_13 : decode cX1_degrees 13 = .ok (.if_icmp .ge 46, 3) := by decide +kernel
theorem dX1_degrees_16 : decode cX1_degrees 16 = .ok (.aload_n 0, 1) := by decide +kernel
theorem dX1_degrees_17 : decode cX1_degrees 17 = .ok (.iconst 3, 1) := by decide +kernel
theorem dX1_degrees_18 : decode cX1_degrees 18 = .ok (.iload 4, 2) := by decide +kernel
theorem dX1_degrees_20 : decode cX1_degrees 20 = .ok (.iconst 1, 1) := by decide +kernel
theorem dX1_degrees_21 : decode cX1_degrees 21 = .ok (.invokevirtual 48, 3) := by decide +kernel
theorem dX1_degrees_24 : decode cX1_degrees 24 = .ok (.istore 5, 2) := by decide +kernel
theorem dX1_degrees_26 : decode cX1_degrees 26 = .ok (.aload_n 0, 1) := by decide +kernel
theorem dX1_degrees_27 : decode cX1_degrees 27 = .ok (.iconst 3, 1) := by decide +kernel
theorem dX1_degrees_28 : decode cX1_degrees 28 = .ok (.iload 4, 2) := by decide +kernel
theorem dX1_degrees_30 : decode cX1_degrees 30 = .ok (.iconst 0, 1) := by decide +kernel
theorem dX1_degrees_31 : decode cX1_degrees 31 = .ok (.invokevirtual 48, 3) := by decide +kernel
theorem dX1_degrees_34 : decode cX1_degrees 34 = .ok (.iload_n 1, 1) := by decide +kernel
theorem dX1_degrees_35 : decode cX1_degrees 35 = .ok (.if_icmp .ne 18, 3) := by decide +kernel
theorem dX1_degrees_38 : decode cX1_degrees 38 = .ok (.iload 5, 2) := by decide +kernel
theorem dX1_degrees_40 : decode cX1_degrees 40 = .ok (.iload_n 2, 1) := by decide +kernel
theorem dX1_degrees_41 : decode cX1_degrees 41 = .ok (.if_icmp .gt 12, 3) := by decide +kernel
theorem dX1_degrees_44 : decode cX1_degrees 44 = .ok (.iload 5, 2) := by decide +kernel
theorem dX1_degrees_46 : decode cX1_degrees 46 = .ok (.iload_n 3, 1) := by decide +kernel
theorem dX1_degrees_47 : decode cX1_degrees 47 = .ok (.if_icmp .le 6, 3) := by decide +kernel
theorem dX1_degrees_50 : decode cX1_degrees 50 = .ok (.iload 5, 2) := by decide +kernel
theorem dX1_degrees_52 : decode cX1_degrees 52 = .ok (.istore_n 3, 1) := by decide +kernel
theorem dX1_degrees_53 : decode cX1_degrees 53 = .ok (.iinc 4 1, 3) := by decide +kernel
theorem dX1_degrees_56 : decode cX1_degrees 56 = .ok (.goto (-51), 3) := by decide +kernel
theorem dX1_degrees_59 : decode cX1_degrees 59 = .ok (.aload_n 0, 1) := by decide +kernel
theorem dX1_degrees_60 : decode cX1_degrees 60 = .ok (.iconst 2, 1) := by decide +kernel
theorem dX1_degrees_61 : decode cX1_degrees 61 = .ok (.iload_n 1, 1) := by decide +kernel
theorem dX1_degrees_62 : decode cX1_degrees 62 = .ok (.iconst 1, 1) := by decide +kernel
theorem dX1_degrees_63 : decode cX1_degrees 63 = .ok (.invokevirtual 48, 3) := by decide +kernel
theorem dX1_degrees_66 : decode cX1_degrees 66 = .ok (.aload_n 0, 1) := by decide +kernel
theorem dX1_degrees_67 : decode cX1_degrees 67 = .ok (.iconst 1, 1) := by decide +kernel
theorem dX1_degrees_68 : decode cX1_degrees 68 = .ok (.iconst 0, 1) := by decide +kernel
theorem dX1_degrees_69 : decode cX1_degrees 69 = .ok (.iconst 1, 1) := by decide +kernel
theorem dX1_degrees_70 : decode cX1_degrees 70 = .ok (.invokevirtual 48, 3) := by decide +kernel
theorem dX1_degrees_73 : decode cX1_degrees 73 = .ok (.iload_n 2, 1) := by decide +kernel
theorem dX1_degrees_74 : decode cX1_degrees 74 = .ok (.iload_n 3, 1) := by decide +kernel
theorem dX1_degrees_75 : decode cX1_degrees 75 = .ok (.isub, 1) := by decide +kernel
theorem dX1_degrees_76 : decode cX1_degrees 76 = .ok (.imul, 1) := by decide +kernel
theorem dX1_degrees_77 : decode cX1_degrees 77 = .ok (.bipush 10, 2) := by decide +kernel
theorem dX1_degrees_79 : decode cX1_degrees 79 = .ok (.idiv, 1) := by decide +kernel
theorem dX1_degrees_80 : decode cX1_degrees 80 = .ok (.isub, 1) := by decide +kernel
theorem dX1_degrees_81 : decode cX1_degrees 81 = .ok (.ireturn, 1) := by decide +kernel
theorem dX1_isCold_0 : decode cX1_isCold 0 = .ok (.aload_n 0, 1) := by decide +kernel
theorem dX1_isCold_1 : decode cX1_isCold 1 = .ok (.iload_n 1, 1) := by decide +kernel
theorem dX1_isCold_2 : decode cX1_isCold 2 = .ok (.iload_n 2, 1) := by decide +kernel
theorem dX1_isCold_3 : decode cX1_isCold 3 = .ok (.invokevirtual 80, 3) := by decide +kernel
theorem dX1_isCold_6 : decode cX1_isCold 6 = .ok (.aload_n 0, 1) := by decide +kernel
theorem dX1_isCold_7 : decode cX1_isCold 7 = .ok (.iconst 1, 1) := by decide +kernel
theorem dX1_isCold_8 : decode cX1_isCold 8 = .ok (.iconst 0, 1) := by decide +kernel
theorem dX1_isCold_9 : decode cX1_isCold 9 = .ok (.iconst 0, 1) := by decide +kernel
theorem dX1_isCold_10 : decode cX1_isCold 10 = .ok (.invokevirtual 48, 3) := by decide +kernel
theorem dX1_isCold_13 : decode cX1_isCold 13 = .ok (.if_icmp .ge 7, 3) := by decide +kernel
theorem dX1_isCold_16 : decode cX1_isCold 16 = .ok (.iconst 1, 1) := by decide +kernel
theorem dX1_isCold_17 : decode cX1_isCold 17 = .ok (.goto 4, 3) := by decide +kernel
theorem dX1_isCold_20 : decode cX1_isCold 20 = .ok (.iconst 0, 1) := by decide +kernel
theorem dX1_isCold_21 : decode cX1_isCold 21 = .ok (.ireturn, 1) := by decide +kernel
theorem dX1_behindBelts_0 : decode cX1_behindBelts 0 = .ok (.iload_n 1, 1) := by decide +kernel
theorem dX1_behindBelts_1 : decode cX1_behindBelts 1 = .ok (.istore_n 2, 1) := by decide +kernel
theorem dX1_behindBelts_2 : decode cX1_behindBelts 2 = .ok (.iconst 0, 1) := by decide +kernel
theorem dX1_behindBelts_3 : decode cX1_behindBelts 3 = .ok (.istore_n 3, 1) := by decide +kernel
theorem dX1_behindBelts_4 : decode cX1_behindBelts 4 = .ok (.iload_n 3, 1) := by decide +kernel
theorem dX1_behindBelts_5 : decode cX1_behindBelts 5 = .ok (.aload_n 0, 1) := by decide +kernel
theorem dX1_behindBelts_6 : decode cX1_behindBelts 6 = .ok (.getfield 9, 3) := by decide +kernel
theorem dX1_behindBelts_9 : decode cX1_behindBelts 9 = .ok (.bipush 9, 2) := by decide +kernel
theorem dX1_behindBelts_11 : decode cX1_behindBelts 11 = .ok (.iaload, 1) := by decide +kernel
theorem dX1_behindBelts_12 : decode cX1_behindBelts 12 = .ok (.if_icmp .ge 77, 3) := by decide +kernel
theorem dX1_behindBelts_15 : decode cX1_behindBelts 15 = .ok (.iconst 0, 1) := by decide +kernel
theorem dX1_behindBelts_16 : decode cX1_behindBelts 16 = .ok (.istore 4, 2) := by decide +kernel
theorem dX1_behindBelts_18 : decode cX1_behindBelts 18 = .ok (.iload 4, 2) := by decide +kernel
theorem dX1_behindBelts_20 : decode cX1_behindBelts 20 = .ok (.aload_n 0, 1) := by decide +kernel
theorem dX1_behindBelts_21 : decode cX1_behindBelts 21 = .ok (.getfield 9, 3) := by decide +kernel
theorem dX1_behindBelts_24 : decode cX1_behindBelts 24 = .ok (.bipush 9, 2) := by decide +kernel
theorem dX1_behindBelts_26 : decode cX1_behindBelts 26 = .ok (.iaload, 1) := by decide +kernel
theorem dX1_behindBelts_27 : decode cX1_behindBelts 27 = .ok (.if_icmp .ge 56, 3) := by decide +kernel
theorem dX1_behindBelts_30 : decode cX1_behindBelts 30 = .ok (.iload_n 2, 1) := by decide +kernel
theorem dX1_behindBelts_31 : decode cX1_behindBelts 31 = .ok (.bipush 60, 2) := by decide +kernel
theorem dX1_behindBelts_33 : decode cX1_behindBelts 33 = .ok (.idiv, 1) := by decide +kernel
theorem dX1_behindBelts_34 : decode cX1_behindBelts 34 = .ok (.istore 5, 2) := by decide +kernel
theorem dX1_behindBelts_36 : decode cX1_behindBelts 36 = .ok (.iload 5, 2) := by decide +kernel
theorem dX1_behindBelts_38 : decode cX1_behindBelts 38 = .ok (.aload_n 0, 1) := by decide +kernel
theorem dX1_behindBelts_39 : decode cX1_behindBelts 39 = .ok (.bipush 9, 2) := by decide +kernel
theorem dX1_behindBelts_41 : decode cX1_behindBelts 41 = .ok (.iload 4, 2) := by decide +kernel
theorem dX1_behindBelts_43 : decode cX1_behindBelts 43 = .ok (.iconst 0, 1) := by decide +kernel
theorem dX1_behindBelts_44 : decode cX1_behindBelts 44 = .ok (.invokevirtual 48, 3) := by decide +kernel
theorem dX1_behindBelts_47 : decode cX1_behindBelts 47 = .ok (.if_icmp .lt 30, 3) := by decide +kernel
theorem dX1_behindBelts_50 : decode cX1_behindBelts 50 = .ok (.iload 5, 2) := by decide +kernel
theorem dX1_behindBelts_52 : decode cX1_behindBelts 52 = .ok (.aload_n 0, 1) := by decide +kernel
theorem dX1_behindBelts_53 : decode cX1_behindBelts 53 = .ok (.bipush 9, 2) := by decide +kernel
theorem dX1_behindBelts_55 : decode cX1_behindBelts 55 = .ok (.iload 4, 2) := by decide +kernel
theorem dX1_behindBelts_57 : decode cX1_behindBelts 57 = .ok (.iconst 1, 1) := by decide +kernel
theorem dX1_behindBelts_58 : decode cX1_behindBelts 58 = .ok (.invokevirtual 48, 3) := by decide +kernel
theorem dX1_behindBelts_61 : decode cX1_behindBelts 61 = .ok (.if_icmp .ge 16, 3) := by decide +kernel
theorem dX1_behindBelts_64 : decode cX1_behindBelts 64 = .ok (.aload_n 0, 1) := by decide +kernel
theorem dX1_behindBelts_65 : decode cX1_behindBelts 65 = .ok (.bipush 9, 2) := by decide +kernel
theorem dX1_behindBelts_67 : decode cX1_behindBelts 67 = .ok (.iload 4, 2) := by decide +kernel
theorem dX1_behindBelts_69 : decode cX1_behindBelts 69 = .ok (.iconst 1, 1) := by decide +kernel
theorem dX1_behindBelts_70 : decode cX1_behindBelts 70 = .ok (.invokevirtual 48, 3) := by decide +kernel
theorem dX1_behindBelts_73 : decode cX1_behindBelts 73 = .ok (.bipush 60, 2) := by decide +kernel
theorem dX1_behindBelts_75 : decode cX1_behindBelts 75 = .ok (.imul, 1) := by decide +kernel
theorem dX1_behindBelts_76 : decode cX1_behindBelts 76 = .ok (.istore_n 2, 1) := by decide +kernel
theorem dX1_behindBelts_77 : decode cX1_behindBelts 77 = .ok (.iinc 4 1, 3) := by decide +kernel
theorem dX1_behindBelts_80 : decode cX1_behindBelts 80 = .ok (.goto (-62), 3) := by decide +kernel
theorem dX1_behindBelts_83 : decode cX1_behindBelts 83 = .ok (.iinc 3 1, 3) := by decide +kernel
theorem dX1_behindBelts_86 : decode cX1_behindBelts 86 = .ok (.goto (-82), 3) := by decide +kernel
theorem dX1_behindBelts_89 : decode cX1_behindBelts 89 = .ok (.iload_n 2, 1) := by decide +kernel
theorem dX1_behindBelts_90 : decode cX1_behindBelts 90 = .ok (.ireturn, 1) := by decide +kernel
theorem dX1_beltsBegunWithin_0 : decode cX1_beltsBegunWithin 0 = .ok (.iconst 0, 1) := by decide +kernel
theorem dX1_beltsBegunWithin_1 : decode cX1_beltsBegunWithin 1 = .ok (.istore_n 3, 1) := by decide +kernel
theorem dX1_beltsBegunWithin_2 : decode cX1_beltsBegunWithin 2 = .ok (.iconst 0, 1) := by decide +kernel
theorem dX1_beltsBegunWithin_3 : decode cX1_beltsBegunWithin 3 = .ok (.istore 4, 2) := by decide +kernel
theorem dX1_beltsBegunWithin_5 : decode cX1_beltsBegunWithin 5 = .ok (.iload 4, 2) := by decide +kernel
theorem dX1_beltsBegunWithin_7 : decode cX1_beltsBegunWithin 7 = .ok (.aload_n 0, 1) := by decide +kernel
theorem dX1_beltsBegunWithin_8 : decode cX1_beltsBegunWithin 8 = .ok (.getfield 9, 3) := by decide +kernel
theorem dX1_beltsBegunWithin_11 : decode cX1_beltsBegunWithin 11 = .ok (.bipush 9, 2) := by decide +kernel
theorem dX1_beltsBegunWithin_13 : decode cX1_beltsBegunWithin 13 = .ok (.iaload, 1) := by decide +kernel
theorem dX1_beltsBegunWithin_14 : decode cX1_beltsBegunWithin 14 = .ok (.if_icmp .ge 38, 3) := by decide +kernel
theorem dX1_beltsBegunWithin_17 : decode cX1_beltsBegunWithin 17 = .ok (.aload_n 0, 1) := by decide +kernel
theorem dX1_beltsBegunWithin_18 : decode cX1_beltsBegunWithin 18 = .ok (.bipush 9, 2) := by decide +kernel
theorem dX1_beltsBegunWithin_20 : decode cX1_beltsBegunWithin 20 = .ok (.iload 4, 2) := by decide +kernel
theorem dX1_beltsBegunWithin_22 : decode cX1_beltsBegunWithin 22 = .ok (.iconst 0, 1) := by decide +kernel
theorem dX1_beltsBegunWithin_23 : decode cX1_beltsBegunWithin 23 = .ok (.invokevirtual 48, 3) := by decide +kernel
theorem dX1_beltsBegunWithin_26 : decode cX1_beltsBegunWithin 26 = .ok (.bipush 60, 2) := by decide +kernel
theorem dX1_beltsBegunWithin_28 : decode cX1_beltsBegunWithin 28 = .ok (.imul, 1) := by decide +kernel
theorem dX1_beltsBegunWithin_29 : decode cX1_beltsBegunWithin 29 = .ok (.istore 5, 2) := by decide +kernel
theorem dX1_beltsBegunWithin_31 : decode cX1_beltsBegunWithin 31 = .ok (.iload 5, 2) := by decide +kernel
theorem dX1_beltsBegunWithin_33 : decode cX1_beltsBegunWithin 33 = .ok (.iload_n 1, 1) := by decide +kernel
theorem dX1_beltsBegunWithin_34 : decode cX1_beltsBegunWithin 34 = .ok (.if_icmp .le 12, 3) := by decide +kernel
theorem dX1_beltsBegunWithin_37 : decode cX1_beltsBegunWithin 37 = .ok (.iload 5, 2) := by decide +kernel
theorem dX1_beltsBegunWithin_39 : decode cX1_beltsBegunWithin 39 = .ok (.iload_n 2, 1) := by decide +kernel
theorem dX1_beltsBegunWithin_40 : decode cX1_beltsBegunWithin 40 = .ok (.if_icmp .ge 6, 3) := by decide +kernel
theorem dX1_beltsBegunWithin_43 : decode cX1_beltsBegunWithin 43 = .ok (.iinc 3 1, 3) := by decide +kernel
theorem dX1_beltsBegunWithin_46 : decode cX1_beltsBegunWithin 46 = .ok (.iinc 4 1, 3) := by decide +kernel
theorem dX1_beltsBegunWithin_49 : decode cX1_beltsBegunWithin 49 = .ok (.goto (-44), 3) := by decide +kernel
theorem dX1_beltsBegunWithin_52 : decode cX1_beltsBegunWithin 52 = .ok (.iload_n 3, 1) := by decide +kernel
theorem dX1_beltsBegunWithin_53 : decode cX1_beltsBegunWithin 53 = .ok (.ireturn, 1) := by decide +kernel
theorem dX1_isGap_0 : decode cX1_isGap 0 = .ok (.iconst 0, 1) := by decide +kernel
theorem dX1_isGap_1 : decode cX1_isGap 1 = .ok (.istore_n 2, 1) := by decide +kernel
theorem dX1_isGap_2 : decode cX1_isGap 2 = .ok (.iload_n 2, 1) := by decide +kernel
theorem dX1_isGap_3 : decode cX1_isGap 3 = .ok (.aload_n 0, 1) := by decide +kernel
theorem dX1_isGap_4 : decode cX1_isGap 4 = .ok (.getfield 9, 3) := by decide +kernel
theorem dX1_isGap_7 : decode cX1_isGap 7 = .ok (.bipush 10, 2) := by decide +kernel
theorem dX1_isGap_9 : decode cX1_isGap 9 = .ok (.iaload, 1) := by decide +kernel
theorem dX1_isGap_10 : decode cX1_isGap 10 = .ok (.if_icmp .ge 23, 3) := by decide +kernel
theorem dX1_isGap_13 : decode cX1_isGap 13 = .ok (.aload_n 0, 1) := by decide +kernel
theorem dX1_isGap_14 : decode cX1_isGap 14 = .ok (.bipush 10, 2) := by decide +kernel
theorem dX1_isGap_16 : decode cX1_isGap 16 = .ok (.iload_n 2, 1) := by decide +kernel
theorem dX1_isGap_17 : decode cX1_isGap 17 = .ok (.iconst 0, 1) := by decide +kernel
theorem dX1_isGap_18 : decode cX1_isGap 18 = .ok (.invokevirtual 48, 3) := by decide +kernel
theorem dX1_isGap_21 : decode cX1_isGap 21 = .ok (.iload_n 1, 1) := by decide +kernel
theorem dX1_isGap_22 : decode cX1_isGap 22 = .ok (.if_icmp .ne 5, 3) := by decide +kernel
theorem dX1_isGap_25 : decode cX1_isGap 25 = .ok (.iconst 1, 1) := by decide +kernel
theorem dX1_isGap_26 : decode cX1_isGap 26 = .ok (.ireturn, 1) := by decide +kernel
theorem dX1_isGap_27 : decode cX1_isGap 27 = .ok (.iinc 2 1, 3) := by decide +kernel
theorem dX1_isGap_30 : decode cX1_isGap 30 = .ok (.goto (-28), 3) := by decide +kernel
theorem dX1_isGap_33 : decode cX1_isGap 33 = .ok (.iconst 0, 1) := by decide +kernel
theorem dX1_isGap_34 : decode cX1_isGap 34 = .ok (.ireturn, 1) := by decide +kernel
theorem dX1_secondsMeetingAt_0 : decode cX1_secondsMeetingAt 0 = .ok (.aload_n 0, 1) := by decide +kernel
theorem dX1_secondsMeetingAt_1 : decode cX1_secondsMeetingAt 1 = .ok (.getfield 9, 3) := by decide +kernel
theorem dX1_secondsMeetingAt_4 : decode cX1_secondsMeetingAt 4 = .ok (.iconst 5, 1) := by decide +kernel
theorem dX1_secondsMeetingAt_5 : decode cX1_secondsMeetingAt 5 = .ok (.iaload, 1) := by decide +kernel
theorem dX1_secondsMeetingAt_6 : decode cX1_secondsMeetingAt 6 = .ok (.iconst 2, 1) := by decide +kernel
theorem dX1_secondsMeetingAt_7 : decode cX1_secondsMeetingAt 7 = .ok (.if_icmp .ge 13, 3) := by decide +kernel
theorem dX1_secondsMeetingAt_10 : decode cX1_secondsMeetingAt 10 = .ok (.aload_n 0, 1) := by decide +kernel
theorem dX1_secondsMeetingAt_11 : decode cX1_secondsMeetingAt 11 = .ok (.iconst 1, 1) := by decide +kernel
theorem dX1_secondsMeetingAt_12 : decode cX1_secondsMeetingAt 12 = .ok (.aload_n 0, 1) := by decide +kernel
theorem dX1_secondsMeetingAt_13 : decode cX1_secondsMeetingAt 13 = .ok (.invokevirtual 67, 3) := by decide +kernel
theorem dX1_secondsMeetingAt_16 : decode cX1_secondsMeetingAt 16 = .ok (.invokevirtual 83, 3) := by decide +kernel
theorem dX1_secondsMeetingAt_19 : decode cX1_secondsMeetingAt 19 = .ok (.ireturn, 1) := by decide +kernel
theorem dX1_secondsMeetingAt_20 : decode cX1_secondsMeetingAt 20 = .ok (.aload_n 0, 1) := by decide +kernel
theorem dX1_secondsMeetingAt_21 : decode cX1_secondsMeetingAt 21 = .ok (.iconst 1, 1) := by decide +kernel
theorem dX1_secondsMeetingAt_22 : decode cX1_secondsMeetingAt 22 = .ok (.iload_n 1, 1) := by decide +kernel
theorem dX1_secondsMeetingAt_23 : decode cX1_secondsMeetingAt 23 = .ok (.invokevirtual 83, 3) := by decide +kernel
theorem dX1_secondsMeetingAt_26 : decode cX1_secondsMeetingAt 26 = .ok (.aload_n 0, 1) := by decide +kernel
theorem dX1_secondsMeetingAt_27 : decode cX1_secondsMeetingAt 27 = .ok (.iload_n 1, 1) := by decide +kernel
theorem dX1_secondsMeetingAt_28 : decode cX1_secondsMeetingAt 28 = .ok (.iconst 1, 1) := by decide +kernel
theorem dX1_secondsMeetingAt_29 : decode cX1_secondsMeetingAt 29 = .ok (.iadd, 1) := by decide +kernel
theorem dX1_secondsMeetingAt_30 : decode cX1_secondsMeetingAt 30 = .ok (.aload_n 0, 1) := by decide +kernel
theorem dX1_secondsMeetingAt_31 : decode cX1_secondsMeetingAt 31 = .ok (.invokevirtual 67, 3) := by decide +kernel
theorem dX1_secondsMeetingAt_34 : decode cX1_secondsMeetingAt 34 = .ok (.invokevirtual 83, 3) := by decide +kernel
theorem dX1_secondsMeetingAt_37 : decode cX1_secondsMeetingAt 37 = .ok (.invokestatic 58, 3) := by decide +kernel
theorem dX1_secondsMeetingAt_40 : decode cX1_secondsMeetingAt 40 = .ok (.ireturn, 1) := by decide +kernel
theorem dX1_secondsFor_0 : decode cX1_secondsFor 0 = .ok (.iconst 0, 1) := by decide +kernel
theorem dX1_secondsFor_1 : decode cX1_secondsFor 1 = .ok (.iload_n 2, 1) := by decide +kernel
theorem dX1_secondsFor_2 : decode cX1_secondsFor 2 = .ok (.iload_n 1, 1) := by decide +kernel
theorem dX1_secondsFor_3 : decode cX1_secondsFor 3 = .ok (.isub, 1) := by decide +kernel
theorem dX1_secondsFor_4 : decode cX1_secondsFor 4 = .ok (.invokestatic 58, 3) := by decide +kernel
theorem dX1_secondsFor_7 : decode cX1_secondsFor 7 = .ok (.istore_n 3, 1) := by decide +kernel
theorem dX1_secondsFor_8 : decode cX1_secondsFor 8 = .ok (.aload_n 0, 1) := by decide +kernel
theorem dX1_secondsFor_9 : decode cX1_secondsFor 9 = .ok (.invokevirtual 86, 3) := by decide +kernel
theorem dX1_secondsFor_12 : decode cX1_secondsFor 12 = .ok (.aload_n 0, 1) := by decide +kernel
theorem dX1_secondsFor_13 : decode cX1_secondsFor 13 = .ok (.iload_n 1, 1) := by decide +kernel
theorem dX1_secondsFor_14 : decode cX1_secondsFor 14 = .ok (.iload_n 2, 1) := by decide +kernel
theorem dX1_secondsFor_15 : decode cX1_secondsFor 15 = .ok (.invokevirtual 89, 3) := by decide +kernel
theorem dX1_secondsFor_18 : decode cX1_secondsFor 18 = .ok (.imul, 1) := by decide +kernel
theorem dX1_secondsFor_19 : decode cX1_secondsFor 19 = .ok (.aload_n 0, 1) := by decide +kernel
theorem dX1_secondsFor_20 : decode cX1_secondsFor 20 = .ok (.invokevirtual 92, 3) := by decide +kernel
theorem dX1_secondsFor_23 : decode cX1_secondsFor 23 = .ok (.iload_n 3, 1) := by decide +kernel
theorem dX1_secondsFor_24 : decode cX1_secondsFor 24 = .ok (.imul, 1) := by decide +kernel
theorem dX1_secondsFor_25 : decode cX1_secondsFor 25 = .ok (.iadd, 1) := by decide +kernel
theorem dX1_secondsFor_26 : decode cX1_secondsFor 26 = .ok (.ireturn, 1) := by decide +kernel
theorem dX1_lackingMeetingAt_0 : decode cX1_lackingMeetingAt 0 = .ok (.iconst 0, 1) := by decide +kernel
theorem dX1_lackingMeetingAt_1 : decode cX1_lackingMeetingAt 1 = .ok (.istore_n 2, 1) := by decide +kernel
theorem dX1_lackingMeetingAt_2 : decode cX1_lackingMeetingAt 2 = .ok (.iconst 0, 1) := by decide +kernel
theorem dX1_lackingMeetingAt_3 : decode cX1_lackingMeetingAt 3 = .ok (.istore_n 3, 1) := by decide +kernel
theorem dX1_lackingMeetingAt_4 : decode cX1_lackingMeetingAt 4 = .ok (.iload_n 3, 1) := by decide +kernel
theorem dX1_lackingMeetingAt_5 : decode cX1_lackingMeetingAt 5 = .ok (.aload_n 0, 1) := by decide +kernel
theorem dX1_lackingMeetingAt_6 : decode cX1_lackingMeetingAt 6 = .ok (.getfield 9, 3) := by decide +kernel
theorem dX1_lackingMeetingAt_9 : decode cX1_lackingMeetingAt 9 = .ok (.iconst 5, 1) := by decide +kernel
theorem dX1_lackingMeetingAt_10 : decode cX1_lackingMeetingAt 10 = .ok (.iaload, 1) := by decide +kernel
theorem dX1_lackingMeetingAt_11 : decode cX1_lackingMeetingAt 11 = .ok (.if_icmp .ge 92, 3) := by decide +kernel
theorem dX1_lackingMeetingAt_14 : decode cX1_lackingMeetingAt 14 = .ok (.aload_n 0, 1) := by decide +kernel
theorem dX1_lackingMeetingAt_15 : decode cX1_lackingMeetingAt 15 = .ok (.getfield 9, 3) := by decide +kernel
theorem dX1_lackingMeetingAt_18 : decode cX1_lackingMeetingAt 18 = .ok (.iconst 5, 1) := by decide +kernel
theorem dX1_lackingMeetingAt_19 : decode cX1_lackingMeetingAt 19 = .ok (.iaload, 1) := by decide +kernel
theorem dX1_lackingMeetingAt_20 : decode cX1_lackingMeetingAt 20 = .ok (.iconst 2, 1) := by decide +kernel
theorem dX1_lackingMeetingAt_21 : decode cX1_lackingMeetingAt 21 = .ok (.if_icmp .ge 7, 3) := by decide +kernel
theorem dX1_lackingMeetingAt_24 : decode cX1_lackingMeetingAt 24 = .ok (.iconst 1, 1) := by decide +kernel
theorem dX1_lackingMeetingAt_25 : decode cX1_lackingMeetingAt 25 = .ok (.goto 4, 3) := by decide +kernel
theorem dX1_lackingMeetingAt_28 : decode cX1_lackingMeetingAt 28 = .ok (.iconst 0, 1) := by decide +kernel
theorem dX1_lackingMeetingAt_29 : decode cX1_lackingMeetingAt 29 = .ok (.istore 4, 2) := by decide +kernel
theorem dX1_lackingMeetingAt_31 : decode cX1_lackingMeetingAt 31 = .ok (.iload 4, 2) := by decide +kernel
theorem dX1_lackingMeetingAt_33 : decode cX1_lackingMeetingAt 33 = .ok (.ifCond .ne 11, 3) := by decide +kernel
theorem dX1_lackingMeetingAt_36 : decode cX1_lackingMeetingAt 36 = .ok (.aload_n 0, 1) := by decide +kernel
theorem dX1_lackingMeetingAt_37 : decode cX1_lackingMeetingAt 37 = .ok (.iload_n 3, 1) := by decide +kernel
theorem dX1_lackingMeetingAt_38 : decode cX1_lackingMeetingAt 38 = .ok (.invokevirtual 95, 3) := by decide +kernel
theorem dX1_lackingMeetingAt_41 : decode cX1_lackingMeetingAt 41 = .ok (.ifCond .eq 7, 3) := by decide +kernel
theorem dX1_lackingMeetingAt_44 : decode cX1_lackingMeetingAt 44 = .ok (.iconst 1, 1) := by decide +kernel
theorem dX1_lackingMeetingAt_45 : decode cX1_lackingMeetingAt 45 = .ok (.goto 6, 3) := by decide +kernel
theorem dX1_lackingMeetingAt_48 : decode cX1_lackingMeetingAt 48 = .ok (.iload_n 1, 1) := by decide +kernel
theorem dX1_lackingMeetingAt_49 : decode cX1_lackingMeetingAt 49 = .ok (.iconst 1, 1) := by decide +kernel
theorem dX1_lackingMeetingAt_50 : decode cX1_lackingMeetingAt 50 = .ok (.iadd, 1) := by decide +kernel
theorem dX1_lackingMeetingAt_51 : decode cX1_lackingMeetingAt 51 = .ok (.istore 5, 2) := by decide +kernel
theorem dX1_lackingMeetingAt_53 : decode cX1_lackingMeetingAt 53 = .ok (.iload 4, 2) := by decide +kernel
theorem dX1_lackingMeetingAt_55 : decode cX1_lackingMeetingAt 55 = .ok (.ifCond .ne 11, 3) := by decide +kernel
theorem dX1_lackingMeetingAt_58 : decode cX1_lackingMeetingAt 58 = .ok (.aload_n 0, 1) := by decide +kernel
theorem dX1_lackingMeetingAt_59 : decode cX1_lackingMeetingAt 59 = .ok (.iload_n 3, 1) := by decide +kernel
theorem dX1_lackingMeetingAt_60 : decode cX1_lackingMeetingAt 60 = .ok (.invokevirtual 95, 3) := by decide +kernel
theorem dX1_lackingMeetingAt_63 : decode cX1_lackingMeetingAt 63 = .ok (.ifCond .ne 10, 3) := by decide +kernel
theorem dX1_lackingMeetingAt_66 : decode cX1_lackingMeetingAt 66 = .ok (.aload_n 0, 1) := by decide +kernel
theorem dX1_lackingMeetingAt_67 : decode cX1_lackingMeetingAt 67 = .ok (.invokevirtual 67, 3) := by decide +kernel
theorem dX1_lackingMeetingAt_70 : decode cX1_lackingMeetingAt 70 = .ok (.goto 4, 3) := by decide +kernel
theorem dX1_lackingMeetingAt_73 : decode cX1_lackingMeetingAt 73 = .ok (.iload_n 1, 1) := by decide +kernel
theorem dX1_lackingMeetingAt_74 : decode cX1_lackingMeetingAt 74 = .ok (.istore 6, 2) := by decide +kernel
theorem dX1_lackingMeetingAt_76 : decode cX1_lackingMeetingAt 76 = .ok (.iload_n 2, 1) := by decide +kernel
theorem dX1_lackingMeetingAt_77 : decode cX1_lackingMeetingAt 77 = .ok (.iconst 0, 1) := by decide +kernel
theorem dX1_lackingMeetingAt_78 : decode cX1_lackingMeetingAt 78 = .ok (.aload_n 0, 1) := by decide +kernel
theorem dX1_lackingMeetingAt_79 : decode cX1_lackingMeetingAt 79 = .ok (.iload 5, 2) := by decide +kernel
theorem dX1_lackingMeetingAt_81 : decode cX1_lackingMeetingAt 81 = .ok (.iload 6, 2) := by decide +kernel
theorem dX1_lackingMeetingAt_83 : decode cX1_lackingMeetingAt 83 = .ok (.invokevirtual 89, 3) := by decide +kernel
theorem dX1_lackingMeetingAt_86 : decode cX1_lackingMeetingAt 86 = .ok (.aload_n 0, 1) := by decide +kernel
theorem dX1_lackingMeetingAt_87 : decode cX1_lackingMeetingAt 87 = .ok (.iload_n 3, 1) := by decide +kernel
theorem dX1_lackingMeetingAt_88 : decode cX1_lackingMeetingAt 88 = .ok (.invokevirtual 98, 3) := by decide +kernel
theorem dX1_lackingMeetingAt_91 : decode cX1_lackingMeetingAt 91 = .ok (.isub, 1) := by decide +kernel
theorem dX1_lackingMeetingAt_92 : decode cX1_lackingMeetingAt 92 = .ok (.invokestatic 58, 3) := by decide +kernel
theorem dX1_lackingMeetingAt_95 : decode cX1_lackingMeetingAt 95 = .ok (.iadd, 1) := by decide +kernel
theorem dX1_lackingMeetingAt_96 : decode cX1_lackingMeetingAt 96 = .ok (.istore_n 2, 1) := by decide +kernel
theorem dX1_lackingMeetingAt_97 : decode cX1_lackingMeetingAt 97 = .ok (.iinc 3 1, 3) := by decide +kernel
theorem dX1_lackingMeetingAt_100 : decode cX1_lackingMeetingAt 100 = .ok (.goto (-96), 3) := by decide +kernel
theorem dX1_lackingMeetingAt_103 : decode cX1_lackingMeetingAt 103 = .ok (.iload_n 2, 1) := by decide +kernel
theorem dX1_lackingMeetingAt_104 : decode cX1_lackingMeetingAt 104 = .ok (.ireturn, 1) := by decide +kernel
theorem dX1_formerLoad_0 : decode cX1_formerLoad 0 = .ok (.iconst (-1), 1) := by decide +kernel
theorem dX1_formerLoad_1 : decode cX1_formerLoad 1 = .ok (.istore_n 3, 1) := by decide +kernel
theorem dX1_formerLoad_2 : decode cX1_formerLoad 2 = .ok (.aload_n 0, 1) := by decide +kernel
theorem dX1_formerLoad_3 : decode cX1_formerLoad 3 = .ok (.iconst 1, 1) := by decide +kernel
theorem dX1_formerLoad_4 : decode cX1_formerLoad 4 = .ok (.aload_n 0, 1) := by decide +kernel
theorem dX1_formerLoad_5 : decode cX1_formerLoad 5 = .ok (.invokevirtual 67, 3) := by decide +kernel
theorem dX1_formerLoad_8 : decode cX1_formerLoad 8 = .ok (.invokevirtual 89, 3) := by decide +kernel
theorem dX1_formerLoad_11 : decode cX1_formerLoad 11 = .ok (.istore 4, 2) := by decide +kernel
theorem dX1_formerLoad_13 : decode cX1_formerLoad 13 = .ok (.iconst 0, 1) := by decide +kernel
theorem dX1_formerLoad_14 : decode cX1_formerLoad 14 = .ok (.istore 5, 2) := by decide +kernel
theorem dX1_formerLoad_16 : decode cX1_formerLoad 16 = .ok (.iload 5, 2) := by decide +kernel
theorem dX1_formerLoad_18 : decode cX1_formerLoad 18 = .ok (.aload_n 0, 1) := by decide +kernel
theorem dX1_formerLoad_19 : decode cX1_formerLoad 19 = .ok (.getfield 9, 3) := by decide +kernel
theorem dX1_formerLoad_22 : decode cX1_formerLoad 22 = .ok (.iconst 4, 1) := by decide +kernel
theorem dX1_formerLoad_23 : decode cX1_formerLoad 23 = .ok (.iaload, 1) := by decide +kernel
theorem dX1_formerLoad_24 : decode cX1_formerLoad 24 = .ok (.if_icmp .ge 84, 3) := by decide +kernel
theorem dX1_formerLoad_27 : decode cX1_formerLoad 27 = .ok (.aload_n 0, 1) := by decide +kernel
theorem dX1_formerLoad_28 : decode cX1_formerLoad 28 = .ok (.iconst 4, 1) := by decide +kernel
theorem dX1_formerLoad_29 : decode cX1_formerLoad 29 = .ok (.iload 5, 2) := by decide +kernel
theorem dX1_formerLoad_31 : decode cX1_formerLoad 31 = .ok (.iconst 2, 1) := by decide +kernel
theorem dX1_formerLoad_32 : decode cX1_formerLoad 32 = .ok (.invokevirtual 48, 3) := by decide +kernel
theorem dX1_formerLoad_35 : decode cX1_formerLoad 35 = .ok (.istore 6, 2) := by decide +kernel
theorem dX1_formerLoad_37 : decode cX1_formerLoad 37 = .ok (.aload_n 0, 1) := by decide +kernel
theorem dX1_formerLoad_38 : decode cX1_formerLoad 38 = .ok (.iconst 4, 1) := by decide +kernel
theorem dX1_formerLoad_39 : decode cX1_formerLoad 39 = .ok (.iload 5, 2) := by decide +kernel
theorem dX1_formerLoad_41 : decode cX1_formerLoad 41 = .ok (.iconst 0, 1) := by decide +kernel
theorem dX1_formerLoad_42 : decode cX1_formerLoad 42 = .ok (.invokevirtual 48, 3) := by decide +kernel
theorem dX1_formerLoad_45 : decode cX1_formerLoad 45 = .ok (.iload_n 1, 1) := by decide +kernel
theorem dX1_formerLoad_46 : decode cX1_formerLoad 46 = .ok (.if_icmp .ne 56, 3) := by decide +kernel
theorem dX1_formerLoad_49 : decode cX1_formerLoad 49 = .ok (.iload 6, 2) := by decide +kernel
theorem dX1_formerLoad_51 : decode cX1_formerLoad 51 = .ok (.ifCond .le 51, 3) := by decide +kernel
theorem dX1_formerLoad_54 : decode cX1_formerLoad 54 = .ok (.iload 4, 2) := by decide +kernel
theorem dX1_formerLoad_56 : decode cX1_formerLoad 56 = .ok (.aload_n 0, 1) := by decide +kernel
theorem dX1_formerLoad_57 : decode cX1_formerLoad 57 = .ok (.iconst 4, 1) := by decide +kernel
theorem dX1_formerLoad_58 : decode cX1_formerLoad 58 = .ok (.iload 5, 2) := by decide +kernel
theorem dX1_formerLoad_60 : decode cX1_formerLoad 60 = .ok (.iconst 1, 1) := by decide +kernel
theorem dX1_formerLoad_61 : decode cX1_formerLoad 61 = .ok (.invokevirtual 48, 3) := by decide +kernel
theorem dX1_formerLoad_64 : decode cX1_formerLoad 64 = .ok (.imul, 1) := by decide +kernel
theorem dX1_formerLoad_65 : decode cX1_formerLoad 65 = .ok (.iload 6, 2) := by decide +kernel
theorem dX1_formerLoad_67 : decode cX1_formerLoad 67 = .ok (.iadd, 1) := by decide +kernel
theorem dX1_formerLoad_68 : decode cX1_formerLoad 68 = .ok (.iconst 1, 1) := by decide +kernel
theorem dX1_formerLoad_69 : decode cX1_formerLoad 69 = .ok (.isub, 1) := by decide +kernel
theorem dX1_formerLoad_70 : decode cX1_formerLoad 70 = .ok (.iload 6, 2) := by decide +kernel
theorem dX1_formerLoad_72 : decode cX1_formerLoad 72 = .ok (.idiv, 1) := by decide +kernel
theorem dX1_formerLoad_73 : decode cX1_formerLoad 73 = .ok (.istore 7, 2) := by decide +kernel
theorem dX1_formerLoad_75 : decode cX1_formerLoad 75 = .ok (.iload_n 3, 1) := by decide +kernel
theorem dX1_formerLoad_76 : decode cX1_formerLoad 76 = .ok (.iconst (-1), 1) := by decide +kernel
theorem dX1_formerLoad_77 : decode cX1_formerLoad 77 = .ok (.if_icmp .eq 22, 3) := by decide +kernel
theorem dX1_formerLoad_80 : decode cX1_formerLoad 80 = .ok (.iload_n 2, 1) := by decide +kernel
theorem dX1_formerLoad_81 : decode cX1_formerLoad 81 = .ok (.ifCond .eq 12, 3) := by decide +kernel
theorem dX1_formerLoad_84 : decode cX1_formerLoad 84 = .ok (.iload 7, 2) := by decide +kernel
theorem dX1_formerLoad_86 : decode cX1_formerLoad 86 = .ok (.iload_n 3, 1) := by decide +kernel
theorem dX1_formerLoad_87 : decode cX1_formerLoad 87 = .ok (.if_icmp .le 15, 3) := by decide +kernel
theorem dX1_formerLoad_90 : decode cX1_formerLoad 90 = .ok (.goto 9, 3) := by decide +kernel
theorem dX1_formerLoad_93 : decode cX1_formerLoad 93 = .ok (.iload 7, 2) := by decide +kernel
theorem dX1_formerLoad_95 : decode cX1_formerLoad 95 = .ok (.iload_n 3, 1) := by decide +kernel
theorem dX1_formerLoad_96 : decode cX1_formerLoad 96 = .ok (.if_icmp .ge 6, 3) := by decide +kernel
theorem dX1_formerLoad_99 : decode cX1_formerLoad 99 = .ok (.iload 7, 2) := by decide +kernel
theorem dX1_formerLoad_101 : decode cX1_formerLoad 101 = .ok (.istore_n 3, 1) := by decide +kernel
theorem dX1_formerLoad_102 : decode cX1_formerLoad 102 = .ok (.iinc 5 1, 3) := by decide +kernel
theorem dX1_formerLoad_105 : decode cX1_formerLoad 105 = .ok (.goto (-89), 3) := by decide +kernel
theorem dX1_formerLoad_108 : decode cX1_formerLoad 108 = .ok (.iload_n 3, 1) := by decide +kernel
theorem dX1_formerLoad_109 : decode cX1_formerLoad 109 = .ok (.ireturn, 1) := by decide +kernel
