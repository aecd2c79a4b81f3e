theorem dX9_step_0 : decode cX9_step 0 = .ok (.aload_n 0, 1) := by decide +kernel
theorem dX9_step_1 : decode cX9_step 1 = .ok (.iconst 0, 1) := by decide +kernel
theorem dX9_step_2 : decode cX9_step 2 = .ok (.putfield 52, 3) := by decide +kernel
theorem dX9_step_5 : decode cX9_step 5 = .ok (.aload_n 0, 1) := by decide +kernel
theorem dX9_step_6 : decode cX9_step 6 = .ok (.getfield 425, 3) := by decide +kernel
theorem dX9_step_9 : decode cX9_step 9 = .ok (.ifnonnull 9, 3) := by decide +kernel
theorem dX9_step_12 : decode cX9_step 12 = .ok (.aload_n 0, 1) := by decide +kernel
theorem dX9_step_13 : decode cX9_step 13 = .ok (.iconst 1, 1) := by decide +kernel
theorem dX9_step_14 : decode cX9_step 14 = .ok (.invokevirtual 58, 3) := by decide +kernel
theorem dX9_step_17 : decode cX9_step 17 = .ok (.ireturn, 1) := by decide +kernel
theorem dX9_step_18 : decode cX9_step 18 = .ok (.aload_n 0, 1) := by decide +kernel
theorem dX9_step_19 : decode cX9_step 19 = .ok (.invokevirtual 513, 3) := by decide +kernel
theorem dX9_step_22 : decode cX9_step 22 = .ok (.ifCond .eq 12, 3) := by decide +kernel
theorem dX9_step_25 : decode cX9_step 25 = .ok (.aload_n 0, 1) := by decide +kernel
theorem dX9_step_26 : decode cX9_step 26 = .ok (.bipush 6, 2) := by decide +kernel
theorem dX9_step_28 : decode cX9_step 28 = .ok (.invokevirtual 58, 3) := by decide +kernel
theorem dX9_step_31 : decode cX9_step 31 = .ok (.goto 11, 3) := by decide +kernel
theorem dX9_step_34 : decode cX9_step 34 = .ok (.aload_n 0, 1) := by decide +kernel
theorem dX9_step_35 : decode cX9_step 35 = .ok (.aload_n 0, 1) := by decide +kernel
theorem dX9_step_36 : decode cX9_step 36 = .ok (.invokevirtual 516, 3) := by decide +kernel
theorem dX9_step_39 : decode cX9_step 39 = .ok (.invokevirtual 62, 3) := by decide +kernel
theorem dX9_step_42 : decode cX9_step 42 = .ok (.ireturn, 1) := by decide +kernel
theorem dX9_finish_0 : decode cX9_finish 0 = .ok (.aload_n 0, 1) := by decide +kernel
theorem dX9_finish_1 : decode cX9_finish 1 = .ok (.iconst 0, 1) := by decide +kernel
theorem dX9_finish_2 : decode cX9_finish 2 = .ok (.putfield 52, 3) := by decide +kernel
theorem dX9_finish_5 : decode cX9_finish 5 = .ok (.aload_n 0, 1) := by decide +kernel
theorem dX9_finish_6 : decode cX9_finish 6 = .ok (.getfield 425, 3) := by decide +kernel
theorem dX9_finish_9 : decode cX9_finish 9 = .ok (.ifnonnull 9, 3) := by decide +kernel
theorem dX9_finish_12 : decode cX9_finish 12 = .ok (.aload_n 0, 1) := by decide +kernel
theorem dX9_finish_13 : decode cX9_finish 13 = .ok (.iconst 1, 1) := by decide +kernel
theorem dX9_finish_14 : decode cX9_finish 14 = .ok (.invokevirtual 58, 3) := by decide +kernel
theorem dX9_finish_17 : decode cX9_finish 17 = .ok (.ireturn, 1) := by decide +kernel
theorem dX9_finish_18 : decode cX9_finish 18 = .ok (.iconst 0, 1) := by decide +kernel
theorem dX9_finish_19 : decode cX9_finish 19 = .ok (.istore_n 1, 1) := by decide +kernel
theorem dX9_finish_20 : decode cX9_finish 20 = .ok (.aload_n 0, 1) := by decide +kernel
theorem dX9_finish_21 : decode cX9_finish 21 = .ok (.invokevirtual 513, 3) := by decide +kernel
theorem dX9_finish_24 : decode cX9_finish 24 = .ok (.ifCond .ne 14, 3) := by decide +kernel
theorem dX9_finish_27 : decode cX9_finish 27 = .ok (.aload_n 0, 1) := by decide +kernel
theorem dX9_finish_28 : decode cX9_finish 28 = .ok (.invokevirtual 516, 3) := by decide +kernel
theorem dX9_finish_31 : decode cX9_finish 31 = .ok (.pop, 1) := by decide +kernel
theorem dX9_finish_32 : decode cX9_finish 32 = .ok (.iinc 1 1, 3) := by decide +kernel
theorem dX9_finish_35 : decode cX9_finish 35 = .ok (.goto (-15), 3) := by decide +kernel
theorem dX9_finish_38 : decode cX9_finish 38 = .ok (.aload_n 0, 1) := by decide +kernel
theorem dX9_finish_39 : decode cX9_finish 39 = .ok (.iload_n 1, 1) := by decide +kernel
theorem dX9_finish_40 : decode cX9_finish 40 = .ok (.invokevirtual 62, 3) := by decide +kernel
theorem dX9_finish_43 : decode cX9_finish 43 = .ok (.ireturn, 1) := by decide +kernel
theorem dX9_seconds_0 : decode cX9_seconds 0 = .ok (.aload_n 0, 1) := by decide +kernel
theorem dX9_seconds_1 : decode cX9_seconds 1 = .ok (.iconst 0, 1) := by decide +kernel
theorem dX9_seconds_2 : decode cX9_seconds 2 = .ok (.putfield 52, 3) := by decide +kernel
theorem dX9_seconds_5 : decode cX9_seconds 5 = .ok (.aload_n 0, 1) := by decide +kernel
theorem dX9_seconds_6 : decode cX9_seconds 6 = .ok (.iload_n 1, 1) := by decide +kernel
theorem dX9_seconds_7 : decode cX9_seconds 7 = .ok (.invokevirtual 452, 3) := by decide +kernel
theorem dX9_seconds_10 : decode cX9_seconds 10 = .ok (.ifCond .eq 20, 3) := by decide +kernel
theorem dX9_seconds_13 : decode cX9_seconds 13 = .ok (.aload_n 0, 1) := by decide +kernel
theorem dX9_seconds_14 : decode cX9_seconds 14 = .ok (.aload_n 0, 1) := by decide +kernel
theorem dX9_seconds_15 : decode cX9_seconds 15 = .ok (.getfield 21, 3) := by decide +kernel
theorem dX9_seconds_18 : decode cX9_seconds 18 = .ok (.sipush 410, 3) := by decide +kernel
theorem dX9_seconds_21 : decode cX9_seconds 21 = .ok (.iload_n 1, 1) := by decide +kernel
theorem dX9_seconds_22 : decode cX9_seconds 22 = .ok (.iadd, 1) := by decide +kernel
theorem dX9_seconds_23 : decode cX9_seconds 23 = .ok (.iaload, 1) := by decide +kernel
theorem dX9_seconds_24 : decode cX9_seconds 24 = .ok (.invokevirtual 62, 3) := by decide +kernel
theorem dX9_seconds_27 : decode cX9_seconds 27 = .ok (.goto 8, 3) := by decide +kernel
theorem dX9_seconds_30 : decode cX9_seconds 30 = .ok (.aload_n 0, 1) := by decide +kernel
theorem dX9_seconds_31 : decode cX9_seconds 31 = .ok (.iconst 1, 1) := by decide +kernel
theorem dX9_seconds_32 : decode cX9_seconds 32 = .ok (.invokevirtual 58, 3) := by decide +kernel
theorem dX9_seconds_35 : decode cX9_seconds 35 = .ok (.ireturn, 1) := by decide +kernel
theorem dX9_left_0 : decode cX9_left 0 = .ok (.aload_n 0, 1) := by decide +kernel
theorem dX9_left_1 : decode cX9_left 1 = .ok (.iconst 0, 1) := by decide +kernel
theorem dX9_left_2 : decode cX9_left 2 = .ok (.putfield 52, 3) := by decide +kernel
theorem dX9_left_5 : decode cX9_left 5 = .ok (.aload_n 0, 1) := by decide +kernel
theorem dX9_left_6 : decode cX9_left 6 = .ok (.iload_n 1, 1) := by decide +kernel
theorem dX9_left_7 : decode cX9_left 7 = .ok (.invokevirtual 452, 3) := by decide +kernel
theorem dX9_left_10 : decode cX9_left 10 = .ok (.ifCond .eq 24, 3) := by decide +kernel
theorem dX9_left_13 : decode cX9_left 13 = .ok (.aload_n 0, 1) := by decide +kernel
theorem dX9_left_14 : decode cX9_left 14 = .ok (.iload_n 2, 1) := by decide +kernel
theorem dX9_left_15 : decode cX9_left 15 = .ok (.invokevirtual 446, 3) := by decide +kernel
theorem dX9_left_18 : decode cX9_left 18 = .ok (.ifCond .eq 16, 3) := by decide +kernel
theorem dX9_left_21 : decode cX9_left 21 = .ok (.aload_n 0, 1) := by decide +kernel
theorem dX9_left_22 : decode cX9_left 22 = .ok (.aload_n 0, 1) := by decide +kernel
theorem dX9_left_23 : decode cX9_left 23 = .ok (.iload_n 1, 1) := by decide +kernel
theorem dX9_left_24 : decode cX9_left 24 = .ok (.iload_n 2, 1) := by decide +kernel
theorem dX9_left_25 : decode cX9_left 25 = .ok (.invokevirtual 481, 3) := by decide +kernel
theorem dX9_left_28 : decode cX9_left 28 = .ok (.invokevirtual 62, 3) := by decide +kernel
theorem dX9_left_31 : decode cX9_left 31 = .ok (.goto 8, 3) := by decide +kernel
theorem dX9_left_34 : decode cX9_left 34 = .ok (.aload_n 0, 1) := by decide +kernel
theorem dX9_left_35 : decode cX9_left 35 = .ok (.iconst 1, 1) := by decide +kernel
theorem dX9_left_36 : decode cX9_left 36 = .ok (.invokevirtual 58, 3) := by decide +kernel
theorem dX9_left_39 : decode cX9_left 39 = .ok (.ireturn, 1) := by decide +kernel
theorem dX9_traysIn_0 : decode cX9_traysIn 0 = .ok (.iconst 0, 1) := by decide +kernel
theorem dX9_traysIn_1 : decode cX9_traysIn 1 = .ok (.istore_n 2, 1) := by decide +kernel
theorem dX9_traysIn_2 : decode cX9_traysIn 2 = .ok (.iconst 0, 1) := by decide +kernel
theorem dX9_traysIn_3 : decode cX9_traysIn 3 = .ok (.istore_n 3, 1) := by decide +kernel
theorem dX9_traysIn_4 : decode cX9_traysIn 4 = .ok (.iload_n 3, 1) := by decide +kernel
theorem dX9_traysIn_5 : decode cX9_traysIn 5 = .ok (.aload_n 0, 1) := by decide +kernel
theorem dX9_traysIn_6 : decode cX9_traysIn 6 = .ok (.getfield 425, 3) := by decide +kernel
theorem dX9_traysIn_9 : decode cX9_traysIn 9 = .ok (.getfield 211, 3) := by decide +kernel
theorem dX9_traysIn_12 : decode cX9_traysIn 12 = .ok (.if_icmp .ge 26, 3) := by decide +kernel
theorem dX9_traysIn_15 : decode cX9_traysIn 15 = .ok (.iload_n 2, 1) := by decide +kernel
theorem dX9_traysIn_16 : decode cX9_traysIn 16 = .ok (.aload_n 0, 1) := by decide +kernel
theorem dX9_traysIn_17 : decode cX9_traysIn 17 = .ok (.getfield 21, 3) := by decide +kernel
theorem dX9_traysIn_20 : decode cX9_traysIn 20 = .ok (.bipush 10, 2) := by decide +kernel
theorem dX9_traysIn_22 : decode cX9_traysIn 22 = .ok (.iload_n 1, 1) := by decide +kernel
theorem dX9_traysIn_23 : decode cX9_traysIn 23 = .ok (.imul, 1) := by decide +kernel
theorem dX9_traysIn_24 : decode cX9_traysIn 24 = .ok (.bipush 6, 2) := by decide +kernel
theorem dX9_traysIn_26 : decode cX9_traysIn 26 = .ok (.iadd, 1) := by decide +kernel
theorem dX9_traysIn_27 : decode cX9_traysIn 27 = .ok (.iload_n 3, 1) := by decide +kernel
theorem dX9_traysIn_28 : decode cX9_traysIn 28 = .ok (.iadd, 1) := by decide +kernel
theorem dX9_traysIn_29 : decode cX9_traysIn 29 = .ok (.iaload, 1) := by decide +kernel
theorem dX9_traysIn_30 : decode cX9_traysIn 30 = .ok (.iadd, 1) := by decide +kernel
theorem dX9_traysIn_31 : decode cX9_traysIn 31 = .ok (.istore_n 2, 1) := by decide +kernel
theorem dX9_traysIn_32 : decode cX9_traysIn 32 = .ok (.iinc 3 1, 3) := by decide +kernel
theorem dX9_traysIn_35 : decode cX9_traysIn 35 = .ok (.goto (-31), 3) := by decide +kernel
theorem dX9_traysIn_38 : decode cX9_traysIn 38 = .ok (.iload_n 2, 1) := by decide +kernel
theorem dX9_traysIn_39 : decode cX9_traysIn 39 = .ok (.ireturn, 1) := by decide +kernel
theorem dX9_served_0 : decode cX9_served 0 = .ok (.aload_n 0, 1) := by decide +kernel
theorem dX9_served_1 : decode cX9_served 1 = .ok (.iconst 0, 1) := by decide +kernel
theorem dX9_served_2 : decode cX9_served 2 = .ok (.putfield 52, 3) := by decide +kernel
theorem dX9_served_5 : decode cX9_served 5 = .ok (.aload_n 0, 1) := by decide +kernel
theorem dX9_served_6 : decode cX9_served 6 = .ok (.iload_n 1, 1) := by decide +kernel
theorem dX9_served_7 : decode cX9_served 7 = .ok (.invokevirtual 434, 3) := by decide +kernel
theorem dX9_served_10 : decode cX9_served 10 = .ok (.ifCond .eq 13, 3) := by decide +kernel
theorem dX9_served_13 : decode cX9_served 13 = .ok (.iload_n 2, 1) := by decide +kernel
theorem dX9_served_14 : decode cX9_served 14 = .ok (.iconst 0, 1) := by decide +kernel
theorem dX9_served_15 : decode cX9_served 15 = .ok (.bipush 6, 2) := by decide +kernel
theorem dX9_served_17 : decode cX9_served 17 = .ok (.invokestatic 130, 3) := by decide +kernel
theorem dX9_served_20 : decode cX9_served 20 = .ok (.ifCond .ne 9, 3) := by decide +kernel
theorem dX9_served_23 : decode cX9_served 23 = .ok (.aload_n 0, 1) := by decide +kernel
theorem dX9_served_24 : decode cX9_served 24 = .ok (.iconst 1, 1) := by decide +kernel
theorem dX9_served_25 : decode cX9_served 25 = .ok (.invokevirtual 58, 3) := by decide +kernel
theorem dX9_served_28 : decode cX9_served 28 = .ok (.ireturn, 1) := by decide +kernel
theorem dX9_served_29 : decode cX9_served 29 = .ok (.aload_n 0, 1) := by decide +kernel
theorem dX9_served_30 : decode cX9_served 30 = .ok (.iload_n 1, 1) := by decide +kernel
theorem dX9_served_31 : decode cX9_served 31 = .ok (.invokevirtual 469, 3) := by decide +kernel
theorem dX9_served_34 : decode cX9_served 34 = .ok (.ifCond .ne 10, 3) := by decide +kernel
theorem dX9_served_37 : decode cX9_served 37 = .ok (.aload_n 0, 1) := by decide +kernel
theorem dX9_served_38 : decode cX9_served 38 = .ok (.bipush 6, 2) := by decide +kernel
theorem dX9_served_40 : decode cX9_served 40 = .ok (.invokevirtual 58, 3) := by decide +kernel
theorem dX9_served_43 : decode cX9_served 43 = .ok (.ireturn, 1) := by decide +kernel
theorem dX9_served_44 : decode cX9_served 44 = .ok (.aload_n 0, 1) := by decide +kernel
theorem dX9_served_45 : decode cX9_served 45 = .ok (.iload_n 2, 1) := by decide +kernel
theorem dX9_served_46 : decode cX9_served 46 = .ok (.bipush 6, 2) := by decide +kernel
theorem dX9_served_48 : decode cX9_served 48 = .ok (.if_icmp .ge 17, 3) := by decide +kernel
theorem dX9_served_51 : decode cX9_served 51 = .ok (.aload_n 0, 1) := by decide +kernel
theorem dX9_served_52 : decode cX9_served 52 = .ok (.getfield 21, 3) := by decide +kernel
theorem dX9_served_55 : decode cX9_served 55 = .ok (.bipush 10, 2) := by decide +kernel
theorem dX9_served_57 : decode cX9_served 57 = .ok (.iload_n 1, 1) := by decide +kernel
theorem dX9_served_58 : decode cX9_served 58 = .ok (.imul, 1) := by decide +kernel
theorem dX9_served_59 : decode cX9_served 59 = .ok (.iload_n 2, 1) := by decide +kernel
theorem dX9_served_60 : decode cX9_served 60 = .ok (.iadd, 1) := by decide +kernel
theorem dX9_served_61 : decode cX9_served 61 = .ok (.iaload, 1) := by decide +kernel
theorem dX9_served_62 : decode cX9_served 62 = .ok (.goto 8, 3) := by decide +kernel
theorem dX9_served_65 : decode cX9_served 65 = .ok (.aload_n 0, 1) := by decide +kernel
theorem dX9_served_66 : decode cX9_served 66 = .ok (.iload_n 1, 1) := by decide +kernel
theorem dX9_served_67 : decode cX9_served 67 = .ok (.invokevirtual 519, 3) := by decide +kernel
theorem dX9_served_70 : decode cX9_served 70 = .ok (.invokevirtual 62, 3) := by decide +kernel
theorem dX9_served_73 : decode cX9_served 73 = .ok (.ireturn, 1) := by decide +kernel
theorem dX9_trays_0 : decode cX9_trays 0 = .ok (.aload_n 0, 1) := by decide +kernel
theorem dX9_trays_1 : decode cX9_trays 1 = .ok (.iconst 0, 1) := by decide +kernel
theorem dX9_trays_2 : decode cX9_trays 2 = .ok (.putfield 52, 3) := by decide +kernel
theorem dX9_trays_5 : decode cX9_trays 5 = .ok (.aload_n 0, 1) := by decide +kernel
theorem dX9_trays_6 : decode cX9_trays 6 = .ok (.iload_n 1, 1) := by decide +kernel
theorem dX9_trays_7 : decode cX9_trays 7 = .ok (.invokevirtual 434, 3) := by decide +kernel
theorem dX9_trays_10 : decode cX9_trays 10 = .ok (.ifCond .eq 11, 3) := by decide +kernel
theorem dX9_trays_13 : decode cX9_trays 13 = .ok (.aload_n 0, 1) := by decide +kernel
theorem dX9_trays_14 : decode cX9_trays 14 = .ok (.iload_n 2, 1) := by decide +kernel
theorem dX9_trays_15 : decode cX9_trays 15 = .ok (.invokevirtual 446, 3) := by decide +kernel
theorem dX9_trays_18 : decode cX9_trays 18 = .ok (.ifCond .ne 9, 3) := by decide +kernel
theorem dX9_trays_21 : decode cX9_trays 21 = .ok (.aload_n 0, 1) := by decide +kernel
theorem dX9_trays_22 : decode cX9_trays 22 = .ok (.iconst 1, 1) := by decide +kernel
theorem dX9_trays_23 : decode cX9_trays 23 = .ok (.invokevirtual 58, 3) := by decide +kernel
theorem dX9_trays_26 : decode cX9_trays 26 = .ok (.ireturn, 1) := by decide +kernel
theorem dX9_trays_27 : decode cX9_trays 27 = .ok (.aload_n 0, 1) := by decide +kernel
theorem dX9_trays_28 : decode cX9_trays 28 = .ok (.iload_n 1, 1) := by decide +kernel
theorem dX9_trays_29 : decode cX9_trays 29 = .ok (.invokevirtual 469, 3) := by decide +kernel
theorem dX9_trays_32 : decode cX9_trays 32 = .ok (.ifCond .eq 24, 3) := by decide +kernel
theorem dX9_trays_35 : decode cX9_trays 35 = .ok (.aload_n 0, 1) := by decide +kernel
theorem dX9_trays_36 : decode cX9_trays 36 = .ok (.aload_n 0, 1) := by decide +kernel
theorem dX9_trays_37 : decode cX9_trays 37 = .ok (.getfield 21, 3) := by decide +kernel
theorem dX9_trays_40 : decode cX9_trays 40 = .ok (.bipush 10, 2) := by decide +kernel
theorem dX9_trays_42 : decode cX9_trays 42 = .ok (.iload_n 1, 1) := by decide +kernel
theorem dX9_trays_43 : decode cX9_trays 43 = .ok (.imul, 1) := by decide +kernel
theorem dX9_trays_44 : decode cX9_trays 44 = .ok (.bipush 6, 2) := by decide +kernel
theorem dX9_trays_46 : decode cX9_trays 46 = .ok (.iadd, 1) := by decide +kernel
theorem dX9_trays_47 : decode cX9_trays 47 = .ok (.iload_n 2, 1) := by decide +kernel
theorem dX9_trays_48 : decode cX9_trays 48 = .ok (.iadd, 1) := by decide +kernel
theorem dX9_trays_49 : decode cX9_trays 49 = .ok (.iaload, 1) := by decide +kernel
theorem dX9_trays_50 : decode cX9_trays 50 = .ok (.invokevirtual 62, 3) := by decide +kernel
theorem dX9_trays_53 : decode cX9_trays 53 = .ok (.goto 9, 3) := by decide +kernel
theorem dX9_trays_56 : decode cX9_trays 56 = .ok (.aload_n 0, 1) := by decide +kernel
theorem dX9_trays_57 : decode cX9_trays 57 = .ok (.bipush 6, 2) := by decide +kernel
theorem dX9_trays_59 : decode cX9_trays 59 = .ok (.invokevirtual 58, 3) := by decide +kernel
theorem dX9_trays_62 : decode cX9_trays 62 = .ok (.ireturn, 1) := by decide +kernel
theorem dX9_got_0 : decode cX9_got 0 = .ok (.aload_n 0, 1) := by decide +kernel
theorem dX9_got_1 : decode cX9_got 1 = .ok (.iconst 0, 1) := by decide +kernel
theorem dX9_got_2 : decode cX9_got 2 = .ok (.putfield 52, 3) := by decide +kernel
theorem dX9_got_5 : decode cX9_got 5 = .ok (.aload_n 0, 1) := by decide +kernel
theorem dX9_got_6 : decode cX9_got 6 = .ok (.getfield 425, 3) := by decide +kernel
theorem dX9_got_9 : decode cX9_got 9 = .ok (.ifnull 37, 3) := by decide +kernel
theorem dX9_got_12 : decode cX9_got 12 = .ok (.iload_n 1, 1) := by decide +kernel
theorem dX9_got_13 : decode cX9_got 13 = .ok (.ifCond .lt 33, 3) := by decide +kernel
theorem dX9_got_16 : decode cX9_got 16 = .ok (.iload_n 1, 1) := by decide +kernel
theorem dX9_got_17 : decode cX9_got 17 = .ok (.aload_n 0, 1) := by decide +kernel
theorem dX9_got_18 : decode cX9_got 18 = .ok (.getfield 425, 3) := by decide +kernel
theorem dX9_got_21 : decode cX9_got 21 = .ok (.getfield 365, 3) := by decide +kernel
theorem dX9_got_24 : decode cX9_got 24 = .ok (.if_icmp .ge 22, 3) := by decide +kernel
theorem dX9_got_27 : decode cX9_got 27 = .ok (.aload_n 0, 1) := by decide +kernel
theorem dX9_got_28 : decode cX9_got 28 = .ok (.getfield 425, 3) := by decide +kernel
theorem dX9_got_31 : decode cX9_got 31 = .ok (.getfield 375, 3) := by decide +kernel
theorem dX9_got_34 : decode cX9_got 34 = .ok (.iload_n 1, 1) := by decide +kernel
theorem dX9_got_35 : decode cX9_got 35 = .ok (.iaload, 1) := by decide +kernel
theorem dX9_got_36 : decode cX9_got 36 = .ok (.aload_n 0, 1) := by decide +kernel
theorem dX9_got_37 : decode cX9_got 37 = .ok (.getfield 425, 3) := by decide +kernel
theorem dX9_got_40 : decode cX9_got 40 = .ok (.getfield 205, 3) := by decide +kernel
theorem dX9_got_43 : decode cX9_got 43 = .ok (.if_icmp .le 9, 3) := by decide +kernel
theorem dX9_got_46 : decode cX9_got 46 = .ok (.aload_n 0, 1) := by decide +kernel
theorem dX9_got_47 : decode cX9_got 47 = .ok (.iconst 1, 1) := by decide +kernel
theorem dX9_got_48 : decode cX9_got 48 = .ok (.invokevirtual 58, 3) := by decide +kernel
theorem dX9_got_51 : decode cX9_got 51 = .ok (.ireturn, 1) := by decide +kernel
theorem dX9_got_52 : decode cX9_got 52 = .ok (.aload_n 0, 1) := by decide +kernel
theorem dX9_got_53 : decode cX9_got 53 = .ok (.aload_n 0, 1) := by decide +kernel
theorem dX9_got_54 : decode cX9_got 54 = .ok (.getfield 425, 3) := by decide +kernel
theorem dX9_got_57 : decode cX9_got 57 = .ok (.getfield 375, 3) := by decide +kernel
theorem dX9_got_60 : decode cX9_got 60 = .ok (.iload_n 1, 1) := by decide +kernel
theorem dX9_got_61 : decode cX9_got 61 = .ok (.iaload, 1) := by decide +kernel
theorem dX9_got_62 : decode cX9_got 62 = .ok (.invokevirtual 469, 3) := by decide +kernel
theorem dX9_got_65 : decode cX9_got 65 = .ok (.ifCond .eq 20, 3) := by decide +kernel
theorem dX9_got_68 : decode cX9_got 68 = .ok (.aload_n 0, 1) := by decide +kernel
theorem dX9_got_69 : decode cX9_got 69 = .ok (.aload_n 0, 1) := by decide +kernel
theorem dX9_got_70 : decode cX9_got 70 = .ok (.getfield 21, 3) := by decide +kernel
theorem dX9_got_73 : decode cX9_got 73 = .ok (.sipush 423, 3) := by decide +kernel
theorem dX9_got_76 : decode cX9_got 76 = .ok (.iload_n 1, 1) := by decide +kernel
theorem dX9_got_77 : decode cX9_got 77 = .ok (.iadd, 1) := by decide +kernel
theorem dX9_got_78 : decode cX9_got 78 = .ok (.iaload, 1) := by decide +kernel
theorem dX9_got_79 : decode cX9_got 79 = .ok (.invokevirtual 62, 3) := by decide +kernel
theorem dX9_got_82 : decode cX9_got 82 = .ok (.goto 9, 3) := by decide +kernel
theorem dX9_got_85 : decode cX9_got 85 = .ok (.aload_n 0, 1) := by decide +kernel
theorem dX9_got_86 : decode cX9_got 86 = .ok (.bipush 6, 2) := by decide +kernel
theorem dX9_got_88 : decode cX9_got 88 = .ok (.invokevirtual 58, 3) := by decide +kernel
theorem dX9_got_91 : decode cX9_got 91 = .ok (.ireturn, 1) := by decide +kernel
theorem dX9_sum_0 : decode cX9_sum 0 = .ok (.aload_n 0, 1) := by decide +kernel
theorem dX9_sum_1 : decode cX9_sum 1 = .ok (.iconst 0, 1) := by decide +kernel
theorem dX9_sum_2 : decode cX9_sum 2 = .ok (.putfield 52, 3) := by decide +kernel
theorem dX9_sum_5 : decode cX9_sum 5 = .ok (.aload_n 0, 1) := by decide +kernel
theorem dX9_sum_6 : decode cX9_sum 6 = .ok (.getfield 425, 3) := by decide +kernel
theorem dX9_sum_9 : decode cX9_sum 9 = .ok (.ifnull 12, 3) := by decide +kernel
theorem dX9_sum_12 : decode cX9_sum 12 = .ok (.iload_n 1, 1) := by decide +kernel
theorem dX9_sum_13 : decode cX9_sum 13 = .ok (.iconst 0, 1) := by decide +kernel
theorem dX9_sum_14 : decode cX9_sum 14 = .ok (.iconst 5, 1) := by decide +kernel
theorem dX9_sum_15 : decode cX9_sum 15 = .ok (.invokestatic 130, 3) := by decide +kernel
theorem dX9_sum_18 : decode cX9_sum 18 = .ok (.ifCond .ne 9, 3) := by decide +kernel
theorem dX9_sum_21 : decode cX9_sum 21 = .ok (.aload_n 0, 1) := by decide +kernel
theorem dX9_sum_22 : decode cX9_sum 22 = .ok (.iconst 1, 1) := by decide +kernel
theorem dX9_sum_23 : decode cX9_sum 23 = .ok (.invokevirtual 58, 3) := by decide +kernel
theorem dX9_sum_26 : decode cX9_sum 26 = .ok (.ireturn, 1) := by decide +kernel
theorem dX9_sum_27 : decode cX9_sum 27 = .ok (.iload_n 1, 1) := by decide +kernel
theorem dX9_sum_28 : decode cX9_sum 28 = .ok (.iconst 4, 1) := by decide +kernel
theorem dX9_sum_29 : decode cX9_sum 29 = .ok (.if_icmp .ne 16, 3) := by decide +kernel
theorem dX9_sum_32 : decode cX9_sum 32 = .ok (.aload_n 0, 1) := by decide +kernel
theorem dX9_sum_33 : decode cX9_sum 33 = .ok (.aload_n 0, 1) := by decide +kernel
theorem dX9_sum_34 : decode cX9_sum 34 = .ok (.getfield 21, 3) := by decide +kernel
theorem dX9_sum_37 : decode cX9_sum 37 = .ok (.sipush 422, 3) := by decide +kernel
theorem dX9_sum_40 : decode cX9_sum 40 = .ok (.iaload, 1) := by decide +kernel
theorem dX9_sum_41 : decode cX9_sum 41 = .ok (.invokevirtual 62, 3) := by decide +kernel
theorem dX9_sum_44 : decode cX9_sum 44 = .ok (.ireturn, 1) := by decide +kernel
theorem dX9_sum_45 : decode cX9_sum 45 = .ok (.iload_n 1, 1) := by decide +kernel
theorem dX9_sum_46 : decode cX9_sum 46 = .ok (.iconst 5, 1) := by decide +kernel
theorem dX9_sum_47 : decode cX9_sum 47 = .ok (.if_icmp .ne 16, 3) := by decide +kernel
theorem dX9_sum_50 : decode cX9_sum 50 = .ok (.aload_n 0, 1) := by decide +kernel
theorem dX9_sum_51 : decode cX9_sum 51 = .ok (.aload_n 0, 1) := by decide +kernel
theorem dX9_sum_52 : decode cX9_sum 52 = .ok (.getfield 21, 3) := by decide +kernel
theorem dX9_sum_55 : decode cX9_sum 55 = .ok (.sipush 430, 3) := by decide +kernel
theorem dX9_sum_58 : decode cX9_sum 58 = .ok (.iaload, 1) := by decide +kernel
theorem dX9_sum_59 : decode cX9_sum 59 = .ok (.invokevirtual 62, 3) := by decide +kernel
theorem dX9_sum_62 : decode cX9_sum 62 = .ok (.ireturn, 1) := by decide +kernel
theorem dX9_sum_63 : decode cX9_sum 63 = .ok (.iconst 0, 1) := by decide +kernel
theorem dX9_sum_64 : decode cX9_sum 64 = .ok (.istore_n 2, 1) := by decide +kernel
theorem dX9_sum_65 : decode cX9_sum 65 = .ok (.iconst 1, 1) := by decide +kernel
theorem dX9_sum_66 : decode cX9_sum 66 = .ok (.istore_n 3, 1) := by decide +kernel
theorem dX9_sum_67 : decode cX9_sum 67 = .ok (.iload_n 3, 1) := by decide +kernel
theorem dX9_sum_68 : decode cX9_sum 68 = .ok (.aload_n 0, 1) := by decide +kernel
theorem dX9_sum_69 : decode cX9_sum 69 = .ok (.getfield 425, 3) := by decide +kernel
theorem dX9_sum_72 : decode cX9_sum 72 = .ok (.getfield 205, 3) := by decide +kernel
theorem dX9_sum_75 : decode cX9_sum 75 = .ok (.if_icmp .gt 39, 3) := by decide +kernel
theorem dX9_sum_78 : decode cX9_sum 78 = .ok (.iload_n 2, 1) := by decide +kernel
theorem dX9_sum_79 : decode cX9_sum 79 = .ok (.iload_n 1, 1) := by decide +kernel
theorem dX9_sum_80 : decode cX9_sum 80 = .ok (.ifCond .ne 11, 3) := by decide +kernel
theorem dX9_sum_83 : decode cX9_sum 83 = .ok (.aload_n 0, 1) := by decide +kernel
theorem dX9_sum_84 : decode cX9_sum 84 = .ok (.iload_n 3, 1) := by decide +kernel
theorem dX9_sum_85 : decode cX9_sum 85 = .ok (.invokevirtual 519, 3) := by decide +kernel
theorem dX9_sum_88 : decode cX9_sum 88 = .ok (.goto 18, 3) := by decide +kernel
theorem dX9_sum_91 : decode cX9_sum 91 = .ok (.aload_n 0, 1) := by decide +kernel
theorem dX9_sum_92 : decode cX9_sum 92 = .ok (.getfield 21, 3) := by decide +kernel
theorem dX9_sum_95 : decode cX9_sum 95 = .ok (.bipush 10, 2) := by decide +kernel
theorem dX9_sum_97 : decode cX9_sum 97 = .ok (.iload_n 3, 1) := by decide +kernel
theorem dX9_sum_98 : decode cX9_sum 98 = .ok (.imul, 1) := by decide +kernel
theorem dX9_sum_99 : decode cX9_sum 99 = .ok (.iconst 3, 1) := by decide +kernel
theorem dX9_sum_100 : decode cX9_sum 100 = .ok (.iadd, 1) := by decide +kernel
theorem dX9_sum_101 : decode cX9_sum 101 = .ok (.iload_n 1, 1) := by decide +kernel
theorem dX9_sum_102 : decode cX9_sum 102 = .ok (.iadd, 1) := by decide +kernel
theorem dX9_sum_103 : decode cX9_sum 103 = .ok (.iconst 1, 1) := by decide +kernel
theorem dX9_sum_104 : decode cX9_sum 104 = .ok (.isub, 1) := by decide +kernel
theorem dX9_sum_105 : decode cX9_sum 105 = .ok (.iaload, 1) := by decide +kernel
theorem dX9_sum_106 : decode cX9_sum 106 = .ok (.iadd, 1) := by decide +kernel
theorem dX9_sum_107 : decode cX9_sum 107 = .ok (.istore_n 2, 1) := by decide +kernel
theorem dX9_sum_108 : decode cX9_sum 108 = .ok (.iinc 3 1, 3) := by decide +kernel
theorem dX9_sum_111 : decode cX9_sum 111 = .ok (.goto (-44), 3) := by decide +kernel
theorem dX9_sum_114 : decode cX9_sum 114 = .ok (.aload_n 0, 1) := by decide +kernel
theorem dX9_sum_115 : decode cX9_sum 115 = .ok (.iload_n 2, 1) := by decide +kernel
theorem dX9_sum_116 : decode cX9_sum 116 = .ok (.invokevirtual 62, 3) := by decide +kernel
theorem dX9_sum_119 : decode cX9_sum 119 = .ok (.ireturn, 1) := by decide +kernel
theorem dX9_heat_0 : decode cX9_heat 0 = .ok (.aload_n 0, 1) := by decide +kernel
theorem dX9_heat_1 : decode cX9_heat 1 = .ok (.iconst 0, 1) := by decide +kernel
theorem dX9_heat_2 : decode cX9_heat 2 = .ok (.putfield 52, 3) := by decide +kernel
theorem dX9_heat_5 : decode cX9_heat 5 = .ok (.aload_n 0, 1) := by decide +kernel
theorem dX9_heat_6 : decode cX9_heat 6 = .ok (.iload_n 1, 1) := by decide +kernel
theorem dX9_heat_7 : decode cX9_heat 7 = .ok (.invokevirtual 446, 3) := by decide +kernel
theorem dX9_heat_10 : decode cX9_heat 10 = .ok (.ifCond .ne 9, 3) := by decide +kernel
theorem dX9_heat_13 : decode cX9_heat 13 = .ok (.aload_n 0, 1) := by decide +kernel
theorem dX9_heat_14 : decode cX9_heat 14 = .ok (.iconst 1, 1) := by decide +kernel
theorem dX9_heat_15 : decode cX9_heat 15 = .ok (.invokevirtual 522, 3) := by decide +kernel
theorem dX9_heat_18 : decode cX9_heat 18 = .ok (.ireturn, 1) := by decide +kernel
theorem dX9_heat_19 : decode cX9_heat 19 = .ok (.iload_n 2, 1) := by decide +kernel
theorem dX9_heat_20 : decode cX9_heat 20 = .ok (.iconst 0, 1) := by decide +kernel
theorem dX9_heat_21 : decode cX9_heat 21 = .ok (.sipush 999, 3) := by decide +kernel
theorem dX9_heat_24 : decode cX9_heat 24 = .ok (.invokestatic 130, 3) := by decide +kernel
theorem dX9_heat_27 : decode cX9_heat 27 = .ok (.ifCond .eq 16, 3) := by decide +kernel
theorem dX9_heat_30 : decode cX9_heat 30 = .ok (.aload_n 0, 1) := by decide +kernel
theorem dX9_heat_31 : decode cX9_heat 31 = .ok (.aload_n 0, 1) := by decide +kernel
theorem dX9_heat_32 : decode cX9_heat 32 = .ok (.iload_n 1, 1) := by decide +kernel
theorem dX9_heat_33 : decode cX9_heat 33 = .ok (.iload_n 2, 1) := by decide +kernel
theorem dX9_heat_34 : decode cX9_heat 34 = .ok (.invokevirtual 478, 3) := by decide +kernel
theorem dX9_heat_37 : decode cX9_heat 37 = .ok (.invokevirtual 62, 3) := by decide +kernel
theorem dX9_heat_40 : decode cX9_heat 40 = .ok (.goto 8, 3) := by decide +kernel
theorem dX9_heat_43 : decode cX9_heat 43 = .ok (.aload_n 0, 1) := by decide +kernel
theorem dX9_heat_44 : decode cX9_heat 44 = .ok (.iconst 2, 1) := by decide +kernel
theorem dX9_heat_45 : decode cX9_heat 45 = .ok (.invokevirtual 522, 3) := by decide +kernel
theorem dX9_heat_48 : decode cX9_heat 48 = .ok (.ireturn, 1) := by decide +kernel
theorem dX9_cold_0 : decode cX9_cold 0 = .ok (.aload_n 0, 1) := by decide +kernel
theorem dX9_cold_1 : decode cX9_cold 1 = .ok (.iconst 0, 1) := by decide +kernel
theorem dX9_cold_2 : decode cX9_cold 2 = .ok (.putfield 52, 3) := by decide +kernel
theorem dX9_cold_5 : decode cX9_cold 5 = .ok (.aload_n 0, 1) := by decide +kernel
theorem dX9_cold_6 : decode cX9_cold 6 = .ok (.iload_n 1, 1) := by decide +kernel
theorem dX9_cold_7 : decode cX9_cold 7 = .ok (.invokevirtual 446, 3) := by decide +kernel
theorem dX9_cold_10 : decode cX9_cold 10 = .ok (.ifCond .ne 9, 3) := by decide +kernel
theorem dX9_cold_13 : decode cX9_cold 13 = .ok (.aload_n 0, 1) := by decide +kernel
theorem dX9_cold_14 : decode cX9_cold 14 = .ok (.iconst 1, 1) := by decide +kernel
theorem dX9_cold_15 : decode cX9_cold 15 = .ok (.invokevirtual 58, 3) := by decide +kernel
theorem dX9_cold_18 : decode cX9_cold 18 = .ok (.ireturn, 1) := by decide +kernel
theorem dX9_cold_19 : decode cX9_cold 19 = .ok (.iload_n 2, 1) := by decide +kernel
theorem dX9_cold_20 : decode cX9_cold 20 = .ok (.iconst 0, 1) := by decide +kernel
theorem dX9_cold_21 : decode cX9_cold 21 = .ok (.sipush 999, 3) := by decide +kernel
theorem dX9_cold_24 : decode cX9_cold 24 = .ok (.invokestatic 130, 3) := by decide +kernel
theorem dX9_cold_27 : decode cX9_cold 27 = .ok (.ifCond .ne 9, 3) := by decide +kernel
theorem dX9_cold_30 : decode cX9_cold 30 = .ok (.aload_n 0, 1) := by decide +kernel
theorem dX9_cold_31 : decode cX9_cold 31 = .ok (.iconst 2, 1) := by decide +kernel
theorem dX9_cold_32 : decode cX9_cold 32 = .ok (.invokevirtual 58, 3) := by decide +kernel
theorem dX9_cold_35 : decode cX9_cold 35 = .ok (.ireturn, 1) := by decide +kernel
theorem dX9_cold_36 : decode cX9_cold 36 = .ok (.iload_n 2, 1) := by decide +kernel
theorem dX9_cold_37 : decode cX9_cold 37 = .ok (.istore_n 3, 1) := by decide +kernel
theorem dX9_cold_38 : decode cX9_cold 38 = .ok (.iload_n 3, 1) := by decide +kernel
theorem dX9_cold_39 : decode cX9_cold 39 = .ok (.sipush 999, 3) := by decide +kernel
theorem dX9_cold_42 : decode cX9_cold 42 = .ok (.if_icmp .gt 31, 3) := by decide +kernel
theorem dX9_cold_45 : decode cX9_cold 45 = .ok (.aload_n 0, 1) := by decide +kernel
theorem dX9_cold_46 : decode cX9_cold 46 = .ok (.iload_n 1, 1) := by decide +kernel
theorem dX9_cold_47 : decode cX9_cold 47 = .ok (.iload_n 3, 1) := by decide +kernel
theorem dX9_cold_48 : decode cX9_cold 48 = .ok (.invokevirtual 478, 3) := by decide +kernel
theorem dX9_cold_51 : decode cX9_cold 51 = .ok (.aload_n 0, 1) := by decide +kernel
theorem dX9_cold_52 : decode cX9_cold 52 = .ok (.getfield 425, 3) := by decide +kernel
theorem dX9_cold_55 : decode cX9_cold 55 = .ok (.getfield 208, 3) := by decide +kernel
theorem dX9_cold_58 : decode cX9_cold 58 = .ok (.if_icmp .ge 9, 3) := by decide +kernel
theorem dX9_cold_61 : decode cX9_cold 61 = .ok (.aload_n 0, 1) := by decide +kernel
theorem dX9_cold_62 : decode cX9_cold 62 = .ok (.iload_n 3, 1) := by decide +kernel
theorem dX9_cold_63 : decode cX9_cold 63 = .ok (.invokevirtual 62, 3) := by decide +kernel
theorem dX9_cold_66 : decode cX9_cold 66 = .ok (.ireturn, 1) := by decide +kernel
theorem dX9_cold_67 : decode cX9_cold 67 = .ok (.iinc 3 1, 3) := by decide +kernel
theorem dX9_cold_70 : decode cX9_cold 70 = .ok (.goto (-32), 3) := by decide +kernel
theorem dX9_cold_73 : decode cX9_cold 73 = .ok (.aload_n 0, 1) := by decide +kernel
theorem dX9_cold_74 : decode cX9_cold 74 = .ok (.bipush (-2), 2) := by decide +kernel
theorem dX9_cold_76 : decode cX9_cold 76 = .ok (.invokevirtual 62, 3) := by decide +kernel
theorem dX9_cold_79 : decode cX9_cold 79 = .ok (.ireturn, 1) := by decide +kernel
theorem dX9_mark_0 : decode cX9_mark 0 = .ok (.aload_n 0, 1) := by decide +kernel
theorem dX9_mark_1 : decode cX9_mark 1 = .ok (.iconst 0, 1) := by decide +kernel
theorem dX9_mark_2 : decode cX9_mark 2 = .ok (.putfield 52, 3) := by decide +kernel
theorem dX9_mark_5 : decode cX9_mark 5 = .ok (.aload_n 0, 1) := by decide +kernel
theorem dX9_mark_6 : decode cX9_mark 6 = .ok (.getfield 425, 3) := by decide +kernel
theorem dX9_mark_9 : decode cX9_mark 9 = .ok (.ifnonnull 9, 3) := by decide +kernel
theorem dX9_mark_12 : decode cX9_mark 12 = .ok (.aload_n 0, 1) := by decide +kernel
theorem dX9_mark_13 : decode cX9_mark 13 = .ok (.iconst 1, 1) := by decide +kernel
theorem dX9_mark_14 : decode cX9_mark 14 = .ok (.invokevirtual 58, 3) := by decide +kernel
theorem dX9_mark_17 : decode cX9_mark 17 = .ok (.ireturn, 1) := by decide +kernel
theorem dX9_mark_18 : decode cX9_mark 18 = .ok (.aload_n 0, 1) := by decide +kernel
theorem dX9_mark_19 : decode cX9_mark 19 = .ok (.getfield 428, 3) := by decide +kernel
theorem dX9_mark_22 : decode cX9_mark 22 = .ok (.iconst 4, 1) := by decide +kernel
theorem dX9_mark_23 : decode cX9_mark 23 = .ok (.if_icmp .ne 9, 3) := by decide +kernel
theorem dX9_mark_26 : decode cX9_mark 26 = .ok (.aload_n 0, 1) := by decide +kernel
theorem dX9_mark_27 : decode cX9_mark 27 = .ok (.iconst 3, 1) := by decide +kernel
theorem dX9_mark_28 : decode cX9_mark 28 = .ok (.invokevirtual 58, 3) := by decide +kernel
theorem dX9_mark_31 : decode cX9_mark 31 = .ok (.ireturn, 1) := by decide +kernel
theorem dX9_mark_32 : decode cX9_mark 32 = .ok (.iconst 0, 1) := by decide +kernel
theorem dX9_mark_33 : decode cX9_mark 33 = .ok (.istore_n 1, 1) := by decide +kernel
theorem dX9_mark_34 : decode cX9_mark 34 = .ok (.iload_n 1, 1) := by decide +kernel
theorem dX9_mark_35 : decode cX9_mark 35 = .ok (.sipush 431, 3) := by decide +kernel
theorem dX9_mark_38 : decode cX9_mark 38 = .ok (.if_icmp .ge 30, 3) := by decide +kernel
theorem dX9_mark_41 : decode cX9_mark 41 = .ok (.aload_n 0, 1) := by decide +kernel
theorem dX9_mark_42 : decode cX9_mark 42 = .ok (.getfield 24, 3) := by decide +kernel
theorem dX9_mark_45 : decode cX9_mark 45 = .ok (.sipush 431, 3) := by decide +kernel
theorem dX9_mark_48 : decode cX9_mark 48 = .ok (.aload_n 0, 1) := by decide +kernel
theorem dX9_mark_49 : decode cX9_mark 49 = .ok (.getfield 428, 3) := by decide +kernel
theorem dX9_mark_52 : decode cX9_mark 52 = .ok (.imul, 1) := by decide +kernel
theorem dX9_mark_53 : decode cX9_mark 53 = .ok (.iload_n 1, 1) := by decide +kernel
theorem dX9_mark_54 : decode cX9_mark 54 = .ok (.iadd, 1) := by decide +kernel
theorem dX9_mark_55 : decode cX9_mark 55 = .ok (.aload_n 0, 1) := by decide +kernel
theorem dX9_mark_56 : decode cX9_mark 56 = .ok (.getfield 21, 3) := by decide +kernel
theorem dX9_mark_59 : decode cX9_mark 59 = .ok (.iload_n 1, 1) := by decide +kernel
theorem dX9_mark_60 : decode cX9_mark 60 = .ok (.iaload, 1) := by decide +kernel
theorem dX9_mark_61 : decode cX9_mark 61 = .ok (.iastore, 1) := by decide +kernel
theorem dX9_mark_62 : decode cX9_mark 62 = .ok (.iinc 1 1, 3) := by decide +kernel
theorem dX9_mark_65 : decode cX9_mark 65 = .ok (.goto (-31), 3) := by decide +kernel
theorem dX9_mark_68 : decode cX9_mark 68 = .ok (.aload_n 0, 1) := by decide +kernel
theorem dX9_mark_69 : decode cX9_mark 69 = .ok (.dup, 1) := by decide +kernel
theorem dX9_mark_70 : decode cX9_mark 70 = .ok (.getfield 428, 3) := by decide +kernel
theorem dX9_mark_73 : decode cX9_mark 73 = .ok (.iconst 1, 1) := by decide +kernel
theorem dX9_mark_74 : decode cX9_mark 74 = .ok (.iadd, 1) := by decide +kernel
theorem dX9_mark_75 : decode cX9_mark 75 = .ok (.putfield 428, 3) := by decide +kernel
theorem dX9_mark_78 : decode cX9_mark 78 = .ok (.aload_n 0, 1) := by decide +kernel
theorem dX9_mark_79 : decode cX9_mark 79 = .ok (.aload_n 0, 1) := by decide +kernel
theorem dX9_mark_80 : decode cX9_mark 80 = .ok (.getfield 428, 3) := by decide +kernel
theorem dX9_mark_83 : decode cX9_mark 83 = .ok (.iconst 1, 1) := by decide +kernel
theorem dX9_mark_84 : decode cX9_mark 84 = .ok (.isub, 1) := by decide +kernel
theorem dX9_mark_85 : decode cX9_mark 85 = .ok (.invokevirtual 62, 3) := by decide +kernel
theorem dX9_mark_88 : decode cX9_mark 88 = .ok (.ireturn, 1) := by decide +kernel
theorem dX9_back_0 : decode cX9_back 0 = .ok (.aload_n 0, 1) := by decide +kernel
theorem dX9_back_1 : decode cX9_back 1 = .ok (.iconst 0, 1) := by decide +kernel
theorem dX9_back_2 : decode cX9_back 2 = .ok (.putfield 52, 3) := by decide +kernel
theorem dX9_back_5 : decode cX9_back 5 = .ok (.aload_n 0, 1) := by decide +kernel
theorem dX9_back_6 : decode cX9_back 6 = .ok (.getfield 425, 3) := by decide +kernel
theorem dX9_back_9 : decode cX9_back 9 = .ok (.ifnull 15, 3) := by decide +kernel
theorem dX9_back_12 : decode cX9_back 12 = .ok (.iload_n 1, 1) := by decide +kernel
theorem dX9_back_13 : decode cX9_back 13 = .ok (.ifCond .lt 11, 3) := by decide +kernel
theorem dX9_back_16 : decode cX9_back 16 = .ok (.iload_n 1, 1) := by decide +kernel
theorem dX9_back_17 : decode cX9_back 17 = .ok (.aload_n 0, 1) := by decide +kernel
theorem dX9_back_18 : decode cX9_back 18 = .ok (.getfield 428, 3) := by decide +kernel
theorem dX9_back_21 : decode cX9_back 21 = .ok (.if_icmp .lt 9, 3) := by decide +kernel
theorem dX9_back_24 : decode cX9_back 24 = .ok (.aload_n 0, 1) := by decide +kernel
theorem dX9_back_25 : decode cX9_back 25 = .ok (.iconst 1, 1) := by decide +kernel
theorem dX9_back_26 : decode cX9_back 26 = .ok (.invokevirtual 462, 3) := by decide +kernel
theorem dX9_back_29 : decode cX9_back 29 = .ok (.ireturn, 1) := by decide +kernel
theorem dX9_back_30 : decode cX9_back 30 = .ok (.iconst 0, 1) := by decide +kernel
theorem dX9_back_31 : decode cX9_back 31 = .ok (.istore_n 2, 1) := by decide +kernel
theorem dX9_back_32 : decode cX9_back 32 = .ok (.iload_n 2, 1) := by decide +kernel
theorem dX9_back_33 : decode cX9_back 33 = .ok (.sipush 431, 3) := by decide +kernel
theorem dX9_back_36 : decode cX9_back 36 = .ok (.if_icmp .ge 27, 3) := by decide +kernel
theorem dX9_back_39 : decode cX9_back 39 = .ok (.aload_n 0, 1) := by decide +kernel
theorem dX9_back_40 : decode cX9_back 40 = .ok (.getfield 21, 3) := by decide +kernel
theorem dX9_back_43 : decode cX9_back 43 = .ok (.iload_n 2, 1) := by decide +kernel
theorem dX9_back_44 : decode cX9_back 44 = .ok (.aload_n 0, 1) := by decide +kernel
theorem dX9_back_45 : decode cX9_back 45 = .ok (.getfield 24, 3) := by decide +kernel
theorem dX9_back_48 : decode cX9_back 48 = .ok (.sipush 431, 3) := by decide +kernel
theorem dX9_back_51 : decode cX9_back 51 = .ok (.iload_n 1, 1) := by decide +kernel
theorem dX9_back_52 : decode cX9_back 52 = .ok (.imul, 1) := by decide +kernel
theorem dX9_back_53 : decode cX9_back 53 = .ok (.iload_n 2, 1) := by decide +kernel
theorem dX9_back_54 : decode cX9_back 54 = .ok (.iadd, 1) := by decide +kernel
theorem dX9_back_55 : decode cX9_back 55 = .ok (.iaload, 1) := by decide +kernel
theorem dX9_back_56 : decode cX9_back 56 = .ok (.iastore, 1) := by decide +kernel
theorem dX9_back_57 : decode cX9_back 57 = .ok (.iinc 2 1, 3) := by decide +kernel
theorem dX9_back_60 : decode cX9_back 60 = .ok (.goto (-28), 3) := by decide +kernel
theorem dX9_back_63 : decode cX9_back 63 = .ok (.aload_n 0, 1) := by decide +kernel
theorem dX9_back_64 : decode cX9_back 64 = .ok (.invokevirtual 466, 3) := by decide +kernel
theorem dX9_back_67 : decode cX9_back 67 = .ok (.ireturn, 1) := by decide +kernel
theorem dX9_firstRow_0 : decode cX9_firstRow 0 = .ok (.aload_n 0, 1) := by decide +kernel
theorem dX9_firstRow_1 : decode cX9_firstRow 1 = .ok (.getfield 425, 3) := by decide +kernel
theorem dX9_firstRow_4 : decode cX9_firstRow 4 = .ok (.getfield 214, 3) := by decide +kernel
theorem dX9_firstRow_7 : decode cX9_firstRow 7 = .ok (.iconst 1, 1) := by decide +kernel
theorem dX9_firstRow_8 : decode cX9_firstRow 8 = .ok (.if_icmp .eq 15, 3) := by decide +kernel
theorem dX9_firstRow_11 : decode cX9_firstRow 11 = .ok (.aload_n 0, 1) := by decide +kernel
theorem dX9_firstRow_12 : decode cX9_firstRow 12 = .ok (.getfield 425, 3) := by decide +kernel
theorem dX9_firstRow_15 : decode cX9_firstRow 15 = .ok (.getfield 326, 3) := by decide +kernel
theorem dX9_firstRow_18 : decode cX9_firstRow 18 = .ok (.iload_n 1, 1) := by decide +kernel
theorem dX9_firstRow_19 : decode cX9_firstRow 19 = .ok (.iaload, 1) := by decide +kernel
theorem dX9_firstRow_20 : decode cX9_firstRow 20 = .ok (.ifCond .ne 7, 3) := by decide +kernel
theorem dX9_firstRow_23 : decode cX9_firstRow 23 = .ok (.iconst 1, 1) := by decide +kernel
theorem dX9_firstRow_24 : decode cX9_firstRow 24 = .ok (.goto 6, 3) := by decide +kernel
theorem dX9_firstRow_27 : decode cX9_firstRow 27 = .ok (.iload_n 2, 1) := by decide +kernel
theorem dX9_firstRow_28 : decode cX9_firstRow 28 = .ok (.iconst 1, 1) := by decide +kernel
theorem dX9_firstRow_29 : decode cX9_firstRow 29 = .ok (.iadd, 1) := by decide +kernel
theorem dX9_firstRow_30 : decode cX9_firstRow 30 = .ok (.ireturn, 1) := by decide +kernel
theorem dX9_lastRow_0 : decode cX9_lastRow 0 = .ok (.aload_n 0, 1) := by decide +kernel
theorem dX9_lastRow_1 : decode cX9_lastRow 1 = .ok (.getfield 425, 3) := by decide +kernel
theorem dX9_lastRow_4 : decode cX9_lastRow 4 = .ok (.getfield 214, 3) := by decide +kernel
theorem dX9_lastRow_7 : decode cX9_lastRow 7 = .ok (.iconst 1, 1) := by decide +kernel
theorem dX9_lastRow_8 : decode cX9_lastRow 8 = .ok (.if_icmp .eq 16, 3) := by decide +kernel
theorem dX9_lastRow_11 : decode cX9_lastRow 11 = .ok (.aload_n 0, 1) := by decide +kernel
theorem dX9_lastRow_12 : decode cX9_lastRow 12 = .ok (.getfield 425, 3) := by decide +kernel
theorem dX9_lastRow_15 : decode cX9_lastRow 15 = .ok (.getfield 326, 3) := by decide +kernel
theorem dX9_lastRow_18 : decode cX9_lastRow 18 = .ok (.iload_n 1, 1) := by decide +kernel
theorem dX9_lastRow_19 : decode cX9_lastRow 19 = .ok (.iaload, 1) := by decide +kernel
theorem dX9_lastRow_20 : decode cX9_lastRow 20 = .ok (.iconst 1, 1) := by decide +kernel
theorem dX9_lastRow_21 : decode cX9_lastRow 21 = .ok (.if_icmp .ne 13, 3) := by decide +kernel
theorem dX9_lastRow_24 : decode cX9_lastRow 24 = .ok (.aload_n 0, 1) := by decide +kernel
theorem dX9_lastRow_25 : decode cX9_lastRow 25 = .ok (.getfield 425, 3) := by decide +kernel
theorem dX9_lastRow_28 : decode cX9_lastRow 28 = .ok (.getfield 205, 3) := by decide +kernel
theorem dX9_lastRow_31 : decode cX9_lastRow 31 = .ok (.goto 4, 3) := by decide +kernel
theorem dX9_lastRow_34 : decode cX9_lastRow 34 = .ok (.iload_n 2, 1) := by decide +kernel
theorem dX9_lastRow_35 : decode cX9_lastRow 35 = .ok (.ireturn, 1) := by decide +kernel
theorem dX9_sitsBetween_0 : decode cX9_sitsBetween 0 = .ok (.iconst 0, 1) := by decide +kernel
theorem dX9_sitsBetween_1 : decode cX9_sitsBetween 1 = .ok (.istore_n 3, 1) := by decide +kernel
theorem dX9_sitsBetween_2 : decode cX9_sitsBetween 2 = .ok (.iload_n 1, 1) := by decide +kernel
theorem dX9_sitsBetween_3 : decode cX9_sitsBetween 3 = .ok (.istore 4, 2) := by decide +kernel
theorem dX9_sitsBetween_5 : decode cX9_sitsBetween 5 = .ok (.iload 4, 2) := by decide +kernel
theorem dX9_sitsBetween_7 : decode cX9_sitsBetween 7 = .ok (.iload_n 2, 1) := by decide +kernel
theorem dX9_sitsBetween_8 : decode cX9_sitsBetween 8 = .ok (.if_icmp .gt 21, 3) := by decide +kernel
theorem dX9_sitsBetween_11 : decode cX9_sitsBetween 11 = .ok (.iload_n 3, 1) := by decide +kernel
theorem dX9_sitsBetween_12 : decode cX9_sitsBetween 12 = .ok (.aload_n 0, 1) := by decide +kernel
theorem dX9_sitsBetween_13 : decode cX9_sitsBetween 13 = .ok (.getfield 425, 3) := by decide +kernel
theorem dX9_sitsBetween_16 : decode cX9_sitsBetween 16 = .ok (.iload 4, 2) := by decide +kernel
theorem dX9_sitsBetween_18 : decode cX9_sitsBetween 18 = .ok (.invokevirtual 437, 3) := by decide +kernel
theorem dX9_sitsBetween_21 : decode cX9_sitsBetween 21 = .ok (.iadd, 1) := by decide +kernel
theorem dX9_sitsBetween_22 : decode cX9_sitsBetween 22 = .ok (.istore_n 3, 1) := by decide +kernel
theorem dX9_sitsBetween_23 : decode cX9_sitsBetween 23 = .ok (.iinc 4 1, 3) := by decide +kernel
theorem dX9_sitsBetween_26 : decode cX9_sitsBetween 26 = .ok (.goto (-21), 3) := by decide +kernel
theorem dX9_sitsBetween_29 : decode cX9_sitsBetween 29 = .ok (.iload_n 3, 1) := by decide +kernel
theorem dX9_sitsBetween_30 : decode cX9_sitsBetween 30 = .ok (.ireturn, 1) := by decide +kernel
theorem dX9_meetsAt_0 : decode cX9_meetsAt 0 = .ok (.iconst 0, 1) := by decide +kernel
theorem dX9_meetsAt_1 : decode cX9_meetsAt 1 = .ok (.istore_n 2, 1) := by decide +kernel
theorem dX9_meetsAt_2 : decode cX9_meetsAt 2 = .ok (.iconst 0, 1) := by decide +kernel
theorem dX9_meetsAt_3 : decode cX9_meetsAt 3 = .ok (.istore_n 3, 1) := by decide +kernel
theorem dX9_meetsAt_4 : decode cX9_meetsAt 4 = .ok (.iload_n 3, 1) := by decide +kernel
theorem dX9_meetsAt_5 : decode cX9_meetsAt 5 = .ok (.aload_n 0, 1) := by decide +kernel
theorem dX9_meetsAt_6 : decode cX9_meetsAt 6 = .ok (.getfield 425, 3) := by decide +kernel
theorem dX9_meetsAt_9 : decode cX9_meetsAt 9 = .ok (.getfield 214, 3) := by decide +kernel
theorem dX9_meetsAt_12 : decode cX9_meetsAt 12 = .ok (.if_icmp .ge 81, 3) := by decide +kernel
theorem dX9_meetsAt_15 : decode cX9_meetsAt 15 = .ok (.aload_n 0, 1) := by decide +kernel
theorem dX9_meetsAt_16 : decode cX9_meetsAt 16 = .ok (.iload_n 3, 1) := by decide +kernel
theorem dX9_meetsAt_17 : decode cX9_meetsAt 17 = .ok (.iload_n 1, 1) := by decide +kernel
theorem dX9_meetsAt_18 : decode cX9_meetsAt 18 = .ok (.invokevirtual 525, 3) := by decide +kernel
theorem dX9_meetsAt_21 : decode cX9_meetsAt 21 = .ok (.istore 4, 2) := by decide +kernel
theorem dX9_meetsAt_23 : decode cX9_meetsAt 23 = .ok (.aload_n 0, 1) := by decide +kernel
theorem dX9_meetsAt_24 : decode cX9_meetsAt 24 = .ok (.iload_n 3, 1) := by decide +kernel
theorem dX9_meetsAt_25 : decode cX9_meetsAt 25 = .ok (.iload_n 1, 1) := by decide +kernel
theorem dX9_meetsAt_26 : decode cX9_meetsAt 26 = .ok (.invokevirtual 528, 3) := by decide +kernel
theorem dX9_meetsAt_29 : decode cX9_meetsAt 29 = .ok (.istore 5, 2) := by decide +kernel
theorem dX9_meetsAt_31 : decode cX9_meetsAt 31 = .ok (.aload_n 0, 1) := by decide +kernel
theorem dX9_meetsAt_32 : decode cX9_meetsAt 32 = .ok (.getfield 425, 3) := by decide +kernel
theorem dX9_meetsAt_35 : decode cX9_meetsAt 35 = .ok (.getfield 267, 3) := by decide +kernel
theorem dX9_meetsAt_38 : decode cX9_meetsAt 38 = .ok (.aload_n 0, 1) := by decide +kernel
theorem dX9_meetsAt_39 : decode cX9_meetsAt 39 = .ok (.iload 4, 2) := by decide +kernel
theorem dX9_meetsAt_41 : decode cX9_meetsAt 41 = .ok (.iload 5, 2) := by decide +kernel
theorem dX9_meetsAt_43 : decode cX9_meetsAt 43 = .ok (.invokevirtual 531, 3) := by decide +kernel
theorem dX9_meetsAt_46 : decode cX9_meetsAt 46 = .ok (.imul, 1) := by decide +kernel
theorem dX9_meetsAt_47 : decode cX9_meetsAt 47 = .ok (.iload 5, 2) := by decide +kernel
theorem dX9_meetsAt_49 : decode cX9_meetsAt 49 = .ok (.iload 4, 2) := by decide +kernel
theorem dX9_meetsAt_51 : decode cX9_meetsAt 51 = .ok (.if_icmp .le 19, 3) := by decide +kernel
theorem dX9_meetsAt_54 : decode cX9_meetsAt 54 = .ok (.aload_n 0, 1) := by decide +kernel
theorem dX9_meetsAt_55 : decode cX9_meetsAt 55 = .ok (.getfield 425, 3) := by decide +kernel
theorem dX9_meetsAt_58 : decode cX9_meetsAt 58 = .ok (.getfield 263, 3) := by decide +kernel
theorem dX9_meetsAt_61 : decode cX9_meetsAt 61 = .ok (.iload 5, 2) := by decide +kernel
theorem dX9_meetsAt_63 : decode cX9_meetsAt 63 = .ok (.iload 4, 2) := by decide +kernel
theorem dX9_meetsAt_65 : decode cX9_meetsAt 65 = .ok (.isub, 1) := by decide +kernel
theorem dX9_meetsAt_66 : decode cX9_meetsAt 66 = .ok (.imul, 1) := by decide +kernel
theorem dX9_meetsAt_67 : decode cX9_meetsAt 67 = .ok (.goto 4, 3) := by decide +kernel
theorem dX9_meetsAt_70 : decode cX9_meetsAt 70 = .ok (.iconst 0, 1) := by decide +kernel
theorem dX9_meetsAt_71 : decode cX9_meetsAt 71 = .ok (.iadd, 1) := by decide +kernel
theorem dX9_meetsAt_72 : decode cX9_meetsAt 72 = .ok (.istore 6, 2) := by decide +kernel
theorem dX9_meetsAt_74 : decode cX9_meetsAt 74 = .ok (.iload 6, 2) := by decide +kernel
theorem dX9_meetsAt_76 : decode cX9_meetsAt 76 = .ok (.iload_n 2, 1) := by decide +kernel
theorem dX9_meetsAt_77 : decode cX9_meetsAt 77 = .ok (.if_icmp .le 8, 3) := by decide +kernel
theorem dX9_meetsAt_80 : decode cX9_meetsAt 80 = .ok (.iload 6, 2) := by decide +kernel
theorem dX9_meetsAt_82 : decode cX9_meetsAt 82 = .ok (.goto 4, 3) := by decide +kernel
theorem dX9_meetsAt_85 : decode cX9_meetsAt 85 = .ok (.iload_n 2, 1) := by decide +kernel
theorem dX9_meetsAt_86 : decode cX9_meetsAt 86 = .ok (.istore_n 2, 1) := by decide +kernel
theorem dX9_meetsAt_87 : decode cX9_meetsAt 87 = .ok (.iinc 3 1, 3) := by decide +kernel
theorem dX9_meetsAt_90 : decode cX9_meetsAt 90 = .ok (.goto (-86), 3) := by decide +kernel
theorem dX9_meetsAt_93 : decode cX9_meetsAt 93 = .ok (.iload_n 2, 1) := by decide +kernel
theorem dX9_meetsAt_94 : decode cX9_meetsAt 94 = .ok (.ireturn, 1) := by decide +kernel
theorem dX9_lackingAt_0 : decode cX9_lackingAt 0 = .ok (.iconst 0, 1) := by decide +kernel
theorem dX9_lackingAt_1 : decode cX9_lackingAt 1 = .ok (.istore_n 2, 1) := by decide +kernel
theorem dX9_lackingAt_2 : decode cX9_lackingAt 2 = .ok (.iconst 0, 1) := by decide +kernel
theorem dX9_lackingAt_3 : decode cX9_lackingAt 3 = .ok (.istore_n 3, 1) := by decide +kernel
theorem dX9_lackingAt_4 : decode cX9_lackingAt 4 = .ok (.iload_n 3, 1) := by decide +kernel
theorem dX9_lackingAt_5 : decode cX9_lackingAt 5 = .ok (.aload_n 0, 1) := by decide +kernel
theorem dX9_lackingAt_6 : decode cX9_lackingAt 6 = .ok (.getfield 425, 3) := by decide +kernel
theorem dX9_lackingAt_9 : decode cX9_lackingAt 9 = .ok (.getfield 214, 3) := by decide +kernel
theorem dX9_lackingAt_12 : decode cX9_lackingAt 12 = .ok (.if_icmp .ge 81, 3) := by decide +kernel
theorem dX9_lackingAt_15 : decode cX9_lackingAt 15 = .ok (.aload_n 0, 1) := by decide +kernel
theorem dX9_lackingAt_16 : decode cX9_lackingAt 16 = .ok (.aload_n 0, 1) := by decide +kernel
theorem dX9_lackingAt_17 : decode cX9_lackingAt 17 = .ok (.iload_n 3, 1) := by decide +kernel
theorem dX9_lackingAt_18 : decode cX9_lackingAt 18 = .ok (.iload_n 1, 1) := by decide +kernel
theorem dX9_lackingAt_19 : decode cX9_lackingAt 19 = .ok (.invokevirtual 525, 3) := by decide +kernel
theorem dX9_lackingAt_22 : decode cX9_lackingAt 22 = .ok (.aload_n 0, 1) := by decide +kernel
theorem dX9_lackingAt_23 : decode cX9_lackingAt 23 = .ok (.iload_n 3, 1) := by decide +kernel
theorem dX9_lackingAt_24 : decode cX9_lackingAt 24 = .ok (.iload_n 1, 1) := by decide +kernel
theorem dX9_lackingAt_25 : decode cX9_lackingAt 25 = .ok (.invokevirtual 528, 3) := by decide +kernel
theorem dX9_lackingAt_28 : decode cX9_lackingAt 28 = .ok (.invokevirtual 531, 3) := by decide +kernel
theorem dX9_lackingAt_31 : decode cX9_lackingAt 31 = .ok (.istore 4, 2) := by decide +kernel
theorem dX9_lackingAt_33 : decode cX9_lackingAt 33 = .ok (.iconst 0, 1) := by decide +kernel
theorem dX9_lackingAt_34 : decode cX9_lackingAt 34 = .ok (.istore 5, 2) := by decide +kernel
theorem dX9_lackingAt_36 : decode cX9_lackingAt 36 = .ok (.iload 5, 2) := by decide +kernel
theorem dX9_lackingAt_38 : decode cX9_lackingAt 38 = .ok (.aload_n 0, 1) := by decide +kernel
theorem dX9_lackingAt_39 : decode cX9_lackingAt 39 = .ok (.getfield 425, 3) := by decide +kernel
theorem dX9_lackingAt_42 : decode cX9_lackingAt 42 = .ok (.getfield 211, 3) := by decide +kernel
theorem dX9_lackingAt_45 : decode cX9_lackingAt 45 = .ok (.if_icmp .ge 28, 3) := by decide +kernel
theorem dX9_lackingAt_48 : decode cX9_lackingAt 48 = .ok (.iload 4, 2) := by decide +kernel
theorem dX9_lackingAt_50 : decode cX9_lackingAt 50 = .ok (.aload_n 0, 1) := by decide +kernel
theorem dX9_lackingAt_51 : decode cX9_lackingAt 51 = .ok (.getfield 425, 3) := by decide +kernel
theorem dX9_lackingAt_54 : decode cX9_lackingAt 54 = .ok (.getfield 337, 3) := by decide +kernel
theorem dX9_lackingAt_57 : decode cX9_lackingAt 57 = .ok (.iconst 4, 1) := by decide +kernel
theorem dX9_lackingAt_58 : decode cX9_lackingAt 58 = .ok (.iload_n 3, 1) := by decide +kernel
theorem dX9_lackingAt_59 : decode cX9_lackingAt 59 = .ok (.imul, 1) := by decide +kernel
theorem dX9_lackingAt_60 : decode cX9_lackingAt 60 = .ok (.iload 5, 2) := by decide +kernel
theorem dX9_lackingAt_62 : decode cX9_lackingAt 62 = .ok (.iadd, 1) := by decide +kernel
theorem dX9_lackingAt_63 : decode cX9_lackingAt 63 = .ok (.iaload, 1) := by decide +kernel
theorem dX9_lackingAt_64 : decode cX9_lackingAt 64 = .ok (.isub, 1) := by decide +kernel
theorem dX9_lackingAt_65 : decode cX9_lackingAt 65 = .ok (.istore 4, 2) := by decide +kernel
theorem dX9_lackingAt_67 : decode cX9_lackingAt 67 = .ok (.iinc 5 1, 3) := by decide +kernel
theorem dX9_lackingAt_70 : decode cX9_lackingAt 70 = .ok (.goto (-34), 3) := by decide +kernel
theorem dX9_lackingAt_73 : decode cX9_lackingAt 73 = .ok (.iload_n 2, 1) := by decide +kernel
theorem dX9_lackingAt_74 : decode cX9_lackingAt 74 = .ok (.iload 4, 2) := by decide +kernel
theorem dX9_lackingAt_76 : decode cX9_lackingAt 76 = .ok (.ifCond .le 8, 3) := by decide +kernel
theorem dX9_lackingAt_79 : decode cX9_lackingAt 79 = .ok (.iload 4, 2) := by decide +kernel
theorem dX9_lackingAt_81 : decode cX9_lackingAt 81 = .ok (.goto 4, 3) := by decide +kernel
theorem dX9_lackingAt_84 : decode cX9_lackingAt 84 = .ok (.iconst 0, 1) := by decide +kernel
theorem dX9_lackingAt_85 : decode cX9_lackingAt 85 = .ok (.iadd, 1) := by decide +kernel
theorem dX9_lackingAt_86 : decode cX9_lackingAt 86 = .ok (.istore_n 2, 1) := by decide +kernel
theorem dX9_lackingAt_87 : decode cX9_lackingAt 87 = .ok (.iinc 3 1, 3) := by decide +kernel
theorem dX9_lackingAt_90 : decode cX9_lackingAt 90 = .ok (.goto (-86), 3) := by decide +kernel
theorem dX9_lackingAt_93 : decode cX9_lackingAt 93 = .ok (.iload_n 2, 1) := by decide +kernel
theorem dX9_lackingAt_94 : decode cX9_lackingAt 94 = .ok (.ireturn, 1) := by decide +kernel
theorem dX9_isMeeting_0 : decode cX9_isMeeting 0 = .ok (.iload_n 1, 1) := by decide +kernel
theorem dX9_isMeeting_1 : decode cX9_isMeeting 1 = .ok (.iconst 0, 1) := by decide +kernel
theorem dX9_isMeeting_2 : decode cX9_isMeeting 2 = .ok (.aload_n 0, 1) := by decide +kernel
theorem dX9_isMeeting_3 : decode cX9_isMeeting 3 = .ok (.getfield 425, 3) := by decide +kernel
theorem dX9_isMeeting_6 : decode cX9_isMeeting 6 = .ok (.getfield 205, 3) := by decide +kernel
theorem dX9_isMeeting_9 : decode cX9_isMeeting 9 = .ok (.invokestatic 130, 3) := by decide +kernel
theorem dX9_isMeeting_12 : decode cX9_isMeeting 12 = .ok (.ireturn, 1) := by decide +kernel
theorem dX9_meets_0 : decode cX9_meets 0 = .ok (.aload_n 0, 1) := by decide +kernel
theorem dX9_meets_1 : decode cX9_meets 1 = .ok (.iconst 0, 1) := by decide +kernel
theorem dX9_meets_2 : decode cX9_meets 2 = .ok (.putfield 52, 3) := by decide +kernel
theorem dX9_meets_5 : decode cX9_meets 5 = .ok (.aload_n 0, 1) := by decide +kernel
theorem dX9_meets_6 : decode cX9_meets 6 = .ok (.getfield 425, 3) := by decide +kernel
theorem dX9_meets_9 : decode cX9_meets 9 = .ok (.ifnonnull 9, 3) := by decide +kernel
theorem dX9_meets_12 : decode cX9_meets 12 = .ok (.aload_n 0, 1) := by decide +kernel
theorem dX9_meets_13 : decode cX9_meets 13 = .ok (.iconst 1, 1) := by decide +kernel
theorem dX9_meets_14 : decode cX9_meets 14 = .ok (.invokevirtual 58, 3) := by decide +kernel
theorem dX9_meets_17 : decode cX9_meets 17 = .ok (.ireturn, 1) := by decide +kernel
theorem dX9_meets_18 : decode cX9_meets 18 = .ok (.aload_n 0, 1) := by decide +kernel
theorem dX9_meets_19 : decode cX9_meets 19 = .ok (.iload_n 1, 1) := by decide +kernel
theorem dX9_meets_20 : decode cX9_meets 20 = .ok (.invokevirtual 534, 3) := by decide +kernel
theorem dX9_meets_23 : decode cX9_meets 23 = .ok (.ifCond .eq 15, 3) := by decide +kernel
theorem dX9_meets_26 : decode cX9_meets 26 = .ok (.aload_n 0, 1) := by decide +kernel
theorem dX9_meets_27 : decode cX9_meets 27 = .ok (.aload_n 0, 1) := by decide +kernel
theorem dX9_meets_28 : decode cX9_meets 28 = .ok (.iload_n 1, 1) := by decide +kernel
theorem dX9_meets_29 : decode cX9_meets 29 = .ok (.invokevirtual 537, 3) := by decide +kernel
theorem dX9_meets_32 : decode cX9_meets 32 = .ok (.invokevirtual 62, 3) := by decide +kernel
theorem dX9_meets_35 : decode cX9_meets 35 = .ok (.goto 8, 3) := by decide +kernel
theorem dX9_meets_38 : decode cX9_meets 38 = .ok (.aload_n 0, 1) := by decide +kernel
theorem dX9_meets_39 : decode cX9_meets 39 = .ok (.iconst 2, 1) := by decide +kernel
theorem dX9_meets_40 : decode cX9_meets 40 = .ok (.invokevirtual 58, 3) := by decide +kernel
theorem dX9_meets_43 : decode cX9_meets 43 = .ok (.ireturn, 1) := by decide +kernel
theorem dX9_soonest_0 : decode cX9_soonest 0 = .ok (.aload_n 0, 1) := by decide +kernel
theorem dX9_soonest_1 : decode cX9_soonest 1 = .ok (.iconst 0, 1) := by decide +kernel
theorem dX9_soonest_2 : decode cX9_soonest 2 = .ok (.putfield 52, 3) := by decide +kernel
theorem dX9_soonest_5 : decode cX9_soonest 5 = .ok (.aload_n 0, 1) := by decide +kernel
theorem dX9_soonest_6 : decode cX9_soonest 6 = .ok (.getfield 425, 3) := by decide +kernel
theorem dX9_soonest_9 : decode cX9_soonest 9 = .ok (.ifnonnull 9, 3) := by decide +kernel
theorem dX9_soonest_12 : decode cX9_soonest 12 = .ok (.aload_n 0, 1) := by decide +kernel
theorem dX9_soonest_13 : decode cX9_soonest 13 = .ok (.iconst 1, 1) := by decide +kernel
theorem dX9_soonest_14 : decode cX9_soonest 14 = .ok (.invokevirtual 58, 3) := by decide +kernel
theorem dX9_soonest_17 : decode cX9_soonest 17 = .ok (.ireturn, 1) := by decide +kernel
theorem dX9_soonest_18 : decode cX9_soonest 18 = .ok (.iconst 0, 1) := by decide +kernel
theorem dX9_soonest_19 : decode cX9_soonest 19 = .ok (.istore_n 1, 1) := by decide +kernel
theorem dX9_soonest_20 : decode cX9_soonest 20 = .ok (.iconst 1, 1) := by decide +kernel
theorem dX9_soonest_21 : decode cX9_soonest 21 = .ok (.istore_n 2, 1) := by decide +kernel
theorem dX9_soonest_22 : decode cX9_soonest 22 = .ok (.iload_n 2, 1) := by decide +kernel
theorem dX9_soonest_23 : decode cX9_soonest 23 = .ok (.aload_n 0, 1) := by decide +kernel
theorem dX9_soonest_24 : decode cX9_soonest 24 = .ok (.getfield 425, 3) := by decide +kernel
theorem dX9_soonest_27 : decode cX9_soonest 27 = .ok (.getfield 205, 3) := by decide +kernel
theorem dX9_soonest_30 : decode cX9_soonest 30 = .ok (.if_icmp .gt 24, 3) := by decide +kernel
theorem dX9_soonest_33 : decode cX9_soonest 33 = .ok (.aload_n 0, 1) := by decide +kernel
theorem dX9_soonest_34 : decode cX9_soonest 34 = .ok (.iload_n 2, 1) := by decide +kernel
theorem dX9_soonest_35 : decode cX9_soonest 35 = .ok (.invokevirtual 537, 3) := by decide +kernel
theorem dX9_soonest_38 : decode cX9_soonest 38 = .ok (.aload_n 0, 1) := by decide +kernel
theorem dX9_soonest_39 : decode cX9_soonest 39 = .ok (.iload_n 1, 1) := by decide +kernel
theorem dX9_soonest_40 : decode cX9_soonest 40 = .ok (.invokevirtual 537, 3) := by decide +kernel
theorem dX9_soonest_43 : decode cX9_soonest 43 = .ok (.if_icmp .ge 5, 3) := by decide +kernel
theorem dX9_soonest_46 : decode cX9_soonest 46 = .ok (.iload_n 2, 1) := by decide +kernel
theorem dX9_soonest_47 : decode cX9_soonest 47 = .ok (.istore_n 1, 1) := by decide +kernel
theorem dX9_soonest_48 : decode cX9_soonest 48 = .ok (.iinc 2 1, 3) := by decide +kernel
theorem dX9_soonest_51 : decode cX9_soonest 51 = .ok (.goto (-29), 3) := by decide +kernel
theorem dX9_soonest_54 : decode cX9_soonest 54 = .ok (.aload_n 0, 1) := by decide +kernel
theorem dX9_soonest_55 : decode cX9_soonest 55 = .ok (.iload_n 1, 1) := by decide +kernel
theorem dX9_soonest_56 : decode cX9_soonest 56 = .ok (.invokevirtual 62, 3) := by decide +kernel
theorem dX9_soonest_59 : decode cX9_soonest 59 = .ok (.ireturn, 1) := by decide +kernel
theorem dX9_lacking_0 : decode cX9_lacking 0 = .ok (.aload_n 0, 1) := by decide +kernel
theorem dX9_lacking_1 : decode cX9_lacking 1 = .ok (.iconst 0, 1) := by decide +kernel
theorem dX9_lacking_2 : decode cX9_lacking 2 = .ok (.putfield 52, 3) := by decide +kernel
theorem dX9_lacking_5 : decode cX9_lacking 5 = .ok (.aload_n 0, 1) := by decide +kernel
theorem dX9_lacking_6 : decode cX9_lacking 6 = .ok (.getfield 425, 3) := by decide +kernel
theorem dX9_lacking_9 : decode cX9_lacking 9 = .ok (.ifnonnull 9, 3) := by decide +kernel
theorem dX9_lacking_12 : decode cX9_lacking 12 = .ok (.aload_n 0, 1) := by decide +kernel
theorem dX9_lacking_13 : decode cX9_lacking 13 = .ok (.iconst 1, 1) := by decide +kernel
theorem dX9_lacking_14 : decode cX9_lacking 14 = .ok (.invokevirtual 58, 3) := by decide +kernel
theorem dX9_lacking_17 : decode cX9_lacking 17 = .ok (.ireturn, 1) := by decide +kernel
theorem dX9_lacking_18 : decode cX9_lacking 18 = .ok (.aload_n 0, 1) := by decide +kernel
theorem dX9_lacking_19 : decode cX9_lacking 19 = .ok (.iload_n 1, 1) := by decide +kernel
theorem dX9_lacking_20 : decode cX9_lacking 20 = .ok (.invokevirtual 534, 3) := by decide +kernel
theorem dX9_lacking_23 : decode cX9_lacking 23 = .ok (.ifCond .eq 15, 3) := by decide +kernel
theorem dX9_lacking_26 : decode cX9_lacking 26 = .ok (.aload_n 0, 1) := by decide +kernel
theorem dX9_lacking_27 : decode cX9_lacking 27 = .ok (.aload_n 0, 1) := by decide +kernel
theorem dX9_lacking_28 : decode cX9_lacking 28 = .ok (.iload_n 1, 1) := by decide +kernel
theorem dX9_lacking_29 : decode cX9_lacking 29 = .ok (.invokevirtual 540, 3) := by decide +kernel
theorem dX9_lacking_32 : decode cX9_lacking 32 = .ok (.invokevirtual 62, 3) := by decide +kernel
theorem dX9_lacking_35 : decode cX9_lacking 35 = .ok (.goto 8, 3) := by decide +kernel
theorem dX9_lacking_38 : decode cX9_lacking 38 = .ok (.aload_n 0, 1) := by decide +kernel
theorem dX9_lacking_39 : decode cX9_lacking 39 = .ok (.iconst 2, 1) := by decide +kernel
theorem dX9_lacking_40 : decode cX9_lacking 40 = .ok (.invokevirtual 58, 3) := by decide +kernel
theorem dX9_lacking_43 : decode cX9_lacking 43 = .ok (.ireturn, 1) := by decide +kernel
theorem dX9_fairest_0 : decode cX9_fairest 0 = .ok (.aload_n 0, 1) := by decide +kernel
theorem dX9_fairest_1 : decode cX9_fairest 1 = .ok (.iconst 0, 1) := by decide +kernel
theorem dX9_fairest_2 : decode cX9_fairest 2 = .ok (.putfield 52, 3) := by decide +kernel
theorem dX9_fairest_5 : decode cX9_fairest 5 = .ok (.aload_n 0, 1) := by decide +kernel
theorem dX9_fairest_6 : decode cX9_fairest 6 = .ok (.getfield 425, 3) := by decide +kernel
theorem dX9_fairest_9 : decode cX9_fairest 9 = .ok (.ifnonnull 9, 3) := by decide +kernel
theorem dX9_fairest_12 : decode cX9_fairest 12 = .ok (.aload_n 0, 1) := by decide +kernel
theorem dX9_fairest_13 : decode cX9_fairest 13 = .ok (.iconst 1, 1) := by decide +kernel
theorem dX9_fairest_14 : decode cX9_fairest 14 = .ok (.invokevirtual 58, 3) := by decide +kernel
theorem dX9_fairest_17 : decode cX9_fairest 17 = .ok (.ireturn, 1) := by decide +kernel
theorem dX9_fairest_18 : decode cX9_fairest 18 = .ok (.iconst 0, 1) := by decide +kernel
theorem dX9_fairest_19 : decode cX9_fairest 19 = .ok (.istore_n 1, 1) := by decide +kernel
theorem dX9_fairest_20 : decode cX9_fairest 20 = .ok (.iconst 1, 1) := by decide +kernel
theorem dX9_fairest_21 : decode cX9_fairest 21 = .ok (.istore_n 2, 1) := by decide +kernel
theorem dX9_fairest_22 : decode cX9_fairest 22 = .ok (.iload_n 2, 1) := by decide +kernel
theorem dX9_fairest_23 : decode cX9_fairest 23 = .ok (.aload_n 0, 1) := by decide +kernel
theorem dX9_fairest_24 : decode cX9_fairest 24 = .ok (.getfield 425, 3) := by decide +kernel
theorem dX9_fairest_27 : decode cX9_fairest 27 = .ok (.getfield 205, 3) := by decide +kernel
theorem dX9_fairest_30 : decode cX9_fairest 30 = .ok (.if_icmp .gt 24, 3) := by decide +kernel
theorem dX9_fairest_33 : decode cX9_fairest 33 = .ok (.aload_n 0, 1) := by decide +kernel
theorem dX9_fairest_34 : decode cX9_fairest 34 = .ok (.iload_n 2, 1) := by decide +kernel
theorem dX9_fairest_35 : decode cX9_fairest 35 = .ok (.invokevirtual 540, 3) := by decide +kernel
theorem dX9_fairest_38 : decode cX9_fairest 38 = .ok (.aload_n 0, 1) := by decide +kernel
theorem dX9_fairest_39 : decode cX9_fairest 39 = .ok (.iload_n 1, 1) := by decide +kernel
theorem dX9_fairest_40 : decode cX9_fairest 40 = .ok (.invokevirtual 540, 3) := by decide +kernel
theorem dX9_fairest_43 : decode cX9_fairest 43 = .ok (.if_icmp .ge 5, 3) := by decide +kernel
theorem dX9_fairest_46 : decode cX9_fairest 46 = .ok (.iload_n 2, 1) := by decide +kernel
theorem dX9_fairest_47 : decode cX9_fairest 47 = .ok (.istore_n 1, 1) := by decide +kernel
theorem dX9_fairest_48 : decode cX9_fairest 48 = .ok (.iinc 2 1, 3) := by decide +kernel
theorem dX9_fairest_51 : decode cX9_fairest 51 = .ok (.goto (-29), 3) := by decide +kernel
theorem dX9_fairest_54 : decode cX9_fairest 54 = .ok (.aload_n 0, 1) := by decide +kernel
theorem dX9_fairest_55 : decode cX9_fairest 55 = .ok (.iload_n 1, 1) := by decide +kernel
theorem dX9_fairest_56 : decode cX9_fairest 56 = .ok (.invokevirtual 62, 3) := by decide +kernel
theorem dX9_fairest_59 : decode cX9_fairest 59 = .ok (.ireturn, 1) := by decide +kernel
theorem dX9_met_0 : decode cX9_met 0 = .ok (.aload_n 0, 1) := by decide +kernel
theorem dX9_met_1 : decode cX9_met 1 = .ok (.iconst 0, 1) := by decide +kernel
theorem dX9_met_2 : decode cX9_met 2 = .ok (.putfield 52, 3) := by decide +kernel
theorem dX9_met_5 : decode cX9_met 5 = .ok (.aload_n 0, 1) := by decide +kernel
theorem dX9_met_6 : decode cX9_met 6 = .ok (.getfield 425, 3) := by decide +kernel
theorem dX9_met_9 : decode cX9_met 9 = .ok (.ifnull 15, 3) := by decide +kernel
theorem dX9_met_12 : decode cX9_met 12 = .ok (.aload_n 0, 1) := by decide +kernel
theorem dX9_met_13 : decode cX9_met 13 = .ok (.getfield 425, 3) := by decide +kernel
theorem dX9_met_16 : decode cX9_met 16 = .ok (.iconst 0, 1) := by decide +kernel
theorem dX9_met_17 : decode cX9_met 17 = .ok (.invokevirtual 319, 3) := by decide +kernel
theorem dX9_met_20 : decode cX9_met 20 = .ok (.iconst (-1), 1) := by decide +kernel
theorem dX9_met_21 : decode cX9_met 21 = .ok (.if_icmp .ne 9, 3) := by decide +kernel
theorem dX9_met_24 : decode cX9_met 24 = .ok (.aload_n 0, 1) := by decide +kernel
theorem dX9_met_25 : decode cX9_met 25 = .ok (.iconst 1, 1) := by decide +kernel
theorem dX9_met_26 : decode cX9_met 26 = .ok (.invokevirtual 58, 3) := by decide +kernel
theorem dX9_met_29 : decode cX9_met 29 = .ok (.ireturn, 1) := by decide +kernel
theorem dX9_met_30 : decode cX9_met 30 = .ok (.aload_n 0, 1) := by decide +kernel
theorem dX9_met_31 : decode cX9_met 31 = .ok (.invokevirtual 513, 3) := by decide +kernel
theorem dX9_met_34 : decode cX9_met 34 = .ok (.ifCond .ne 9, 3) := by decide +kernel
theorem dX9_met_37 : decode cX9_met 37 = .ok (.aload_n 0, 1) := by decide +kernel
theorem dX9_met_38 : decode cX9_met 38 = .ok (.iconst 5, 1) := by decide +kernel
theorem dX9_met_39 : decode cX9_met 39 = .ok (.invokevirtual 58, 3) := by decide +kernel
theorem dX9_met_42 : decode cX9_met 42 = .ok (.ireturn, 1) := by decide +kernel
theorem dX9_met_43 : decode cX9_met 43 = .ok (.iconst 0, 1) := by decide +kernel
theorem dX9_met_44 : decode cX9_met 44 = .ok (.istore_n 1, 1) := by decide +kernel
theorem dX9_met_45 : decode cX9_met 45 = .ok (.iconst 1, 1) := by decide +kernel
theorem dX9_met_46 : decode cX9_met 46 = .ok (.istore_n 2, 1) := by decide +kernel
theorem dX9_met_47 : decode cX9_met 47 = .ok (.iload_n 2, 1) := by decide +kernel
theorem dX9_met_48 : decode cX9_met 48 = .ok (.aload_n 0, 1) := by decide +kernel
theorem dX9_met_49 : decode cX9_met 49 = .ok (.getfield 425, 3) := by decide +kernel
theorem dX9_met_52 : decode cX9_met 52 = .ok (.getfield 205, 3) := by decide +kernel
theorem dX9_met_55 : decode cX9_met 55 = .ok (.if_icmp .gt 33, 3) := by decide +kernel
theorem dX9_met_58 : decode cX9_met 58 = .ok (.aload_n 0, 1) := by decide +kernel
theorem dX9_met_59 : decode cX9_met 59 = .ok (.getfield 21, 3) := by decide +kernel
theorem dX9_met_62 : decode cX9_met 62 = .ok (.bipush 10, 2) := by decide +kernel
theorem dX9_met_64 : decode cX9_met 64 = .ok (.iload_n 2, 1) := by decide +kernel
theorem dX9_met_65 : decode cX9_met 65 = .ok (.imul, 1) := by decide +kernel
theorem dX9_met_66 : decode cX9_met 66 = .ok (.iconst 0, 1) := by decide +kernel
theorem dX9_met_67 : decode cX9_met 67 = .ok (.iadd, 1) := by decide +kernel
theorem dX9_met_68 : decode cX9_met 68 = .ok (.iaload, 1) := by decide +kernel
theorem dX9_met_69 : decode cX9_met 69 = .ok (.aload_n 0, 1) := by decide +kernel
theorem dX9_met_70 : decode cX9_met 70 = .ok (.getfield 425, 3) := by decide +kernel
theorem dX9_met_73 : decode cX9_met 73 = .ok (.iconst 0, 1) := by decide +kernel
theorem dX9_met_74 : decode cX9_met 74 = .ok (.invokevirtual 319, 3) := by decide +kernel
theorem dX9_met_77 : decode cX9_met 77 = .ok (.if_icmp .ne 5, 3) := by decide +kernel
theorem dX9_met_80 : decode cX9_met 80 = .ok (.iload_n 2, 1) := by decide +kernel
theorem dX9_met_81 : decode cX9_met 81 = .ok (.istore_n 1, 1) := by decide +kernel
theorem dX9_met_82 : decode cX9_met 82 = .ok (.iinc 2 1, 3) := by decide +kernel
theorem dX9_met_85 : decode cX9_met 85 = .ok (.goto (-38), 3) := by decide +kernel
theorem dX9_met_88 : decode cX9_met 88 = .ok (.aload_n 0, 1) := by decide +kernel
theorem dX9_met_89 : decode cX9_met 89 = .ok (.iload_n 1, 1) := by decide +kernel
theorem dX9_met_90 : decode cX9_met 90 = .ok (.invokevirtual 62, 3) := by decide +kernel
theorem dX9_met_93 : decode cX9_met 93 = .ok (.ireturn, 1) := by decide +kernel
theorem dX9_aheadOf_0 : decode cX9_aheadOf 0 = .ok (.iconst 0, 1) := by decide +kernel
theorem dX9_aheadOf_1 : decode cX9_aheadOf 1 = .ok (.istore_n 2, 1) := by decide +kernel
theorem dX9_aheadOf_2 : decode cX9_aheadOf 2 = .ok (.iconst 1, 1) := by decide +kernel
theorem dX9_aheadOf_3 : decode cX9_aheadOf 3 = .ok (.istore_n 3, 1) := by decide +kernel
theorem dX9_aheadOf_4 : decode cX9_aheadOf 4 = .ok (.iload_n 3, 1) := by decide +kernel
theorem dX9_aheadOf_5 : decode cX9_aheadOf 5 = .ok (.iload_n 1, 1) := by decide +kernel
theorem dX9_aheadOf_6 : decode cX9_aheadOf 6 = .ok (.if_icmp .ge 20, 3) := by decide +kernel
theorem dX9_aheadOf_9 : decode cX9_aheadOf 9 = .ok (.iload_n 2, 1) := by decide +kernel
theorem dX9_aheadOf_10 : decode cX9_aheadOf 10 = .ok (.aload_n 0, 1) := by decide +kernel
theorem dX9_aheadOf_11 : decode cX9_aheadOf 11 = .ok (.getfield 425, 3) := by decide +kernel
theorem dX9_aheadOf_14 : decode cX9_aheadOf 14 = .ok (.iload_n 3, 1) := by decide +kernel
theorem dX9_aheadOf_15 : decode cX9_aheadOf 15 = .ok (.invokevirtual 507, 3) := by decide +kernel
theorem dX9_aheadOf_18 : decode cX9_aheadOf 18 = .ok (.iadd, 1) := by decide +kernel
theorem dX9_aheadOf_19 : decode cX9_aheadOf 19 = .ok (.istore_n 2, 1) := by decide +kernel
theorem dX9_aheadOf_20 : decode cX9_aheadOf 20 = .ok (.iinc 3 1, 3) := by decide +kernel
theorem dX9_aheadOf_23 : decode cX9_aheadOf 23 = .ok (.goto (-19), 3) := by decide +kernel
theorem dX9_aheadOf_26 : decode cX9_aheadOf 26 = .ok (.iload_n 2, 1) := by decide +kernel
theorem dX9_aheadOf_27 : decode cX9_aheadOf 27 = .ok (.ireturn, 1) := by decide +kernel
theorem dX9_likings_0 : decode cX9_likings 0 = .ok (.iconst 0, 1) := by decide +kernel
theorem dX9_likings_1 : decode cX9_likings 1 = .ok (.istore_n 3, 1) := by decide +kernel
theorem dX9_likings_2 : decode cX9_likings 2 = .ok (.iload_n 3, 1) := by decide +kernel
theorem dX9_likings_3 : decode cX9_likings 3 = .ok (.bipush 10, 2) := by decide +kernel
theorem dX9_likings_5 : decode cX9_likings 5 = .ok (.if_icmp .gt 24, 3) := by decide +kernel
theorem dX9_likings_8 : decode cX9_likings 8 = .ok (.aload_n 0, 1) := by decide +kernel
theorem dX9_likings_9 : decode cX9_likings 9 = .ok (.getfield 27, 3) := by decide +kernel
theorem dX9_likings_12 : decode cX9_likings 12 = .ok (.iload_n 3, 1) := by decide +kernel
theorem dX9_likings_13 : decode cX9_likings 13 = .ok (.iload_n 3, 1) := by decide +kernel
theorem dX9_likings_14 : decode cX9_likings 14 = .ok (.ifCond .ne 7, 3) := by decide +kernel
theorem dX9_likings_17 : decode cX9_likings 17 = .ok (.lconst 1, 1) := by decide +kernel
theorem dX9_likings_18 : decode cX9_likings 18 = .ok (.goto 4, 3) := by decide +kernel
theorem dX9_likings_21 : decode cX9_likings 21 = .ok (.lconst 0, 1) := by decide +kernel
theorem dX9_likings_22 : decode cX9_likings 22 = .ok (.lastore, 1) := by decide +kernel
theorem dX9_likings_23 : decode cX9_likings 23 = .ok (.iinc 3 1, 3) := by decide +kernel
theorem dX9_likings_26 : decode cX9_likings 26 = .ok (.goto (-24), 3) := by decide +kernel
theorem dX9_likings_29 : decode cX9_likings 29 = .ok (.iconst 1, 1) := by decide +kernel
theorem dX9_likings_30 : decode cX9_likings 30 = .ok (.istore_n 3, 1) := by decide +kernel
theorem dX9_likings_31 : decode cX9_likings 31 = .ok (.iload_n 3, 1) := by decide +kernel
theorem dX9_likings_32 : decode cX9_likings 32 = .ok (.iload_n 1, 1) := by decide +kernel
theorem dX9_likings_33 : decode cX9_likings 33 = .ok (.if_icmp .ge 142, 3) := by decide +kernel
theorem dX9_likings_36 : decode cX9_likings 36 = .ok (.lconst 0, 1) := by decide +kernel
theorem dX9_likings_37 : decode cX9_likings 37 = .ok (.lstore 4, 2) := by decide +kernel
theorem dX9_likings_39 : decode cX9_likings 39 = .ok (.iconst 0, 1) := by decide +kernel
theorem dX9_likings_40 : decode cX9_likings 40 = .ok (.istore 6, 2) := by decide +kernel
theorem dX9_likings_42 : decode cX9_likings 42 = .ok (.iload 6, 2) := by decide +kernel
theorem dX9_likings_44 : decode cX9_likings 44 = .ok (.aload_n 0, 1) := by decide +kernel
theorem dX9_likings_45 : decode cX9_likings 45 = .ok (.getfield 425, 3) := by decide +kernel
theorem dX9_likings_48 : decode cX9_likings 48 = .ok (.getfield 211, 3) := by decide +kernel
theorem dX9_likings_51 : decode cX9_likings 51 = .ok (.if_icmp .ge 22, 3) := by decide +kernel
theorem dX9_likings_54 : decode cX9_likings 54 = .ok (.lload 4, 2) := by decide +kernel
theorem dX9_likings_56 : decode cX9_likings 56 = .ok (.aload_n 0, 1) := by decide +kernel
theorem dX9_likings_57 : decode cX9_likings 57 = .ok (.iload_n 3, 1) := by decide +kernel
theorem dX9_likings_58 : decode cX9_likings 58 = .ok (.iload 6, 2) := by decide +kernel
theorem dX9_likings_60 : decode cX9_likings 60 = .ok (.invokevirtual 449, 3) := by decide +kernel
theorem dX9_likings_63 : decode cX9_likings 63 = .ok (.i2l, 1) := by decide +kernel
theorem dX9_likings_64 : decode cX9_likings 64 = .ok (.ladd, 1) := by decide +kernel
theorem dX9_likings_65 : decode cX9_likings 65 = .ok (.lstore 4, 2) := by decide +kernel
theorem dX9_likings_67 : decode cX9_likings 67 = .ok (.iinc 6 1, 3) := by decide +kernel
theorem dX9_likings_70 : decode cX9_likings 70 = .ok (.goto (-28), 3) := by decide +kernel
theorem dX9_likings_73 : decode cX9_likings 73 = .ok (.iload_n 2, 1) := by decide +kernel
theorem dX9_likings_74 : decode cX9_likings 74 = .ok (.iconst (-1), 1) := by decide +kernel
theorem dX9_likings_75 : decode cX9_likings 75 = .ok (.if_icmp .ne 7, 3) := by decide +kernel
theorem dX9_likings_78 : decode cX9_likings 78 = .ok (.lconst 0, 1) := by decide +kernel
theorem dX9_likings_79 : decode cX9_likings 79 = .ok (.goto 10, 3) := by decide +kernel
theorem dX9_likings_82 : decode cX9_likings 82 = .ok (.aload_n 0, 1) := by decide +kernel
theorem dX9_likings_83 : decode cX9_likings 83 = .ok (.iload_n 3, 1) := by decide +kernel
theorem dX9_likings_84 : decode cX9_likings 84 = .ok (.iload_n 2, 1) := by decide +kernel
theorem dX9_likings_85 : decode cX9_likings 85 = .ok (.invokevirtual 449, 3) := by decide +kernel
theorem dX9_likings_88 : decode cX9_likings 88 = .ok (.i2l, 1) := by decide +kernel
theorem dX9_likings_89 : decode cX9_likings 89 = .ok (.lstore 6, 2) := by decide +kernel
theorem dX9_likings_91 : decode cX9_likings 91 = .ok (.aload_n 0, 1) := by decide +kernel
theorem dX9_likings_92 : decode cX9_likings 92 = .ok (.getfield 425, 3) := by decide +kernel
theorem dX9_likings_95 : decode cX9_likings 95 = .ok (.iload_n 3, 1) := by decide +kernel
theorem dX9_likings_96 : decode cX9_likings 96 = .ok (.invokevirtual 507, 3) := by decide +kernel
theorem dX9_likings_99 : decode cX9_likings 99 = .ok (.istore 8, 2) := by decide +kernel
theorem dX9_likings_101 : decode cX9_likings 101 = .ok (.iload 8, 2) := by decide +kernel
theorem dX9_likings_103 : decode cX9_likings 103 = .ok (.ifCond .le 66, 3) := by decide +kernel
theorem dX9_likings_106 : decode cX9_likings 106 = .ok (.bipush 10, 2) := by decide +kernel
theorem dX9_likings_108 : decode cX9_likings 108 = .ok (.istore 9, 2) := by decide +kernel
theorem dX9_likings_110 : decode cX9_likings 110 = .ok (.iload 9, 2) := by decide +kernel
theorem dX9_likings_112 : decode cX9_likings 112 = .ok (.ifCond .lt 51, 3) := by decide +kernel
theorem dX9_likings_115 : decode cX9_likings 115 = .ok (.aload_n 0, 1) := by decide +kernel
theorem dX9_likings_116 : decode cX9_likings 116 = .ok (.getfield 27, 3) := by decide +kernel
theorem dX9_likings_119 : decode cX9_likings 119 = .ok (.iload 9, 2) := by decide +kernel
theorem dX9_likings_121 : decode cX9_likings 121 = .ok (.aload_n 0, 1) := by decide +kernel
theorem dX9_likings_122 : decode cX9_likings 122 = .ok (.getfield 27, 3) := by decide +kernel
theorem dX9_likings_125 : decode cX9_likings 125 = .ok (.iload 9, 2) := by decide +kernel
theorem dX9_likings_127 : decode cX9_likings 127 = .ok (.laload, 1) := by decide +kernel
theorem dX9_likings_128 : decode cX9_likings 128 = .ok (.lload 4, 2) := by decide +kernel
theorem dX9_likings_130 : decode cX9_likings 130 = .ok (.lload 6, 2) := by decide +kernel
theorem dX9_likings_132 : decode cX9_likings 132 = .ok (.lsub, 1) := by decide +kernel
theorem dX9_likings_133 : decode cX9_likings 133 = .ok (.lmul, 1) := by decide +kernel
theorem dX9_likings_134 : decode cX9_likings 134 = .ok (.iload 9, 2) := by decide +kernel
theorem dX9_likings_136 : decode cX9_likings 136 = .ok (.ifCond .le 18, 3) := by decide +kernel
theorem dX9_likings_139 : decode cX9_likings 139 = .ok (.aload_n 0, 1) := by decide +kernel
theorem dX9_likings_140 : decode cX9_likings 140 = .ok (.getfield 27, 3) := by decide +kernel
theorem dX9_likings_143 : decode cX9_likings 143 = .ok (.iload 9, 2) := by decide +kernel
theorem dX9_likings_145 : decode cX9_likings 145 = .ok (.iconst 1, 1) := by decide +kernel
