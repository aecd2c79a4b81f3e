theorem dX7_enough_56 : decode cX7_enough 56 = .ok (.invokevirtual 66, 3) := by decide +kernel
theorem dX7_enough_59 : decode cX7_enough 59 = .ok (.ireturn, 1) := by decide +kernel
theorem dX7_enough_60 : decode cX7_enough 60 = .ok (.aload_n 0, 1) := by decide +kernel
theorem dX7_enough_61 : decode cX7_enough 61 = .ok (.aload_n 0, 1) := by decide +kernel
theorem dX7_enough_62 : decode cX7_enough 62 = .ok (.getfield 47, 3) := by decide +kernel
theorem dX7_enough_65 : decode cX7_enough 65 = .ok (.iload_n 3, 1) := by decide +kernel
theorem dX7_enough_66 : decode cX7_enough 66 = .ok (.invokevirtual 222, 3) := by decide +kernel
theorem dX7_enough_69 : decode cX7_enough 69 = .ok (.invokevirtual 93, 3) := by decide +kernel
theorem dX7_enough_72 : decode cX7_enough 72 = .ok (.ireturn, 1) := by decide +kernel
theorem dX7_load_0 : decode cX7_load 0 = .ok (.aload_n 0, 1) := by decide +kernel
theorem dX7_load_1 : decode cX7_load 1 = .ok (.iload_n 1, 1) := by decide +kernel
theorem dX7_load_2 : decode cX7_load 2 = .ok (.invokevirtual 117, 3) := by decide +kernel
theorem dX7_load_5 : decode cX7_load 5 = .ok (.ifCond .ne 9, 3) := by decide +kernel
theorem dX7_load_8 : decode cX7_load 8 = .ok (.aload_n 0, 1) := by decide +kernel
theorem dX7_load_9 : decode cX7_load 9 = .ok (.iconst 1, 1) := by decide +kernel
theorem dX7_load_10 : decode cX7_load 10 = .ok (.invokevirtual 66, 3) := by decide +kernel
theorem dX7_load_13 : decode cX7_load 13 = .ok (.ireturn, 1) := by decide +kernel
theorem dX7_load_14 : decode cX7_load 14 = .ok (.aload_n 0, 1) := by decide +kernel
theorem dX7_load_15 : decode cX7_load 15 = .ok (.getfield 19, 3) := by decide +kernel
theorem dX7_load_18 : decode cX7_load 18 = .ok (.iload_n 1, 1) := by decide +kernel
theorem dX7_load_19 : decode cX7_load 19 = .ok (.iload_n 2, 1) := by decide +kernel
theorem dX7_load_20 : decode cX7_load 20 = .ok (.invokevirtual 225, 3) := by decide +kernel
theorem dX7_load_23 : decode cX7_load 23 = .ok (.istore_n 3, 1) := by decide +kernel
theorem dX7_load_24 : decode cX7_load 24 = .ok (.iload_n 3, 1) := by decide +kernel
theorem dX7_load_25 : decode cX7_load 25 = .ok (.iconst (-1), 1) := by decide +kernel
theorem dX7_load_26 : decode cX7_load 26 = .ok (.if_icmp .ne 12, 3) := by decide +kernel
theorem dX7_load_29 : decode cX7_load 29 = .ok (.aload_n 0, 1) := by decide +kernel
theorem dX7_load_30 : decode cX7_load 30 = .ok (.bipush 6, 2) := by decide +kernel
theorem dX7_load_32 : decode cX7_load 32 = .ok (.invokevirtual 66, 3) := by decide +kernel
theorem dX7_load_35 : decode cX7_load 35 = .ok (.goto 8, 3) := by decide +kernel
theorem dX7_load_38 : decode cX7_load 38 = .ok (.aload_n 0, 1) := by decide +kernel
theorem dX7_load_39 : decode cX7_load 39 = .ok (.iload_n 3, 1) := by decide +kernel
theorem dX7_load_40 : decode cX7_load 40 = .ok (.invokevirtual 93, 3) := by decide +kernel
theorem dX7_load_43 : decode cX7_load 43 = .ok (.ireturn, 1) := by decide +kernel
theorem dX7_spare_0 : decode cX7_spare 0 = .ok (.aload_n 0, 1) := by decide +kernel
theorem dX7_spare_1 : decode cX7_spare 1 = .ok (.iload_n 1, 1) := by decide +kernel
theorem dX7_spare_2 : decode cX7_spare 2 = .ok (.invokevirtual 117, 3) := by decide +kernel
theorem dX7_spare_5 : decode cX7_spare 5 = .ok (.ifCond .ne 9, 3) := by decide +kernel
theorem dX7_spare_8 : decode cX7_spare 8 = .ok (.aload_n 0, 1) := by decide +kernel
theorem dX7_spare_9 : decode cX7_spare 9 = .ok (.iconst 1, 1) := by decide +kernel
theorem dX7_spare_10 : decode cX7_spare 10 = .ok (.invokevirtual 178, 3) := by decide +kernel
theorem dX7_spare_13 : decode cX7_spare 13 = .ok (.ireturn, 1) := by decide +kernel
theorem dX7_spare_14 : decode cX7_spare 14 = .ok (.aload_n 0, 1) := by decide +kernel
theorem dX7_spare_15 : decode cX7_spare 15 = .ok (.getfield 19, 3) := by decide +kernel
theorem dX7_spare_18 : decode cX7_spare 18 = .ok (.iload_n 1, 1) := by decide +kernel
theorem dX7_spare_19 : decode cX7_spare 19 = .ok (.iconst 1, 1) := by decide +kernel
theorem dX7_spare_20 : decode cX7_spare 20 = .ok (.invokevirtual 225, 3) := by decide +kernel
theorem dX7_spare_23 : decode cX7_spare 23 = .ok (.istore_n 2, 1) := by decide +kernel
theorem dX7_spare_24 : decode cX7_spare 24 = .ok (.iload_n 2, 1) := by decide +kernel
theorem dX7_spare_25 : decode cX7_spare 25 = .ok (.iconst (-1), 1) := by decide +kernel
theorem dX7_spare_26 : decode cX7_spare 26 = .ok (.if_icmp .ne 12, 3) := by decide +kernel
theorem dX7_spare_29 : decode cX7_spare 29 = .ok (.aload_n 0, 1) := by decide +kernel
theorem dX7_spare_30 : decode cX7_spare 30 = .ok (.bipush 6, 2) := by decide +kernel
theorem dX7_spare_32 : decode cX7_spare 32 = .ok (.invokevirtual 178, 3) := by decide +kernel
theorem dX7_spare_35 : decode cX7_spare 35 = .ok (.goto 17, 3) := by decide +kernel
theorem dX7_spare_38 : decode cX7_spare 38 = .ok (.aload_n 0, 1) := by decide +kernel
theorem dX7_spare_39 : decode cX7_spare 39 = .ok (.aload_n 0, 1) := by decide +kernel
theorem dX7_spare_40 : decode cX7_spare 40 = .ok (.getfield 19, 3) := by decide +kernel
theorem dX7_spare_43 : decode cX7_spare 43 = .ok (.iload_n 1, 1) := by decide +kernel
theorem dX7_spare_44 : decode cX7_spare 44 = .ok (.invokevirtual 229, 3) := by decide +kernel
theorem dX7_spare_47 : decode cX7_spare 47 = .ok (.iload_n 2, 1) := by decide +kernel
theorem dX7_spare_48 : decode cX7_spare 48 = .ok (.isub, 1) := by decide +kernel
theorem dX7_spare_49 : decode cX7_spare 49 = .ok (.invokevirtual 93, 3) := by decide +kernel
theorem dX7_spare_52 : decode cX7_spare 52 = .ok (.ireturn, 1) := by decide +kernel
theorem dX7_unloaded_0 : decode cX7_unloaded 0 = .ok (.aload_n 0, 1) := by decide +kernel
theorem dX7_unloaded_1 : decode cX7_unloaded 1 = .ok (.invokevirtual 106, 3) := by decide +kernel
theorem dX7_unloaded_4 : decode cX7_unloaded 4 = .ok (.ifCond .ne 9, 3) := by decide +kernel
theorem dX7_unloaded_7 : decode cX7_unloaded 7 = .ok (.aload_n 0, 1) := by decide +kernel
theorem dX7_unloaded_8 : decode cX7_unloaded 8 = .ok (.iconst 1, 1) := by decide +kernel
theorem dX7_unloaded_9 : decode cX7_unloaded 9 = .ok (.invokevirtual 66, 3) := by decide +kernel
theorem dX7_unloaded_12 : decode cX7_unloaded 12 = .ok (.ireturn, 1) := by decide +kernel
theorem dX7_unloaded_13 : decode cX7_unloaded 13 = .ok (.iconst 0, 1) := by decide +kernel
theorem dX7_unloaded_14 : decode cX7_unloaded 14 = .ok (.istore_n 1, 1) := by decide +kernel
theorem dX7_unloaded_15 : decode cX7_unloaded 15 = .ok (.iconst 0, 1) := by decide +kernel
theorem dX7_unloaded_16 : decode cX7_unloaded 16 = .ok (.istore_n 2, 1) := by decide +kernel
theorem dX7_unloaded_17 : decode cX7_unloaded 17 = .ok (.iload_n 2, 1) := by decide +kernel
theorem dX7_unloaded_18 : decode cX7_unloaded 18 = .ok (.aload_n 0, 1) := by decide +kernel
theorem dX7_unloaded_19 : decode cX7_unloaded 19 = .ok (.getfield 19, 3) := by decide +kernel
theorem dX7_unloaded_22 : decode cX7_unloaded 22 = .ok (.bipush 8, 2) := by decide +kernel
theorem dX7_unloaded_24 : decode cX7_unloaded 24 = .ok (.invokevirtual 90, 3) := by decide +kernel
theorem dX7_unloaded_27 : decode cX7_unloaded 27 = .ok (.if_icmp .ge 47, 3) := by decide +kernel
theorem dX7_unloaded_30 : decode cX7_unloaded 30 = .ok (.aload_n 0, 1) := by decide +kernel
theorem dX7_unloaded_31 : decode cX7_unloaded 31 = .ok (.getfield 19, 3) := by decide +kernel
theorem dX7_unloaded_34 : decode cX7_unloaded 34 = .ok (.iload_n 2, 1) := by decide +kernel
theorem dX7_unloaded_35 : decode cX7_unloaded 35 = .ok (.invokevirtual 159, 3) := by decide +kernel
theorem dX7_unloaded_38 : decode cX7_unloaded 38 = .ok (.ifCond .eq 30, 3) := by decide +kernel
theorem dX7_unloaded_41 : decode cX7_unloaded 41 = .ok (.aload_n 0, 1) := by decide +kernel
theorem dX7_unloaded_42 : decode cX7_unloaded 42 = .ok (.getfield 19, 3) := by decide +kernel
theorem dX7_unloaded_45 : decode cX7_unloaded 45 = .ok (.aload_n 0, 1) := by decide +kernel
theorem dX7_unloaded_46 : decode cX7_unloaded 46 = .ok (.getfield 19, 3) := by decide +kernel
theorem dX7_unloaded_49 : decode cX7_unloaded 49 = .ok (.bipush 8, 2) := by decide +kernel
theorem dX7_unloaded_51 : decode cX7_unloaded 51 = .ok (.iload_n 2, 1) := by decide +kernel
theorem dX7_unloaded_52 : decode cX7_unloaded 52 = .ok (.iconst 1, 1) := by decide +kernel
theorem dX7_unloaded_53 : decode cX7_unloaded 53 = .ok (.invokevirtual 162, 3) := by decide +kernel
theorem dX7_unloaded_56 : decode cX7_unloaded 56 = .ok (.invokevirtual 229, 3) := by decide +kernel
theorem dX7_unloaded_59 : decode cX7_unloaded 59 = .ok (.ifCond .ne 9, 3) := by decide +kernel
theorem dX7_unloaded_62 : decode cX7_unloaded 62 = .ok (.iload_n 1, 1) := by decide +kernel
theorem dX7_unloaded_63 : decode cX7_unloaded 63 = .ok (.iconst 1, 1) := by decide +kernel
theorem dX7_unloaded_64 : decode cX7_unloaded 64 = .ok (.iload_n 2, 1) := by decide +kernel
theorem dX7_unloaded_65 : decode cX7_unloaded 65 = .ok (.ishl, 1) := by decide +kernel
theorem dX7_unloaded_66 : decode cX7_unloaded 66 = .ok (.ior, 1) := by decide +kernel
theorem dX7_unloaded_67 : decode cX7_unloaded 67 = .ok (.istore_n 1, 1) := by decide +kernel
theorem dX7_unloaded_68 : decode cX7_unloaded 68 = .ok (.iinc 2 1, 3) := by decide +kernel
theorem dX7_unloaded_71 : decode cX7_unloaded 71 = .ok (.goto (-54), 3) := by decide +kernel
theorem dX7_unloaded_74 : decode cX7_unloaded 74 = .ok (.aload_n 0, 1) := by decide +kernel
theorem dX7_unloaded_75 : decode cX7_unloaded 75 = .ok (.iload_n 1, 1) := by decide +kernel
theorem dX7_unloaded_76 : decode cX7_unloaded 76 = .ok (.invokevirtual 93, 3) := by decide +kernel
theorem dX7_unloaded_79 : decode cX7_unloaded 79 = .ok (.ireturn, 1) := by decide +kernel
theorem dX7_waits_0 : decode cX7_waits 0 = .ok (.iload_n 1, 1) := by decide +kernel
theorem dX7_waits_1 : decode cX7_waits 1 = .ok (.ifCond .lt 16, 3) := by decide +kernel
theorem dX7_waits_4 : decode cX7_waits 4 = .ok (.iload_n 1, 1) := by decide +kernel
theorem dX7_waits_5 : decode cX7_waits 5 = .ok (.aload_n 0, 1) := by decide +kernel
theorem dX7_waits_6 : decode cX7_waits 6 = .ok (.getfield 19, 3) := by decide +kernel
theorem dX7_waits_9 : decode cX7_waits 9 = .ok (.bipush 11, 2) := by decide +kernel
theorem dX7_waits_11 : decode cX7_waits 11 = .ok (.invokevirtual 90, 3) := by decide +kernel
theorem dX7_waits_14 : decode cX7_waits 14 = .ok (.if_icmp .lt 9, 3) := by decide +kernel
theorem dX7_waits_17 : decode cX7_waits 17 = .ok (.aload_n 0, 1) := by decide +kernel
theorem dX7_waits_18 : decode cX7_waits 18 = .ok (.iconst 1, 1) := by decide +kernel
theorem dX7_waits_19 : decode cX7_waits 19 = .ok (.invokevirtual 66, 3) := by decide +kernel
theorem dX7_waits_22 : decode cX7_waits 22 = .ok (.ireturn, 1) := by decide +kernel
theorem dX7_waits_23 : decode cX7_waits 23 = .ok (.aload_n 0, 1) := by decide +kernel
theorem dX7_waits_24 : decode cX7_waits 24 = .ok (.aload_n 0, 1) := by decide +kernel
theorem dX7_waits_25 : decode cX7_waits 25 = .ok (.getfield 29, 3) := by decide +kernel
theorem dX7_waits_28 : decode cX7_waits 28 = .ok (.aload_n 0, 1) := by decide +kernel
theorem dX7_waits_29 : decode cX7_waits 29 = .ok (.getfield 19, 3) := by decide +kernel
theorem dX7_waits_32 : decode cX7_waits 32 = .ok (.iload_n 1, 1) := by decide +kernel
theorem dX7_waits_33 : decode cX7_waits 33 = .ok (.invokevirtual 232, 3) := by decide +kernel
theorem dX7_waits_36 : decode cX7_waits 36 = .ok (.invokevirtual 93, 3) := by decide +kernel
theorem dX7_waits_39 : decode cX7_waits 39 = .ok (.ireturn, 1) := by decide +kernel
theorem dX7_on_0 : decode cX7_on 0 = .ok (.aload_n 0, 1) := by decide +kernel
theorem dX7_on_1 : decode cX7_on 1 = .ok (.iload_n 1, 1) := by decide +kernel
theorem dX7_on_2 : decode cX7_on 2 = .ok (.invokevirtual 123, 3) := by decide +kernel
theorem dX7_on_5 : decode cX7_on 5 = .ok (.ifCond .ne 9, 3) := by decide +kernel
theorem dX7_on_8 : decode cX7_on 8 = .ok (.aload_n 0, 1) := by decide +kernel
theorem dX7_on_9 : decode cX7_on 9 = .ok (.iconst 1, 1) := by decide +kernel
theorem dX7_on_10 : decode cX7_on 10 = .ok (.invokevirtual 66, 3) := by decide +kernel
theorem dX7_on_13 : decode cX7_on 13 = .ok (.ireturn, 1) := by decide +kernel
theorem dX7_on_14 : decode cX7_on 14 = .ok (.iload_n 2, 1) := by decide +kernel
theorem dX7_on_15 : decode cX7_on 15 = .ok (.ifCond .lt 9, 3) := by decide +kernel
theorem dX7_on_18 : decode cX7_on 18 = .ok (.iload_n 2, 1) := by decide +kernel
theorem dX7_on_19 : decode cX7_on 19 = .ok (.ldc 235, 2) := by decide +kernel
theorem dX7_on_21 : decode cX7_on 21 = .ok (.if_icmp .le 9, 3) := by decide +kernel
theorem dX7_on_24 : decode cX7_on 24 = .ok (.aload_n 0, 1) := by decide +kernel
theorem dX7_on_25 : decode cX7_on 25 = .ok (.iconst 2, 1) := by decide +kernel
theorem dX7_on_26 : decode cX7_on 26 = .ok (.invokevirtual 66, 3) := by decide +kernel
theorem dX7_on_29 : decode cX7_on 29 = .ok (.ireturn, 1) := by decide +kernel
theorem dX7_on_30 : decode cX7_on 30 = .ok (.aload_n 0, 1) := by decide +kernel
theorem dX7_on_31 : decode cX7_on 31 = .ok (.getfield 29, 3) := by decide +kernel
theorem dX7_on_34 : decode cX7_on 34 = .ok (.aload_n 0, 1) := by decide +kernel
theorem dX7_on_35 : decode cX7_on 35 = .ok (.getfield 19, 3) := by decide +kernel
theorem dX7_on_38 : decode cX7_on 38 = .ok (.iload_n 1, 1) := by decide +kernel
theorem dX7_on_39 : decode cX7_on 39 = .ok (.iload_n 2, 1) := by decide +kernel
theorem dX7_on_40 : decode cX7_on 40 = .ok (.invokevirtual 236, 3) := by decide +kernel
theorem dX7_on_43 : decode cX7_on 43 = .ok (.istore_n 3, 1) := by decide +kernel
theorem dX7_on_44 : decode cX7_on 44 = .ok (.aload_n 0, 1) := by decide +kernel
theorem dX7_on_45 : decode cX7_on 45 = .ok (.iload_n 3, 1) := by decide +kernel
theorem dX7_on_46 : decode cX7_on 46 = .ok (.iconst (-1), 1) := by decide +kernel
theorem dX7_on_47 : decode cX7_on 47 = .ok (.if_icmp .ne 8, 3) := by decide +kernel
theorem dX7_on_50 : decode cX7_on 50 = .ok (.bipush (-2), 2) := by decide +kernel
theorem dX7_on_52 : decode cX7_on 52 = .ok (.goto 4, 3) := by decide +kernel
theorem dX7_on_55 : decode cX7_on 55 = .ok (.iload_n 3, 1) := by decide +kernel
theorem dX7_on_56 : decode cX7_on 56 = .ok (.invokevirtual 93, 3) := by decide +kernel
theorem dX7_on_59 : decode cX7_on 59 = .ok (.ireturn, 1) := by decide +kernel
theorem dX7_clear_0 : decode cX7_clear 0 = .ok (.aload_n 0, 1) := by decide +kernel
theorem dX7_clear_1 : decode cX7_clear 1 = .ok (.iload_n 1, 1) := by decide +kernel
theorem dX7_clear_2 : decode cX7_clear 2 = .ok (.invokevirtual 123, 3) := by decide +kernel
theorem dX7_clear_5 : decode cX7_clear 5 = .ok (.ifCond .eq 26, 3) := by decide +kernel
theorem dX7_clear_8 : decode cX7_clear 8 = .ok (.aload_n 0, 1) := by decide +kernel
theorem dX7_clear_9 : decode cX7_clear 9 = .ok (.aload_n 0, 1) := by decide +kernel
theorem dX7_clear_10 : decode cX7_clear 10 = .ok (.getfield 40, 3) := by decide +kernel
theorem dX7_clear_13 : decode cX7_clear 13 = .ok (.aload_n 0, 1) := by decide +kernel
theorem dX7_clear_14 : decode cX7_clear 14 = .ok (.getfield 19, 3) := by decide +kernel
theorem dX7_clear_17 : decode cX7_clear 17 = .ok (.aload_n 0, 1) := by decide +kernel
theorem dX7_clear_18 : decode cX7_clear 18 = .ok (.getfield 29, 3) := by decide +kernel
theorem dX7_clear_21 : decode cX7_clear 21 = .ok (.iload_n 1, 1) := by decide +kernel
theorem dX7_clear_22 : decode cX7_clear 22 = .ok (.invokevirtual 240, 3) := by decide +kernel
theorem dX7_clear_25 : decode cX7_clear 25 = .ok (.invokevirtual 93, 3) := by decide +kernel
theorem dX7_clear_28 : decode cX7_clear 28 = .ok (.goto 8, 3) := by decide +kernel
theorem dX7_clear_31 : decode cX7_clear 31 = .ok (.aload_n 0, 1) := by decide +kernel
theorem dX7_clear_32 : decode cX7_clear 32 = .ok (.iconst 1, 1) := by decide +kernel
theorem dX7_clear_33 : decode cX7_clear 33 = .ok (.invokevirtual 66, 3) := by decide +kernel
theorem dX7_clear_36 : decode cX7_clear 36 = .ok (.ireturn, 1) := by decide +kernel
theorem dX7_room_0 : decode cX7_room 0 = .ok (.aload_n 0, 1) := by decide +kernel
theorem dX7_room_1 : decode cX7_room 1 = .ok (.iload_n 1, 1) := by decide +kernel
theorem dX7_room_2 : decode cX7_room 2 = .ok (.invokevirtual 123, 3) := by decide +kernel
theorem dX7_room_5 : decode cX7_room 5 = .ok (.ifCond .eq 21, 3) := by decide +kernel
theorem dX7_room_8 : decode cX7_room 8 = .ok (.iload_n 2, 1) := by decide +kernel
theorem dX7_room_9 : decode cX7_room 9 = .ok (.ifCond .lt 17, 3) := by decide +kernel
theorem dX7_room_12 : decode cX7_room 12 = .ok (.iload_n 2, 1) := by decide +kernel
theorem dX7_room_13 : decode cX7_room 13 = .ok (.aload_n 0, 1) := by decide +kernel
theorem dX7_room_14 : decode cX7_room 14 = .ok (.getfield 19, 3) := by decide +kernel
theorem dX7_room_17 : decode cX7_room 17 = .ok (.iconst 5, 1) := by decide +kernel
theorem dX7_room_18 : decode cX7_room 18 = .ok (.iload_n 1, 1) := by decide +kernel
theorem dX7_room_19 : decode cX7_room 19 = .ok (.iconst 1, 1) := by decide +kernel
theorem dX7_room_20 : decode cX7_room 20 = .ok (.invokevirtual 162, 3) := by decide +kernel
theorem dX7_room_23 : decode cX7_room 23 = .ok (.if_icmp .lt 9, 3) := by decide +kernel
theorem dX7_room_26 : decode cX7_room 26 = .ok (.aload_n 0, 1) := by decide +kernel
theorem dX7_room_27 : decode cX7_room 27 = .ok (.iconst 1, 1) := by decide +kernel
theorem dX7_room_28 : decode cX7_room 28 = .ok (.invokevirtual 66, 3) := by decide +kernel
theorem dX7_room_31 : decode cX7_room 31 = .ok (.ireturn, 1) := by decide +kernel
theorem dX7_room_32 : decode cX7_room 32 = .ok (.aload_n 0, 1) := by decide +kernel
theorem dX7_room_33 : decode cX7_room 33 = .ok (.getfield 40, 3) := by decide +kernel
theorem dX7_room_36 : decode cX7_room 36 = .ok (.aload_n 0, 1) := by decide +kernel
theorem dX7_room_37 : decode cX7_room 37 = .ok (.getfield 19, 3) := by decide +kernel
theorem dX7_room_40 : decode cX7_room 40 = .ok (.aload_n 0, 1) := by decide +kernel
theorem dX7_room_41 : decode cX7_room 41 = .ok (.getfield 29, 3) := by decide +kernel
theorem dX7_room_44 : decode cX7_room 44 = .ok (.iload_n 1, 1) := by decide +kernel
theorem dX7_room_45 : decode cX7_room 45 = .ok (.invokevirtual 240, 3) := by decide +kernel
theorem dX7_room_48 : decode cX7_room 48 = .ok (.pop, 1) := by decide +kernel
theorem dX7_room_49 : decode cX7_room 49 = .ok (.aload_n 0, 1) := by decide +kernel
theorem dX7_room_50 : decode cX7_room 50 = .ok (.aload_n 0, 1) := by decide +kernel
theorem dX7_room_51 : decode cX7_room 51 = .ok (.getfield 40, 3) := by decide +kernel
theorem dX7_room_54 : decode cX7_room 54 = .ok (.iload_n 2, 1) := by decide +kernel
theorem dX7_room_55 : decode cX7_room 55 = .ok (.invokevirtual 244, 3) := by decide +kernel
theorem dX7_room_58 : decode cX7_room 58 = .ok (.invokevirtual 93, 3) := by decide +kernel
theorem dX7_room_61 : decode cX7_room 61 = .ok (.ireturn, 1) := by decide +kernel
theorem dX7_fewest_0 : decode cX7_fewest 0 = .ok (.aload_n 0, 1) := by decide +kernel
theorem dX7_fewest_1 : decode cX7_fewest 1 = .ok (.iload_n 1, 1) := by decide +kernel
theorem dX7_fewest_2 : decode cX7_fewest 2 = .ok (.invokevirtual 123, 3) := by decide +kernel
theorem dX7_fewest_5 : decode cX7_fewest 5 = .ok (.ifCond .ne 9, 3) := by decide +kernel
theorem dX7_fewest_8 : decode cX7_fewest 8 = .ok (.aload_n 0, 1) := by decide +kernel
theorem dX7_fewest_9 : decode cX7_fewest 9 = .ok (.iconst 1, 1) := by decide +kernel
theorem dX7_fewest_10 : decode cX7_fewest 10 = .ok (.invokevirtual 66, 3) := by decide +kernel
theorem dX7_fewest_13 : decode cX7_fewest 13 = .ok (.ireturn, 1) := by decide +kernel
theorem dX7_fewest_14 : decode cX7_fewest 14 = .ok (.aload_n 0, 1) := by decide +kernel
theorem dX7_fewest_15 : decode cX7_fewest 15 = .ok (.iconst 0, 1) := by decide +kernel
theorem dX7_fewest_16 : decode cX7_fewest 16 = .ok (.iload_n 2, 1) := by decide +kernel
theorem dX7_fewest_17 : decode cX7_fewest 17 = .ok (.invokevirtual 247, 3) := by decide +kernel
theorem dX7_fewest_20 : decode cX7_fewest 20 = .ok (.ifCond .eq 32, 3) := by decide +kernel
theorem dX7_fewest_23 : decode cX7_fewest 23 = .ok (.aload_n 0, 1) := by decide +kernel
theorem dX7_fewest_24 : decode cX7_fewest 24 = .ok (.iconst 1, 1) := by decide +kernel
theorem dX7_fewest_25 : decode cX7_fewest 25 = .ok (.iload_n 3, 1) := by decide +kernel
theorem dX7_fewest_26 : decode cX7_fewest 26 = .ok (.invokevirtual 247, 3) := by decide +kernel
theorem dX7_fewest_29 : decode cX7_fewest 29 = .ok (.ifCond .eq 23, 3) := by decide +kernel
theorem dX7_fewest_32 : decode cX7_fewest 32 = .ok (.aload_n 0, 1) := by decide +kernel
theorem dX7_fewest_33 : decode cX7_fewest 33 = .ok (.iconst 2, 1) := by decide +kernel
theorem dX7_fewest_34 : decode cX7_fewest 34 = .ok (.iload 4, 2) := by decide +kernel
theorem dX7_fewest_36 : decode cX7_fewest 36 = .ok (.invokevirtual 247, 3) := by decide +kernel
theorem dX7_fewest_39 : decode cX7_fewest 39 = .ok (.ifCond .eq 13, 3) := by decide +kernel
theorem dX7_fewest_42 : decode cX7_fewest 42 = .ok (.aload_n 0, 1) := by decide +kernel
theorem dX7_fewest_43 : decode cX7_fewest 43 = .ok (.iconst 3, 1) := by decide +kernel
theorem dX7_fewest_44 : decode cX7_fewest 44 = .ok (.iload 5, 2) := by decide +kernel
theorem dX7_fewest_46 : decode cX7_fewest 46 = .ok (.invokevirtual 247, 3) := by decide +kernel
theorem dX7_fewest_49 : decode cX7_fewest 49 = .ok (.ifCond .ne 9, 3) := by decide +kernel
theorem dX7_fewest_52 : decode cX7_fewest 52 = .ok (.aload_n 0, 1) := by decide +kernel
theorem dX7_fewest_53 : decode cX7_fewest 53 = .ok (.iconst 2, 1) := by decide +kernel
theorem dX7_fewest_54 : decode cX7_fewest 54 = .ok (.invokevirtual 66, 3) := by decide +kernel
theorem dX7_fewest_57 : decode cX7_fewest 57 = .ok (.ireturn, 1) := by decide +kernel
theorem dX7_fewest_58 : decode cX7_fewest 58 = .ok (.iload_n 2, 1) := by decide +kernel
theorem dX7_fewest_59 : decode cX7_fewest 59 = .ok (.i2l, 1) := by decide +kernel
theorem dX7_fewest_60 : decode cX7_fewest 60 = .ok (.iload_n 3, 1) := by decide +kernel
theorem dX7_fewest_61 : decode cX7_fewest 61 = .ok (.i2l, 1) := by decide +kernel
theorem dX7_fewest_62 : decode cX7_fewest 62 = .ok (.ladd, 1) := by decide +kernel
theorem dX7_fewest_63 : decode cX7_fewest 63 = .ok (.iload 4, 2) := by decide +kernel
theorem dX7_fewest_65 : decode cX7_fewest 65 = .ok (.i2l, 1) := by decide +kernel
theorem dX7_fewest_66 : decode cX7_fewest 66 = .ok (.ladd, 1) := by decide +kernel
theorem dX7_fewest_67 : decode cX7_fewest 67 = .ok (.iload 5, 2) := by decide +kernel
theorem dX7_fewest_69 : decode cX7_fewest 69 = .ok (.i2l, 1) := by decide +kernel
theorem dX7_fewest_70 : decode cX7_fewest 70 = .ok (.ladd, 1) := by decide +kernel
theorem dX7_fewest_71 : decode cX7_fewest 71 = .ok (.ldc2_w 250, 3) := by decide +kernel
theorem dX7_fewest_74 : decode cX7_fewest 74 = .ok (.lcmp, 1) := by decide +kernel
theorem dX7_fewest_75 : decode cX7_fewest 75 = .ok (.ifCond .le 9, 3) := by decide +kernel
theorem dX7_fewest_78 : decode cX7_fewest 78 = .ok (.aload_n 0, 1) := by decide +kernel
theorem dX7_fewest_79 : decode cX7_fewest 79 = .ok (.iconst 3, 1) := by decide +kernel
theorem dX7_fewest_80 : decode cX7_fewest 80 = .ok (.invokevirtual 66, 3) := by decide +kernel
theorem dX7_fewest_83 : decode cX7_fewest 83 = .ok (.ireturn, 1) := by decide +kernel
theorem dX7_fewest_84 : decode cX7_fewest 84 = .ok (.aload_n 0, 1) := by decide +kernel
theorem dX7_fewest_85 : decode cX7_fewest 85 = .ok (.getfield 40, 3) := by decide +kernel
theorem dX7_fewest_88 : decode cX7_fewest 88 = .ok (.iconst 0, 1) := by decide +kernel
theorem dX7_fewest_89 : decode cX7_fewest 89 = .ok (.iload_n 2, 1) := by decide +kernel
theorem dX7_fewest_90 : decode cX7_fewest 90 = .ok (.invokevirtual 252, 3) := by decide +kernel
theorem dX7_fewest_93 : decode cX7_fewest 93 = .ok (.aload_n 0, 1) := by decide +kernel
theorem dX7_fewest_94 : decode cX7_fewest 94 = .ok (.getfield 40, 3) := by decide +kernel
theorem dX7_fewest_97 : decode cX7_fewest 97 = .ok (.iconst 1, 1) := by decide +kernel
theorem dX7_fewest_98 : decode cX7_fewest 98 = .ok (.iload_n 3, 1) := by decide +kernel
theorem dX7_fewest_99 : decode cX7_fewest 99 = .ok (.invokevirtual 252, 3) := by decide +kernel
theorem dX7_fewest_102 : decode cX7_fewest 102 = .ok (.aload_n 0, 1) := by decide +kernel
theorem dX7_fewest_103 : decode cX7_fewest 103 = .ok (.getfield 40, 3) := by decide +kernel
theorem dX7_fewest_106 : decode cX7_fewest 106 = .ok (.iconst 2, 1) := by decide +kernel
theorem dX7_fewest_107 : decode cX7_fewest 107 = .ok (.iload 4, 2) := by decide +kernel
theorem dX7_fewest_109 : decode cX7_fewest 109 = .ok (.invokevirtual 252, 3) := by decide +kernel
theorem dX7_fewest_112 : decode cX7_fewest 112 = .ok (.aload_n 0, 1) := by decide +kernel
theorem dX7_fewest_113 : decode cX7_fewest 113 = .ok (.getfield 40, 3) := by decide +kernel
theorem dX7_fewest_116 : decode cX7_fewest 116 = .ok (.iconst 3, 1) := by decide +kernel
theorem dX7_fewest_117 : decode cX7_fewest 117 = .ok (.iload 5, 2) := by decide +kernel
theorem dX7_fewest_119 : decode cX7_fewest 119 = .ok (.invokevirtual 252, 3) := by decide +kernel
theorem dX7_fewest_122 : decode cX7_fewest 122 = .ok (.aload_n 0, 1) := by decide +kernel
theorem dX7_fewest_123 : decode cX7_fewest 123 = .ok (.aload_n 0, 1) := by decide +kernel
theorem dX7_fewest_124 : decode cX7_fewest 124 = .ok (.getfield 40, 3) := by decide +kernel
theorem dX7_fewest_127 : decode cX7_fewest 127 = .ok (.aload_n 0, 1) := by decide +kernel
theorem dX7_fewest_128 : decode cX7_fewest 128 = .ok (.getfield 19, 3) := by decide +kernel
theorem dX7_fewest_131 : decode cX7_fewest 131 = .ok (.aload_n 0, 1) := by decide +kernel
theorem dX7_fewest_132 : decode cX7_fewest 132 = .ok (.getfield 19, 3) := by decide +kernel
theorem dX7_fewest_135 : decode cX7_fewest 135 = .ok (.iconst 5, 1) := by decide +kernel
theorem dX7_fewest_136 : decode cX7_fewest 136 = .ok (.iload_n 1, 1) := by decide +kernel
theorem dX7_fewest_137 : decode cX7_fewest 137 = .ok (.iconst 2, 1) := by decide +kernel
theorem dX7_fewest_138 : decode cX7_fewest 138 = .ok (.invokevirtual 162, 3) := by decide +kernel
theorem dX7_fewest_141 : decode cX7_fewest 141 = .ok (.invokevirtual 255, 3) := by decide +kernel
theorem dX7_fewest_144 : decode cX7_fewest 144 = .ok (.invokevirtual 93, 3) := by decide +kernel
theorem dX7_fewest_147 : decode cX7_fewest 147 = .ok (.ireturn, 1) := by decide +kernel
theorem dX7_till_0 : decode cX7_till 0 = .ok (.iload_n 1, 1) := by decide +kernel
theorem dX7_till_1 : decode cX7_till 1 = .ok (.invokestatic 258, 3) := by decide +kernel
theorem dX7_till_4 : decode cX7_till 4 = .ok (.istore_n 3, 1) := by decide +kernel
theorem dX7_till_5 : decode cX7_till 5 = .ok (.iload_n 3, 1) := by decide +kernel
theorem dX7_till_6 : decode cX7_till 6 = .ok (.iconst (-1), 1) := by decide +kernel
theorem dX7_till_7 : decode cX7_till 7 = .ok (.if_icmp .eq 13, 3) := by decide +kernel
theorem dX7_till_10 : decode cX7_till 10 = .ok (.iload_n 2, 1) := by decide +kernel
theorem dX7_till_11 : decode cX7_till 11 = .ok (.ifCond .lt 9, 3) := by decide +kernel
theorem dX7_till_14 : decode cX7_till 14 = .ok (.iload_n 2, 1) := by decide +kernel
theorem dX7_till_15 : decode cX7_till 15 = .ok (.bipush 99, 2) := by decide +kernel
theorem dX7_till_17 : decode cX7_till 17 = .ok (.if_icmp .le 9, 3) := by decide +kernel
theorem dX7_till_20 : decode cX7_till 20 = .ok (.aload_n 0, 1) := by decide +kernel
theorem dX7_till_21 : decode cX7_till 21 = .ok (.iconst 2, 1) := by decide +kernel
theorem dX7_till_22 : decode cX7_till 22 = .ok (.invokevirtual 133, 3) := by decide +kernel
theorem dX7_till_25 : decode cX7_till 25 = .ok (.ireturn, 1) := by decide +kernel
theorem dX7_till_26 : decode cX7_till 26 = .ok (.aload_n 0, 1) := by decide +kernel
theorem dX7_till_27 : decode cX7_till 27 = .ok (.getfield 54, 3) := by decide +kernel
theorem dX7_till_30 : decode cX7_till 30 = .ok (.iload_n 3, 1) := by decide +kernel
theorem dX7_till_31 : decode cX7_till 31 = .ok (.iload_n 2, 1) := by decide +kernel
theorem dX7_till_32 : decode cX7_till 32 = .ok (.invokevirtual 261, 3) := by decide +kernel
theorem dX7_till_35 : decode cX7_till 35 = .ok (.aload_n 0, 1) := by decide +kernel
theorem dX7_till_36 : decode cX7_till 36 = .ok (.invokevirtual 137, 3) := by decide +kernel
theorem dX7_till_39 : decode cX7_till 39 = .ok (.ireturn, 1) := by decide +kernel
theorem dX7_sell_0 : decode cX7_sell 0 = .ok (.iload_n 1, 1) := by decide +kernel
theorem dX7_sell_1 : decode cX7_sell 1 = .ok (.ifCond .lt 16, 3) := by decide +kernel
theorem dX7_sell_4 : decode cX7_sell 4 = .ok (.iload_n 1, 1) := by decide +kernel
theorem dX7_sell_5 : decode cX7_sell 5 = .ok (.aload_n 0, 1) := by decide +kernel
theorem dX7_sell_6 : decode cX7_sell 6 = .ok (.getfield 19, 3) := by decide +kernel
theorem dX7_sell_9 : decode cX7_sell 9 = .ok (.bipush 12, 2) := by decide +kernel
theorem dX7_sell_11 : decode cX7_sell 11 = .ok (.invokevirtual 90, 3) := by decide +kernel
theorem dX7_sell_14 : decode cX7_sell 14 = .ok (.if_icmp .lt 9, 3) := by decide +kernel
theorem dX7_sell_17 : decode cX7_sell 17 = .ok (.aload_n 0, 1) := by decide +kernel
theorem dX7_sell_18 : decode cX7_sell 18 = .ok (.iconst 1, 1) := by decide +kernel
theorem dX7_sell_19 : decode cX7_sell 19 = .ok (.invokevirtual 66, 3) := by decide +kernel
theorem dX7_sell_22 : decode cX7_sell 22 = .ok (.ireturn, 1) := by decide +kernel
theorem dX7_sell_23 : decode cX7_sell 23 = .ok (.iload_n 2, 1) := by decide +kernel
theorem dX7_sell_24 : decode cX7_sell 24 = .ok (.invokestatic 258, 3) := by decide +kernel
theorem dX7_sell_27 : decode cX7_sell 27 = .ok (.istore_n 3, 1) := by decide +kernel
theorem dX7_sell_28 : decode cX7_sell 28 = .ok (.iload_n 3, 1) := by decide +kernel
theorem dX7_sell_29 : decode cX7_sell 29 = .ok (.iconst (-1), 1) := by decide +kernel
theorem dX7_sell_30 : decode cX7_sell 30 = .ok (.if_icmp .ne 15, 3) := by decide +kernel
theorem dX7_sell_33 : decode cX7_sell 33 = .ok (.iload_n 2, 1) := by decide +kernel
theorem dX7_sell_34 : decode cX7_sell 34 = .ok (.bipush 100, 2) := by decide +kernel
theorem dX7_sell_36 : decode cX7_sell 36 = .ok (.if_icmp .eq 9, 3) := by decide +kernel
theorem dX7_sell_39 : decode cX7_sell 39 = .ok (.aload_n 0, 1) := by decide +kernel
theorem dX7_sell_40 : decode cX7_sell 40 = .ok (.iconst 2, 1) := by decide +kernel
theorem dX7_sell_41 : decode cX7_sell 41 = .ok (.invokevirtual 66, 3) := by decide +kernel
theorem dX7_sell_44 : decode cX7_sell 44 = .ok (.ireturn, 1) := by decide +kernel
theorem dX7_sell_45 : decode cX7_sell 45 = .ok (.iload_n 2, 1) := by decide +kernel
theorem dX7_sell_46 : decode cX7_sell 46 = .ok (.aload_n 0, 1) := by decide +kernel
theorem dX7_sell_47 : decode cX7_sell 47 = .ok (.getfield 19, 3) := by decide +kernel
theorem dX7_sell_50 : decode cX7_sell 50 = .ok (.bipush 12, 2) := by decide +kernel
theorem dX7_sell_52 : decode cX7_sell 52 = .ok (.iload_n 1, 1) := by decide +kernel
theorem dX7_sell_53 : decode cX7_sell 53 = .ok (.iconst 0, 1) := by decide +kernel
theorem dX7_sell_54 : decode cX7_sell 54 = .ok (.invokevirtual 162, 3) := by decide +kernel
theorem dX7_sell_57 : decode cX7_sell 57 = .ok (.isub, 1) := by decide +kernel
theorem dX7_sell_58 : decode cX7_sell 58 = .ok (.istore 4, 2) := by decide +kernel
theorem dX7_sell_60 : decode cX7_sell 60 = .ok (.iload 4, 2) := by decide +kernel
theorem dX7_sell_62 : decode cX7_sell 62 = .ok (.ifCond .ge 9, 3) := by decide +kernel
theorem dX7_sell_65 : decode cX7_sell 65 = .ok (.aload_n 0, 1) := by decide +kernel
theorem dX7_sell_66 : decode cX7_sell 66 = .ok (.iconst 5, 1) := by decide +kernel
theorem dX7_sell_67 : decode cX7_sell 67 = .ok (.invokevirtual 66, 3) := by decide +kernel
theorem dX7_sell_70 : decode cX7_sell 70 = .ok (.ireturn, 1) := by decide +kernel
theorem dX7_sell_71 : decode cX7_sell 71 = .ok (.aload_n 0, 1) := by decide +kernel
theorem dX7_sell_72 : decode cX7_sell 72 = .ok (.getfield 54, 3) := by decide +kernel
theorem dX7_sell_75 : decode cX7_sell 75 = .ok (.iload_n 3, 1) := by decide +kernel
theorem dX7_sell_76 : decode cX7_sell 76 = .ok (.invokevirtual 264, 3) := by decide +kernel
theorem dX7_sell_79 : decode cX7_sell 79 = .ok (.ifCond .ne 15, 3) := by decide +kernel
theorem dX7_sell_82 : decode cX7_sell 82 = .ok (.aload_n 0, 1) := by decide +kernel
theorem dX7_sell_83 : decode cX7_sell 83 = .ok (.getfield 54, 3) := by decide +kernel
theorem dX7_sell_86 : decode cX7_sell 86 = .ok (.iload 4, 2) := by decide +kernel
theorem dX7_sell_88 : decode cX7_sell 88 = .ok (.invokevirtual 267, 3) := by decide +kernel
theorem dX7_sell_91 : decode cX7_sell 91 = .ok (.ifCond .ne 10, 3) := by decide +kernel
theorem dX7_sell_94 : decode cX7_sell 94 = .ok (.aload_n 0, 1) := by decide +kernel
theorem dX7_sell_95 : decode cX7_sell 95 = .ok (.bipush 6, 2) := by decide +kernel
theorem dX7_sell_97 : decode cX7_sell 97 = .ok (.invokevirtual 66, 3) := by decide +kernel
theorem dX7_sell_100 : decode cX7_sell 100 = .ok (.ireturn, 1) := by decide +kernel
theorem dX7_sell_101 : decode cX7_sell 101 = .ok (.aload_n 0, 1) := by decide +kernel
theorem dX7_sell_102 : decode cX7_sell 102 = .ok (.getfield 54, 3) := by decide +kernel
theorem dX7_sell_105 : decode cX7_sell 105 = .ok (.iload_n 3, 1) := by decide +kernel
theorem dX7_sell_106 : decode cX7_sell 106 = .ok (.invokevirtual 270, 3) := by decide +kernel
theorem dX7_sell_109 : decode cX7_sell 109 = .ok (.aload_n 0, 1) := by decide +kernel
theorem dX7_sell_110 : decode cX7_sell 110 = .ok (.iload 4, 2) := by decide +kernel
theorem dX7_sell_112 : decode cX7_sell 112 = .ok (.invokevirtual 93, 3) := by decide +kernel
theorem dX7_sell_115 : decode cX7_sell 115 = .ok (.ireturn, 1) := by decide +kernel
theorem dX7_given_0 : decode cX7_given 0 = .ok (.iload_n 1, 1) := by decide +kernel
theorem dX7_given_1 : decode cX7_given 1 = .ok (.invokestatic 258, 3) := by decide +kernel
theorem dX7_given_4 : decode cX7_given 4 = .ok (.istore_n 2, 1) := by decide +kernel
theorem dX7_given_5 : decode cX7_given 5 = .ok (.iload_n 2, 1) := by decide +kernel
theorem dX7_given_6 : decode cX7_given 6 = .ok (.iconst (-1), 1) := by decide +kernel
theorem dX7_given_7 : decode cX7_given 7 = .ok (.if_icmp .ne 11, 3) := by decide +kernel
theorem dX7_given_10 : decode cX7_given 10 = .ok (.aload_n 0, 1) := by decide +kernel
theorem dX7_given_11 : decode cX7_given 11 = .ok (.iconst 2, 1) := by decide +kernel
theorem dX7_given_12 : decode cX7_given 12 = .ok (.invokevirtual 66, 3) := by decide +kernel
theorem dX7_given_15 : decode cX7_given 15 = .ok (.goto 15, 3) := by decide +kernel
theorem dX7_given_18 : decode cX7_given 18 = .ok (.aload_n 0, 1) := by decide +kernel
theorem dX7_given_19 : decode cX7_given 19 = .ok (.aload_n 0, 1) := by decide +kernel
theorem dX7_given_20 : decode cX7_given 20 = .ok (.getfield 54, 3) := by decide +kernel
theorem dX7_given_23 : decode cX7_given 23 = .ok (.iload_n 2, 1) := by decide +kernel
theorem dX7_given_24 : decode cX7_given 24 = .ok (.invokevirtual 274, 3) := by decide +kernel
theorem dX7_given_27 : decode cX7_given 27 = .ok (.invokevirtual 93, 3) := by decide +kernel
theorem dX7_given_30 : decode cX7_given 30 = .ok (.ireturn, 1) := by decide +kernel
theorem dX7_coins_0 : decode cX7_coins 0 = .ok (.aload_n 0, 1) := by decide +kernel
theorem dX7_coins_1 : decode cX7_coins 1 = .ok (.getfield 54, 3) := by decide +kernel
theorem dX7_coins_4 : decode cX7_coins 4 = .ok (.invokevirtual 277, 3) := by decide +kernel
theorem dX7_coins_7 : decode cX7_coins 7 = .ok (.ireturn, 1) := by decide +kernel
theorem dX7_change_0 : decode cX7_change 0 = .ok (.iload_n 1, 1) := by decide +kernel
theorem dX7_change_1 : decode cX7_change 1 = .ok (.ifCond .lt 10, 3) := by decide +kernel
theorem dX7_change_4 : decode cX7_change 4 = .ok (.iload_n 1, 1) := by decide +kernel
theorem dX7_change_5 : decode cX7_change 5 = .ok (.sipush 199, 3) := by decide +kernel
theorem dX7_change_8 : decode cX7_change 8 = .ok (.if_icmp .le 11, 3) := by decide +kernel
theorem dX7_change_11 : decode cX7_change 11 = .ok (.aload_n 0, 1) := by decide +kernel
theorem dX7_change_12 : decode cX7_change 12 = .ok (.iconst 2, 1) := by decide +kernel
theorem dX7_change_13 : decode cX7_change 13 = .ok (.invokevirtual 66, 3) := by decide +kernel
theorem dX7_change_16 : decode cX7_change 16 = .ok (.goto 15, 3) := by decide +kernel
theorem dX7_change_19 : decode cX7_change 19 = .ok (.aload_n 0, 1) := by decide +kernel
theorem dX7_change_20 : decode cX7_change 20 = .ok (.aload_n 0, 1) := by decide +kernel
theorem dX7_change_21 : decode cX7_change 21 = .ok (.getfield 54, 3) := by decide +kernel
theorem dX7_change_24 : decode cX7_change 24 = .ok (.iload_n 1, 1) := by decide +kernel
theorem dX7_change_25 : decode cX7_change 25 = .ok (.invokevirtual 280, 3) := by decide +kernel
theorem dX7_change_28 : decode cX7_change 28 = .ok (.invokevirtual 93, 3) := by decide +kernel
theorem dX7_change_31 : decode cX7_change 31 = .ok (.ireturn, 1) := by decide +kernel
theorem dX7_led_0 : decode cX7_led 0 = .ok (.iload_n 1, 1) := by decide +kernel
theorem dX7_led_1 : decode cX7_led 1 = .ok (.istore_n 2, 1) := by decide +kernel
theorem dX7_led_2 : decode cX7_led 2 = .ok (.iconst 1, 1) := by decide +kernel
theorem dX7_led_3 : decode cX7_led 3 = .ok (.istore_n 3, 1) := by decide +kernel
theorem dX7_led_4 : decode cX7_led 4 = .ok (.iload_n 3, 1) := by decide +kernel
theorem dX7_led_5 : decode cX7_led 5 = .ok (.aload_n 0, 1) := by decide +kernel
theorem dX7_led_6 : decode cX7_led 6 = .ok (.getfield 19, 3) := by decide +kernel
theorem dX7_led_9 : decode cX7_led 9 = .ok (.invokevirtual 110, 3) := by decide +kernel
theorem dX7_led_12 : decode cX7_led 12 = .ok (.if_icmp .gt 51, 3) := by decide +kernel
theorem dX7_led_15 : decode cX7_led 15 = .ok (.aload_n 0, 1) := by decide +kernel
theorem dX7_led_16 : decode cX7_led 16 = .ok (.getfield 29, 3) := by decide +kernel
theorem dX7_led_19 : decode cX7_led 19 = .ok (.iload_n 3, 1) := by decide +kernel
theorem dX7_led_20 : decode cX7_led 20 = .ok (.invokevirtual 153, 3) := by decide +kernel
theorem dX7_led_23 : decode cX7_led 23 = .ok (.ifCond .eq 34, 3) := by decide +kernel
theorem dX7_led_26 : decode cX7_led 26 = .ok (.aload_n 0, 1) := by decide +kernel
theorem dX7_led_27 : decode cX7_led 27 = .ok (.getfield 29, 3) := by decide +kernel
theorem dX7_led_30 : decode cX7_led 30 = .ok (.iload_n 3, 1) := by decide +kernel
theorem dX7_led_31 : decode cX7_led 31 = .ok (.iconst 3, 1) := by decide +kernel
theorem dX7_led_32 : decode cX7_led 32 = .ok (.invokevirtual 156, 3) := by decide +kernel
theorem dX7_led_35 : decode cX7_led 35 = .ok (.aload_n 0, 1) := by decide +kernel
theorem dX7_led_36 : decode cX7_led 36 = .ok (.getfield 29, 3) := by decide +kernel
theorem dX7_led_39 : decode cX7_led 39 = .ok (.iload_n 3, 1) := by decide +kernel
theorem dX7_led_40 : decode cX7_led 40 = .ok (.iconst 4, 1) := by decide +kernel
theorem dX7_led_41 : decode cX7_led 41 = .ok (.invokevirtual 156, 3) := by decide +kernel
theorem dX7_led_44 : decode cX7_led 44 = .ok (.iadd, 1) := by decide +kernel
theorem dX7_led_45 : decode cX7_led 45 = .ok (.ifCond .le 12, 3) := by decide +kernel
theorem dX7_led_48 : decode cX7_led 48 = .ok (.iload_n 2, 1) := by decide +kernel
theorem dX7_led_49 : decode cX7_led 49 = .ok (.ifCond .ne 5, 3) := by decide +kernel
theorem dX7_led_52 : decode cX7_led 52 = .ok (.iload_n 3, 1) := by decide +kernel
theorem dX7_led_53 : decode cX7_led 53 = .ok (.ireturn, 1) := by decide +kernel
theorem dX7_led_54 : decode cX7_led 54 = .ok (.iinc 2 (-1), 3) := by decide +kernel
theorem dX7_led_57 : decode cX7_led 57 = .ok (.iinc 3 1, 3) := by decide +kernel
theorem dX7_led_60 : decode cX7_led 60 = .ok (.goto (-56), 3) := by decide +kernel
theorem dX7_led_63 : decode cX7_led 63 = .ok (.new 283, 3) := by decide +kernel
theorem dX7_led_66 : decode cX7_led 66 = .ok (.dup, 1) := by decide +kernel
theorem dX7_led_67 : decode cX7_led 67 = .ok (.invokespecial 285, 3) := by decide +kernel
theorem dX7_led_70 : decode cX7_led 70 = .ok (.athrow, 1) := by decide +kernel
theorem dX7_size_0 : decode cX7_size 0 = .ok (.iload_n 1, 1) := by decide +kernel
theorem dX7_size_1 : decode cX7_size 1 = .ok (.iconst 1, 1) := by decide +kernel
theorem dX7_size_2 : decode cX7_size 2 = .ok (.if_icmp .lt 26, 3) := by decide +kernel
theorem dX7_size_5 : decode cX7_size 5 = .ok (.iload_n 1, 1) := by decide +kernel
theorem dX7_size_6 : decode cX7_size 6 = .ok (.getstatic 286, 3) := by decide +kernel
theorem dX7_size_9 : decode cX7_size 9 = .ok (.arraylength, 1) := by decide +kernel
theorem dX7_size_10 : decode cX7_size 10 = .ok (.if_icmp .gt 18, 3) := by decide +kernel
theorem dX7_size_13 : decode cX7_size 13 = .ok (.aload_n 0, 1) := by decide +kernel
theorem dX7_size_14 : decode cX7_size 14 = .ok (.getfield 19, 3) := by decide +kernel
theorem dX7_size_17 : decode cX7_size 17 = .ok (.getstatic 286, 3) := by decide +kernel
theorem dX7_size_20 : decode cX7_size 20 = .ok (.iload_n 1, 1) := by decide +kernel
theorem dX7_size_21 : decode cX7_size 21 = .ok (.iconst 1, 1) := by decide +kernel
theorem dX7_size_22 : decode cX7_size 22 = .ok (.isub, 1) := by decide +kernel
theorem dX7_size_23 : decode cX7_size 23 = .ok (.iaload, 1) := by decide +kernel
theorem dX7_size_24 : decode cX7_size 24 = .ok (.invokevirtual 90, 3) := by decide +kernel
theorem dX7_size_27 : decode cX7_size 27 = .ok (.ireturn, 1) := by decide +kernel
theorem dX7_size_28 : decode cX7_size 28 = .ok (.iload_n 1, 1) := by decide +kernel
theorem dX7_size_29 : decode cX7_size 29 = .ok (.lookupswitch 85 #[(0, 51), (12, 59), (13, 64), (14, 72), (15, 77)], 51) := by decide +kernel
theorem dX7_size_80 : decode cX7_size 80 = .ok (.aload_n 0, 1) := by decide +kernel
theorem dX7_size_81 : decode cX7_size 81 = .ok (.getfield 19, 3) := by decide +kernel
theorem dX7_size_84 : decode cX7_size 84 = .ok (.invokevirtual 110, 3) := by decide +kernel
theorem dX7_size_87 : decode cX7_size 87 = .ok (.ireturn, 1) := by decide +kernel
theorem dX7_size_88 : decode cX7_size 88 = .ok (.aload_n 0, 1) := by decide +kernel
theorem dX7_size_89 : decode cX7_size 89 = .ok (.getfield 87, 3) := by decide +kernel
theorem dX7_size_92 : decode cX7_size 92 = .ok (.ireturn, 1) := by decide +kernel
theorem dX7_size_93 : decode cX7_size 93 = .ok (.aload_n 0, 1) := by decide +kernel
theorem dX7_size_94 : decode cX7_size 94 = .ok (.getfield 29, 3) := by decide +kernel
theorem dX7_size_97 : decode cX7_size 97 = .ok (.invokevirtual 290, 3) := by decide +kernel
theorem dX7_size_100 : decode cX7_size 100 = .ok (.ireturn, 1) := by decide +kernel
theorem dX7_size_101 : decode cX7_size 101 = .ok (.aload_n 0, 1) := by decide +kernel
theorem dX7_size_102 : decode cX7_size 102 = .ok (.getfield 58, 3) := by decide +kernel
theorem dX7_size_105 : decode cX7_size 105 = .ok (.ireturn, 1) := by decide +kernel
theorem dX7_size_106 : decode cX7_size 106 = .ok (.aload_n 0, 1) := by decide +kernel
theorem dX7_size_107 : decode cX7_size 107 = .ok (.getfield 54, 3) := by decide +kernel
theorem dX7_size_110 : decode cX7_size 110 = .ok (.invokevirtual 293, 3) := by decide +kernel
theorem dX7_size_113 : decode cX7_size 113 = .ok (.ireturn, 1) := by decide +kernel
theorem dX7_size_114 : decode cX7_size 114 = .ok (.iconst (-1), 1) := by decide +kernel
theorem dX7_size_115 : decode cX7_size 115 = .ok (.ireturn, 1) := by decide +kernel
theorem dX7_trouble_0 : decode cX7_trouble 0 = .ok (.aload_n 0, 1) := by decide +kernel
theorem dX7_trouble_1 : decode cX7_trouble 1 = .ok (.getfield 96, 3) := by decide +kernel
theorem dX7_trouble_4 : decode cX7_trouble 4 = .ok (.ireturn, 1) := by decide +kernel
theorem dX7_accept_0 : decode cX7_accept 0 = .ok (.aload_n 0, 1) := by decide +kernel
theorem dX7_accept_1 : decode cX7_accept 1 = .ok (.iconst 0, 1) := by decide +kernel
theorem dX7_accept_2 : decode cX7_accept 2 = .ok (.putfield 96, 3) := by decide +kernel
theorem dX7_accept_5 : decode cX7_accept 5 = .ok (.iload_n 1, 1) := by decide +kernel
theorem dX7_accept_6 : decode cX7_accept 6 = .ok (.ireturn, 1) := by decide +kernel
theorem dX7_refuse_0 : decode cX7_refuse 0 = .ok (.aload_n 0, 1) := by decide +kernel
theorem dX7_refuse_1 : decode cX7_refuse 1 = .ok (.iload_n 1, 1) := by decide +kernel
theorem dX7_refuse_2 : decode cX7_refuse 2 = .ok (.putfield 96, 3) := by decide +kernel
theorem dX7_refuse_5 : decode cX7_refuse 5 = .ok (.iconst (-1), 1) := by decide +kernel
theorem dX7_refuse_6 : decode cX7_refuse 6 = .ok (.ireturn, 1) := by decide +kernel
theorem dX7_refuseFarBelow_0 : decode cX7_refuseFarBelow 0 = .ok (.aload_n 0, 1) := by decide +kernel
theorem dX7_refuseFarBelow_1 : decode cX7_refuseFarBelow 1 = .ok (.iload_n 1, 1) := by decide +kernel
theorem dX7_refuseFarBelow_2 : decode cX7_refuseFarBelow 2 = .ok (.putfield 96, 3) := by decide +kernel
theorem dX7_refuseFarBelow_5 : decode cX7_refuseFarBelow 5 = .ok (.sipush (-1000), 3) := by decide +kernel
theorem dX7_refuseFarBelow_8 : decode cX7_refuseFarBelow 8 = .ok (.ireturn, 1) := by decide +kernel
theorem dX7_grant_0 : decode cX7_grant 0 = .ok (.aload_n 0, 1) := by decide +kernel
theorem dX7_grant_1 : decode cX7_grant 1 = .ok (.iconst 0, 1) := by decide +kernel
theorem dX7_grant_2 : decode cX7_grant 2 = .ok (.putfield 96, 3) := by decide +kernel
theorem dX7_grant_5 : decode cX7_grant 5 = .ok (.iconst 1, 1) := by decide +kernel
theorem dX7_grant_6 : decode cX7_grant 6 = .ok (.ireturn, 1) := by decide +kernel
theorem dX7_deny_0 : decode cX7_deny 0 = .ok (.aload_n 0, 1) := by decide +kernel
theorem dX7_deny_1 : decode cX7_deny 1 = .ok (.iload_n 1, 1) := by decide +kernel
theorem dX7_deny_2 : decode cX7_deny 2 = .ok (.putfield 96, 3) := by decide +kernel
theorem dX7_deny_5 : decode cX7_deny 5 = .ok (.iconst 0, 1) := by decide +kernel
theorem dX7_deny_6 : decode cX7_deny 6 = .ok (.ireturn, 1) := by decide +kernel
theorem dX7_hasFlight_0 : decode cX7_hasFlight 0 = .ok (.aload_n 0, 1) := by decide +kernel
theorem dX7_hasFlight_1 : decode cX7_hasFlight 1 = .ok (.getfield 19, 3) := by decide +kernel
theorem dX7_hasFlight_4 : decode cX7_hasFlight 4 = .ok (.invokevirtual 110, 3) := by decide +kernel
theorem dX7_hasFlight_7 : decode cX7_hasFlight 7 = .ok (.ifCond .le 7, 3) := by decide +kernel
theorem dX7_hasFlight_10 : decode cX7_hasFlight 10 = .ok (.iconst 1, 1) := by decide +kernel
theorem dX7_hasFlight_11 : decode cX7_hasFlight 11 = .ok (.goto 4, 3) := by decide +kernel
theorem dX7_hasFlight_14 : decode cX7_hasFlight 14 = .ok (.iconst 0, 1) := by decide +kernel
theorem dX7_hasFlight_15 : decode cX7_hasFlight 15 = .ok (.ireturn, 1) := by decide +kernel
theorem dX7_isRow_0 : decode cX7_isRow 0 = .ok (.iload_n 1, 1) := by decide +kernel
theorem dX7_isRow_1 : decode cX7_isRow 1 = .ok (.iconst 1, 1) := by decide +kernel
theorem dX7_isRow_2 : decode cX7_isRow 2 = .ok (.if_icmp .lt 18, 3) := by decide +kernel
theorem dX7_isRow_5 : decode cX7_isRow 5 = .ok (.iload_n 1, 1) := by decide +kernel
theorem dX7_isRow_6 : decode cX7_isRow 6 = .ok (.aload_n 0, 1) := by decide +kernel
theorem dX7_isRow_7 : decode cX7_isRow 7 = .ok (.getfield 19, 3) := by decide +kernel
theorem dX7_isRow_10 : decode cX7_isRow 10 = .ok (.invokevirtual 110, 3) := by decide +kernel
theorem dX7_isRow_13 : decode cX7_isRow 13 = .ok (.if_icmp .gt 7, 3) := by decide +kernel
theorem dX7_isRow_16 : decode cX7_isRow 16 = .ok (.iconst 1, 1) := by decide +kernel
theorem dX7_isRow_17 : decode cX7_isRow 17 = .ok (.goto 4, 3) := by decide +kernel
theorem dX7_isRow_20 : decode cX7_isRow 20 = .ok (.iconst 0, 1) := by decide +kernel
theorem dX7_isRow_21 : decode cX7_isRow 21 = .ok (.ireturn, 1) := by decide +kernel
theorem dX7_isKind_0 : decode cX7_isKind 0 = .ok (.iload_n 1, 1) := by decide +kernel
theorem dX7_isKind_1 : decode cX7_isKind 1 = .ok (.ifCond .lt 19, 3) := by decide +kernel
theorem dX7_isKind_4 : decode cX7_isKind 4 = .ok (.iload_n 1, 1) := by decide +kernel
theorem dX7_isKind_5 : decode cX7_isKind 5 = .ok (.aload_n 0, 1) := by decide +kernel
theorem dX7_isKind_6 : decode cX7_isKind 6 = .ok (.getfield 19, 3) := by decide +kernel
theorem dX7_isKind_9 : decode cX7_isKind 9 = .ok (.iconst 2, 1) := by decide +kernel
theorem dX7_isKind_10 : decode cX7_isKind 10 = .ok (.invokevirtual 90, 3) := by decide +kernel
theorem dX7_isKind_13 : decode cX7_isKind 13 = .ok (.if_icmp .ge 7, 3) := by decide +kernel
theorem dX7_isKind_16 : decode cX7_isKind 16 = .ok (.iconst 1, 1) := by decide +kernel
theorem dX7_isKind_17 : decode cX7_isKind 17 = .ok (.goto 4, 3) := by decide +kernel
theorem dX7_isKind_20 : decode cX7_isKind 20 = .ok (.iconst 0, 1) := by decide +kernel
theorem dX7_isKind_21 : decode cX7_isKind 21 = .ok (.ireturn, 1) := by decide +kernel
theorem dX7_isTrolley_0 : decode cX7_isTrolley 0 = .ok (.iload_n 1, 1) := by decide +kernel
theorem dX7_isTrolley_1 : decode cX7_isTrolley 1 = .ok (.ifCond .lt 19, 3) := by decide +kernel
theorem dX7_isTrolley_4 : decode cX7_isTrolley 4 = .ok (.iload_n 1, 1) := by decide +kernel
theorem dX7_isTrolley_5 : decode cX7_isTrolley 5 = .ok (.aload_n 0, 1) := by decide +kernel
theorem dX7_isTrolley_6 : decode cX7_isTrolley 6 = .ok (.getfield 19, 3) := by decide +kernel
theorem dX7_isTrolley_9 : decode cX7_isTrolley 9 = .ok (.iconst 5, 1) := by decide +kernel
theorem dX7_isTrolley_10 : decode cX7_isTrolley 10 = .ok (.invokevirtual 90, 3) := by decide +kernel
theorem dX7_isTrolley_13 : decode cX7_isTrolley 13 = .ok (.if_icmp .ge 7, 3) := by decide +kernel
theorem dX7_isTrolley_16 : decode cX7_isTrolley 16 = .ok (.iconst 1, 1) := by decide +kernel
theorem dX7_isTrolley_17 : decode cX7_isTrolley 17 = .ok (.goto 4, 3) := by decide +kernel
theorem dX7_isTrolley_20 : decode cX7_isTrolley 20 = .ok (.iconst 0, 1) := by decide +kernel
theorem dX7_isTrolley_21 : decode cX7_isTrolley 21 = .ok (.ireturn, 1) := by decide +kernel
theorem dX7_isMeeting_0 : decode cX7_isMeeting 0 = .ok (.iload_n 1, 1) := by decide +kernel
theorem dX7_isMeeting_1 : decode cX7_isMeeting 1 = .ok (.ifCond .lt 18, 3) := by decide +kernel
theorem dX7_isMeeting_4 : decode cX7_isMeeting 4 = .ok (.iload_n 1, 1) := by decide +kernel
theorem dX7_isMeeting_5 : decode cX7_isMeeting 5 = .ok (.aload_n 0, 1) := by decide +kernel
theorem dX7_isMeeting_6 : decode cX7_isMeeting 6 = .ok (.getfield 19, 3) := by decide +kernel
theorem dX7_isMeeting_9 : decode cX7_isMeeting 9 = .ok (.invokevirtual 110, 3) := by decide +kernel
theorem dX7_isMeeting_12 : decode cX7_isMeeting 12 = .ok (.if_icmp .gt 7, 3) := by decide +kernel
theorem dX7_isMeeting_15 : decode cX7_isMeeting 15 = .ok (.iconst 1, 1) := by decide +kernel
theorem dX7_isMeeting_16 : decode cX7_isMeeting 16 = .ok (.goto 4, 3) := by decide +kernel
theorem dX7_isMeeting_19 : decode cX7_isMeeting 19 = .ok (.iconst 0, 1) := by decide +kernel
theorem dX7_isMeeting_20 : decode cX7_isMeeting 20 = .ok (.ireturn, 1) := by decide +kernel
theorem dX7_isMinute_0 : decode cX7_isMinute 0 = .ok (.iload_n 0, 1) := by decide +kernel
theorem dX7_isMinute_1 : decode cX7_isMinute 1 = .ok (.ifCond .lt 14, 3) := by decide +kernel
theorem dX7_isMinute_4 : decode cX7_isMinute 4 = .ok (.iload_n 0, 1) := by decide +kernel
theorem dX7_isMinute_5 : decode cX7_isMinute 5 = .ok (.sipush 999, 3) := by decide +kernel
theorem dX7_isMinute_8 : decode cX7_isMinute 8 = .ok (.if_icmp .gt 7, 3) := by decide +kernel
theorem dX7_isMinute_11 : decode cX7_isMinute 11 = .ok (.iconst 1, 1) := by decide +kernel
theorem dX7_isMinute_12 : decode cX7_isMinute 12 = .ok (.goto 4, 3) := by decide +kernel
theorem dX7_isMinute_15 : decode cX7_isMinute 15 = .ok (.iconst 0, 1) := by decide +kernel
theorem dX7_isMinute_16 : decode cX7_isMinute 16 = .ok (.ireturn, 1) := by decide +kernel
theorem dX7_isWanted_0 : decode cX7_isWanted 0 = .ok (.iload_n 2, 1) := by decide +kernel
theorem dX7_isWanted_1 : decode cX7_isWanted 1 = .ok (.ifCond .eq 15, 3) := by decide +kernel
theorem dX7_isWanted_4 : decode cX7_isWanted 4 = .ok (.iload_n 2, 1) := by decide +kernel
theorem dX7_isWanted_5 : decode cX7_isWanted 5 = .ok (.ifCond .le 15, 3) := by decide +kernel
theorem dX7_isWanted_8 : decode cX7_isWanted 8 = .ok (.aload_n 0, 1) := by decide +kernel
theorem dX7_isWanted_9 : decode cX7_isWanted 9 = .ok (.iload_n 1, 1) := by decide +kernel
theorem dX7_isWanted_10 : decode cX7_isWanted 10 = .ok (.invokevirtual 117, 3) := by decide +kernel
theorem dX7_isWanted_13 : decode cX7_isWanted 13 = .ok (.ifCond .eq 7, 3) := by decide +kernel
theorem dX7_isWanted_16 : decode cX7_isWanted 16 = .ok (.iconst 1, 1) := by decide +kernel
theorem dX7_isWanted_17 : decode cX7_isWanted 17 = .ok (.goto 4, 3) := by decide +kernel
theorem dX7_isWanted_20 : decode cX7_isWanted 20 = .ok (.iconst 0, 1) := by decide +kernel
theorem dX7_isWanted_21 : decode cX7_isWanted 21 = .ok (.ireturn, 1) := by decide +kernel
theorem dX8_init_0 : decode cX8_init 0 = .ok (.aload_n 0, 1) := by decide +kernel
theorem dX8_init_1 : decode cX8_init 1 = .ok (.invokespecial 3, 3) := by decide +kernel
theorem dX8_init_4 : decode cX8_init 4 = .ok (.aload_n 0, 1) := by decide +kernel
theorem dX8_init_5 : decode cX8_init 5 = .ok (.iconst (-1), 1) := by decide +kernel
theorem dX8_init_6 : decode cX8_init 6 = .ok (.putfield 9, 3) := by decide +kernel
theorem dX8_init_9 : decode cX8_init 9 = .ok (.aload_n 0, 1) := by decide +kernel
theorem dX8_init_10 : decode cX8_init 10 = .ok (.iconst 4, 1) := by decide +kernel
theorem dX8_init_11 : decode cX8_init 11 = .ok (.newarray .int, 2) := by decide +kernel
theorem dX8_init_13 : decode cX8_init 13 = .ok (.putfield 15, 3) := by decide +kernel
theorem dX8_init_16 : decode cX8_init 16 = .ok (.aload_n 0, 1) := by decide +kernel
theorem dX8_init_17 : decode cX8_init 17 = .ok (.iconst 4, 1) := by decide +kernel
theorem dX8_init_18 : decode cX8_init 18 = .ok (.newarray .int, 2) := by decide +kernel
theorem dX8_init_20 : decode cX8_init 20 = .ok (.putfield 19, 3) := by decide +kernel
theorem dX8_init_23 : decode cX8_init 23 = .ok (.aload_n 0, 1) := by decide +kernel
theorem dX8_init_24 : decode cX8_init 24 = .ok (.bipush 6, 2) := by decide +kernel
theorem dX8_init_26 : decode cX8_init 26 = .ok (.newarray .int, 2) := by decide +kernel
theorem dX8_init_28 : decode cX8_init 28 = .ok (.putfield 22, 3) := by decide +kernel
theorem dX8_init_31 : decode cX8_init 31 = .ok (.aload_n 0, 1) := by decide +kernel
theorem dX8_init_32 : decode cX8_init 32 = .ok (.bipush 6, 2) := by decide +kernel
theorem dX8_init_34 : decode cX8_init 34 = .ok (.newarray .int, 2) := by decide +kernel
theorem dX8_init_36 : decode cX8_init 36 = .ok (.putfield 25, 3) := by decide +kernel
theorem dX8_init_39 : decode cX8_init 39 = .ok (.aload_n 0, 1) := by decide +kernel
theorem dX8_init_40 : decode cX8_init 40 = .ok (.bipush 6, 2) := by decide +kernel
theorem dX8_init_42 : decode cX8_init 42 = .ok (.newarray .int, 2) := by decide +kernel
theorem dX8_init_44 : decode cX8_init 44 = .ok (.putfield 28, 3) := by decide +kernel
theorem dX8_init_47 : decode cX8_init 47 = .ok (.aload_n 0, 1) := by decide +kernel
theorem dX8_init_48 : decode cX8_init 48 = .ok (.bipush 6, 2) := by decide +kernel
theorem dX8_init_50 : decode cX8_init 50 = .ok (.newarray .int, 2) := by decide +kernel
theorem dX8_init_52 : decode cX8_init 52 = .ok (.putfield 31, 3) := by decide +kernel
theorem dX8_init_55 : decode cX8_init 55 = .ok (.aload_n 0, 1) := by decide +kernel
theorem dX8_init_56 : decode cX8_init 56 = .ok (.bipush 6, 2) := by decide +kernel
theorem dX8_init_58 : decode cX8_init 58 = .ok (.newarray .int, 2) := by decide +kernel
theorem dX8_init_60 : decode cX8_init 60 = .ok (.putfield 34, 3) := by decide +kernel
theorem dX8_init_63 : decode cX8_init 63 = .ok (.aload_n 0, 1) := by decide +kernel
theorem dX8_init_64 : decode cX8_init 64 = .ok (.iconst 2, 1) := by decide +kernel
theorem dX8_init_65 : decode cX8_init 65 = .ok (.newarray .int, 2) := by decide +kernel
theorem dX8_init_67 : decode cX8_init 67 = .ok (.putfield 37, 3) := by decide +kernel
theorem dX8_init_70 : decode cX8_init 70 = .ok (.aload_n 0, 1) := by decide +kernel
theorem dX8_init_71 : decode cX8_init 71 = .ok (.iconst 2, 1) := by decide +kernel
theorem dX8_init_72 : decode cX8_init 72 = .ok (.newarray .int, 2) := by decide +kernel
theorem dX8_init_74 : decode cX8_init 74 = .ok (.putfield 40, 3) := by decide +kernel
theorem dX8_init_77 : decode cX8_init 77 = .ok (.aload_n 0, 1) := by decide +kernel
theorem dX8_init_78 : decode cX8_init 78 = .ok (.iconst 2, 1) := by decide +kernel
theorem dX8_init_79 : decode cX8_init 79 = .ok (.newarray .int, 2) := by decide +kernel
theorem dX8_init_81 : decode cX8_init 81 = .ok (.putfield 43, 3) := by decide +kernel
theorem dX8_init_84 : decode cX8_init 84 = .ok (.aload_n 0, 1) := by decide +kernel
theorem dX8_init_85 : decode cX8_init 85 = .ok (.bipush 8, 2) := by decide +kernel
theorem dX8_init_87 : decode cX8_init 87 = .ok (.newarray .int, 2) := by decide +kernel
theorem dX8_init_89 : decode cX8_init 89 = .ok (.putfield 46, 3) := by decide +kernel
theorem dX8_init_92 : decode cX8_init 92 = .ok (.aload_n 0, 1) := by decide +kernel
theorem dX8_init_93 : decode cX8_init 93 = .ok (.iconst 5, 1) := by decide +kernel
theorem dX8_init_94 : decode cX8_init 94 = .ok (.newarray .int, 2) := by decide +kernel
theorem dX8_init_96 : decode cX8_init 96 = .ok (.putfield 49, 3) := by decide +kernel
theorem dX8_init_99 : decode cX8_init 99 = .ok (.aload_n 0, 1) := by decide +kernel
theorem dX8_init_100 : decode cX8_init 100 = .ok (.iconst 5, 1) := by decide +kernel
theorem dX8_init_101 : decode cX8_init 101 = .ok (.newarray .int, 2) := by decide +kernel
theorem dX8_init_103 : decode cX8_init 103 = .ok (.putfield 52, 3) := by decide +kernel
theorem dX8_init_106 : decode cX8_init 106 = .ok (.aload_n 0, 1) := by decide +kernel
theorem dX8_init_107 : decode cX8_init 107 = .ok (.iconst 5, 1) := by decide +kernel
theorem dX8_init_108 : decode cX8_init 108 = .ok (.newarray .int, 2) := by decide +kernel
theorem dX8_init_110 : decode cX8_init 110 = .ok (.putfield 55, 3) := by decide +kernel
theorem dX8_init_113 : decode cX8_init 113 = .ok (.aload_n 0, 1) := by decide +kernel
theorem dX8_init_114 : decode cX8_init 114 = .ok (.iconst 5, 1) := by decide +kernel
theorem dX8_init_115 : decode cX8_init 115 = .ok (.newarray .int, 2) := by decide +kernel
theorem dX8_init_117 : decode cX8_init 117 = .ok (.putfield 58, 3) := by decide +kernel
theorem dX8_init_120 : decode cX8_init 120 = .ok (.aload_n 0, 1) := by decide +kernel
theorem dX8_init_121 : decode cX8_init 121 = .ok (.bipush 20, 2) := by decide +kernel
theorem dX8_init_123 : decode cX8_init 123 = .ok (.newarray .int, 2) := by decide +kernel
theorem dX8_init_125 : decode cX8_init 125 = .ok (.putfield 61, 3) := by decide +kernel
theorem dX8_init_128 : decode cX8_init 128 = .ok (.aload_n 0, 1) := by decide +kernel
theorem dX8_init_129 : decode cX8_init 129 = .ok (.bipush 20, 2) := by decide +kernel
theorem dX8_init_131 : decode cX8_init 131 = .ok (.newarray .int, 2) := by decide +kernel
theorem dX8_init_133 : decode cX8_init 133 = .ok (.putfield 64, 3) := by decide +kernel
theorem dX8_init_136 : decode cX8_init 136 = .ok (.aload_n 0, 1) := by decide +kernel
theorem dX8_init_137 : decode cX8_init 137 = .ok (.bipush 6, 2) := by decide +kernel
theorem dX8_init_139 : decode cX8_init 139 = .ok (.newarray .int, 2) := by decide +kernel
theorem dX8_init_141 : decode cX8_init 141 = .ok (.putfield 67, 3) := by decide +kernel
theorem dX8_init_144 : decode cX8_init 144 = .ok (.aload_n 0, 1) := by decide +kernel
theorem dX8_init_145 : decode cX8_init 145 = .ok (.bipush 6, 2) := by decide +kernel
theorem dX8_init_147 : decode cX8_init 147 = .ok (.newarray .int, 2) := by decide +kernel
theorem dX8_init_149 : decode cX8_init 149 = .ok (.putfield 70, 3) := by decide +kernel
theorem dX8_init_152 : decode cX8_init 152 = .ok (.aload_n 0, 1) := by decide +kernel
theorem dX8_init_153 : decode cX8_init 153 = .ok (.iconst 3, 1) := by decide +kernel
theorem dX8_init_154 : decode cX8_init 154 = .ok (.newarray .int, 2) := by decide +kernel
theorem dX8_init_156 : decode cX8_init 156 = .ok (.putfield 73, 3) := by decide +kernel
theorem dX8_init_159 : decode cX8_init 159 = .ok (.aload_n 0, 1) := by decide +kernel
theorem dX8_init_160 : decode cX8_init 160 = .ok (.iconst 3, 1) := by decide +kernel
theorem dX8_init_161 : decode cX8_init 161 = .ok (.newarray .int, 2) := by decide +kernel
theorem dX8_init_163 : decode cX8_init 163 = .ok (.putfield 76, 3) := by decide +kernel
theorem dX8_init_166 : decode cX8_init 166 = .ok (.aload_n 0, 1) := by decide +kernel
theorem dX8_init_167 : decode cX8_init 167 = .ok (.iconst 3, 1) := by decide +kernel
theorem dX8_init_168 : decode cX8_init 168 = .ok (.newarray .int, 2) := by decide +kernel
theorem dX8_init_170 : decode cX8_init 170 = .ok (.putfield 79, 3) := by decide +kernel
theorem dX8_init_173 : decode cX8_init 173 = .ok (.aload_n 0, 1) := by decide +kernel
theorem dX8_init_174 : decode cX8_init 174 = .ok (.iconst 4, 1) := by decide +kernel
theorem dX8_init_175 : decode cX8_init 175 = .ok (.newarray .int, 2) := by decide +kernel
theorem dX8_init_177 : decode cX8_init 177 = .ok (.putfield 82, 3) := by decide +kernel
theorem dX8_init_180 : decode cX8_init 180 = .ok (.aload_n 0, 1) := by decide +kernel
theorem dX8_init_181 : decode cX8_init 181 = .ok (.iconst 4, 1) := by decide +kernel
theorem dX8_init_182 : decode cX8_init 182 = .ok (.newarray .int, 2) := by decide +kernel
theorem dX8_init_184 : decode cX8_init 184 = .ok (.putfield 85, 3) := by decide +kernel
theorem dX8_init_187 : decode cX8_init 187 = .ok (.aload_n 0, 1) := by decide +kernel
theorem dX8_init_188 : decode cX8_init 188 = .ok (.iconst 4, 1) := by decide +kernel
theorem dX8_init_189 : decode cX8_init 189 = .ok (.newarray .int, 2) := by decide +kernel
theorem dX8_init_191 : decode cX8_init 191 = .ok (.putfield 88, 3) := by decide +kernel
theorem dX8_init_194 : decode cX8_init 194 = .ok (.aload_n 0, 1) := by decide +kernel
theorem dX8_init_195 : decode cX8_init 195 = .ok (.iconst 4, 1) := by decide +kernel
theorem dX8_init_196 : decode cX8_init 196 = .ok (.newarray .int, 2) := by decide +kernel
theorem dX8_init_198 : decode cX8_init 198 = .ok (.putfield 91, 3) := by decide +kernel
theorem dX8_init_201 : decode cX8_init 201 = .ok (.aload_n 0, 1) := by decide +kernel
theorem dX8_init_202 : decode cX8_init 202 = .ok (.bipush 6, 2) := by decide +kernel
theorem dX8_init_204 : decode cX8_init 204 = .ok (.newarray .boolean, 2) := by decide +kernel
theorem dX8_init_206 : decode cX8_init 206 = .ok (.putfield 94, 3) := by decide +kernel
theorem dX8_init_209 : decode cX8_init 209 = .ok (.aload_n 0, 1) := by decide +kernel
theorem dX8_init_210 : decode cX8_init 210 = .ok (.bipush 16, 2) := by decide +kernel
theorem dX8_init_212 : decode cX8_init 212 = .ok (.newarray .long, 2) := by decide +kernel
theorem dX8_init_214 : decode cX8_init 214 = .ok (.putfield 98, 3) := by decide +kernel
theorem dX8_init_217 : decode cX8_init 217 = .ok (.aload_n 0, 1) := by decide +kernel
theorem dX8_init_218 : decode cX8_init 218 = .ok (.bipush 16, 2) := by decide +kernel
theorem dX8_init_220 : decode cX8_init 220 = .ok (.newarray .int, 2) := by decide +kernel
theorem dX8_init_222 : decode cX8_init 222 = .ok (.putfield 102, 3) := by decide +kernel
theorem dX8_init_225 : decode cX8_init 225 = .ok (.aload_n 0, 1) := by decide +kernel
theorem dX8_init_226 : decode cX8_init 226 = .ok (.bipush 16, 2) := by decide +kernel
theorem dX8_init_228 : decode cX8_init 228 = .ok (.newarray .int, 2) := by decide +kernel
theorem dX8_init_230 : decode cX8_init 230 = .ok (.putfield 105, 3) := by decide +kernel
theorem dX8_init_233 : decode cX8_init 233 = .ok (.return_, 1) := by decide +kernel
theorem dX8_find_0 : decode cX8_find 0 = .ok (.iconst 0, 1) := by decide +kernel
theorem dX8_find_1 : decode cX8_find 1 = .ok (.istore_n 3, 1) := by decide +kernel
theorem dX8_find_2 : decode cX8_find 2 = .ok (.iload_n 3, 1) := by decide +kernel
theorem dX8_find_3 : decode cX8_find 3 = .ok (.aload_n 0, 1) := by decide +kernel
theorem dX8_find_4 : decode cX8_find 4 = .ok (.getfield 108, 3) := by decide +kernel
theorem dX8_find_7 : decode cX8_find 7 = .ok (.if_icmp .ge 22, 3) := by decide +kernel
theorem dX8_find_10 : decode cX8_find 10 = .ok (.aload_n 0, 1) := by decide +kernel
theorem dX8_find_11 : decode cX8_find 11 = .ok (.getfield 98, 3) := by decide +kernel
theorem dX8_find_14 : decode cX8_find 14 = .ok (.iload_n 3, 1) := by decide +kernel
theorem dX8_find_15 : decode cX8_find 15 = .ok (.laload, 1) := by decide +kernel
theorem dX8_find_16 : decode cX8_find 16 = .ok (.lload_n 1, 1) := by decide +kernel
theorem dX8_find_17 : decode cX8_find 17 = .ok (.lcmp, 1) := by decide +kernel
theorem dX8_find_18 : decode cX8_find 18 = .ok (.ifCond .ne 5, 3) := by decide +kernel
theorem dX8_find_21 : decode cX8_find 21 = .ok (.iload_n 3, 1) := by decide +kernel
theorem dX8_find_22 : decode cX8_find 22 = .ok (.ireturn, 1) := by decide +kernel
theorem dX8_find_23 : decode cX8_find 23 = .ok (.iinc 3 1, 3) := by decide +kernel
theorem dX8_find_26 : decode cX8_find 26 = .ok (.goto (-24), 3) := by decide +kernel
theorem dX8_find_29 : decode cX8_find 29 = .ok (.iconst (-1), 1) := by decide +kernel
theorem dX8_find_30 : decode cX8_find 30 = .ok (.ireturn, 1) := by decide +kernel
theorem dX8_blockOf_0 : decode cX8_blockOf 0 = .ok (.iconst (-1), 1) := by decide +kernel
theorem dX8_blockOf_1 : decode cX8_blockOf 1 = .ok (.istore_n 2, 1) := by decide +kernel
theorem dX8_blockOf_2 : decode cX8_blockOf 2 = .ok (.iconst 0, 1) := by decide +kernel
theorem dX8_blockOf_3 : decode cX8_blockOf 3 = .ok (.istore_n 3, 1) := by decide +kernel
theorem dX8_blockOf_4 : decode cX8_blockOf 4 = .ok (.iload_n 3, 1) := by decide +kernel
theorem dX8_blockOf_5 : decode cX8_blockOf 5 = .ok (.aload_n 0, 1) := by decide +kernel
theorem dX8_blockOf_6 : decode cX8_blockOf 6 = .ok (.getfield 111, 3) := by decide +kernel
theorem dX8_blockOf_9 : decode cX8_blockOf 9 = .ok (.if_icmp .ge 31, 3) := by decide +kernel
theorem dX8_blockOf_12 : decode cX8_blockOf 12 = .ok (.iload_n 1, 1) := by decide +kernel
theorem dX8_blockOf_13 : decode cX8_blockOf 13 = .ok (.aload_n 0, 1) := by decide +kernel
theorem dX8_blockOf_14 : decode cX8_blockOf 14 = .ok (.getfield 49, 3) := by decide +kernel
theorem dX8_blockOf_17 : decode cX8_blockOf 17 = .ok (.iload_n 3, 1) := by decide +kernel
theorem dX8_blockOf_18 : decode cX8_blockOf 18 = .ok (.iaload, 1) := by decide +kernel
theorem dX8_blockOf_19 : decode cX8_blockOf 19 = .ok (.if_icmp .lt 15, 3) := by decide +kernel
theorem dX8_blockOf_22 : decode cX8_blockOf 22 = .ok (.iload_n 1, 1) := by decide +kernel
theorem dX8_blockOf_23 : decode cX8_blockOf 23 = .ok (.aload_n 0, 1) := by decide +kernel
theorem dX8_blockOf_24 : decode cX8_blockOf 24 = .ok (.getfield 52, 3) := by decide +kernel
theorem dX8_blockOf_27 : decode cX8_blockOf 27 = .ok (.iload_n 3, 1) := by decide +kernel
theorem dX8_blockOf_28 : decode cX8_blockOf 28 = .ok (.iaload, 1) := by decide +kernel
theorem dX8_blockOf_29 : decode cX8_blockOf 29 = .ok (.if_icmp .gt 5, 3) := by decide +kernel
theorem dX8_blockOf_32 : decode cX8_blockOf 32 = .ok (.iload_n 3, 1) := by decide +kernel
theorem dX8_blockOf_33 : decode cX8_blockOf 33 = .ok (.istore_n 2, 1) := by decide +kernel
theorem dX8_blockOf_34 : decode cX8_blockOf 34 = .ok (.iinc 3 1, 3) := by decide +kernel
theorem dX8_blockOf_37 : decode cX8_blockOf 37 = .ok (.goto (-33), 3) := by decide +kernel
theorem dX8_blockOf_40 : decode cX8_blockOf 40 = .ok (.iload_n 2, 1) := by decide +kernel
theorem dX8_blockOf_41 : decode cX8_blockOf 41 = .ok (.ireturn, 1) := by decide +kernel
theorem dX8_seatsOf_0 : decode cX8_seatsOf 0 = .ok (.aload_n 0, 1) := by decide +kernel
theorem dX8_seatsOf_1 : decode cX8_seatsOf 1 = .ok (.iload_n 1, 1) := by decide +kernel
theorem dX8_seatsOf_2 : decode cX8_seatsOf 2 = .ok (.invokevirtual 114, 3) := by decide +kernel
theorem dX8_seatsOf_5 : decode cX8_seatsOf 5 = .ok (.iconst (-1), 1) := by decide +kernel
theorem dX8_seatsOf_6 : decode cX8_seatsOf 6 = .ok (.if_icmp .ne 7, 3) := by decide +kernel
theorem dX8_seatsOf_9 : decode cX8_seatsOf 9 = .ok (.iconst 0, 1) := by decide +kernel
theorem dX8_seatsOf_10 : decode cX8_seatsOf 10 = .ok (.goto 13, 3) := by decide +kernel
theorem dX8_seatsOf_13 : decode cX8_seatsOf 13 = .ok (.aload_n 0, 1) := by decide +kernel
theorem dX8_seatsOf_14 : decode cX8_seatsOf 14 = .ok (.getfield 55, 3) := by decide +kernel
theorem dX8_seatsOf_17 : decode cX8_seatsOf 17 = .ok (.aload_n 0, 1) := by decide +kernel
theorem dX8_seatsOf_18 : decode cX8_seatsOf 18 = .ok (.iload_n 1, 1) := by decide +kernel
theorem dX8_seatsOf_19 : decode cX8_seatsOf 19 = .ok (.invokevirtual 114, 3) := by decide +kernel
theorem dX8_seatsOf_22 : decode cX8_seatsOf 22 = .ok (.iaload, 1) := by decide +kernel
theorem dX8_seatsOf_23 : decode cX8_seatsOf 23 = .ok (.ireturn, 1) := by decide +kernel
theorem dX8_namedIn_0 : decode cX8_namedIn 0 = .ok (.iconst 0, 1) := by decide +kernel
theorem dX8_namedIn_1 : decode cX8_namedIn 1 = .ok (.istore_n 2, 1) := by decide +kernel
theorem dX8_namedIn_2 : decode cX8_namedIn 2 = .ok (.iconst 0, 1) := by decide +kernel
theorem dX8_namedIn_3 : decode cX8_namedIn 3 = .ok (.istore_n 3, 1) := by decide +kernel
theorem dX8_namedIn_4 : decode cX8_namedIn 4 = .ok (.iload_n 3, 1) := by decide +kernel
theorem dX8_namedIn_5 : decode cX8_namedIn 5 = .ok (.aload_n 0, 1) := by decide +kernel
theorem dX8_namedIn_6 : decode cX8_namedIn 6 = .ok (.getfield 118, 3) := by decide +kernel
theorem dX8_namedIn_9 : decode cX8_namedIn 9 = .ok (.if_icmp .ge 27, 3) := by decide +kernel
theorem dX8_namedIn_12 : decode cX8_namedIn 12 = .ok (.iload_n 2, 1) := by decide +kernel
theorem dX8_namedIn_13 : decode cX8_namedIn 13 = .ok (.aload_n 0, 1) := by decide +kernel
theorem dX8_namedIn_14 : decode cX8_namedIn 14 = .ok (.getfield 67, 3) := by decide +kernel
theorem dX8_namedIn_17 : decode cX8_namedIn 17 = .ok (.iload_n 3, 1) := by decide +kernel
theorem dX8_namedIn_18 : decode cX8_namedIn 18 = .ok (.iaload, 1) := by decide +kernel
theorem dX8_namedIn_19 : decode cX8_namedIn 19 = .ok (.iload_n 1, 1) := by decide +kernel
theorem dX8_namedIn_20 : decode cX8_namedIn 20 = .ok (.if_icmp .ne 7, 3) := by decide +kernel
theorem dX8_namedIn_23 : decode cX8_namedIn 23 = .ok (.iconst 1, 1) := by decide +kernel
theorem dX8_namedIn_24 : decode cX8_namedIn 24 = .ok (.goto 4, 3) := by decide +kernel
theorem dX8_namedIn_27 : decode cX8_namedIn 27 = .ok (.iconst 0, 1) := by decide +kernel
theorem dX8_namedIn_28 : decode cX8_namedIn 28 = .ok (.iadd, 1) := by decide +kernel
theorem dX8_namedIn_29 : decode cX8_namedIn 29 = .ok (.istore_n 2, 1) := by decide +kernel
theorem dX8_namedIn_30 : decode cX8_namedIn 30 = .ok (.iinc 3 1, 3) := by decide +kernel
theorem dX8_namedIn_33 : decode cX8_namedIn 33 = .ok (.goto (-29), 3) := by decide +kernel
theorem dX8_namedIn_36 : decode cX8_namedIn 36 = .ok (.iload_n 2, 1) := by decide +kernel
theorem dX8_namedIn_37 : decode cX8_namedIn 37 = .ok (.ireturn, 1) := by decide +kernel
theorem dX8_othersIn_0 : decode cX8_othersIn 0 = .ok (.aload_n 0, 1) := by decide +kernel
theorem dX8_othersIn_1 : decode cX8_othersIn 1 = .ok (.iload_n 1, 1) := by decide +kernel
theorem dX8_othersIn_2 : decode cX8_othersIn 2 = .ok (.invokevirtual 121, 3) := by decide +kernel
theorem dX8_othersIn_5 : decode cX8_othersIn 5 = .ok (.aload_n 0, 1) := by decide +kernel
theorem dX8_othersIn_6 : decode cX8_othersIn 6 = .ok (.iload_n 1, 1) := by decide +kernel
theorem dX8_othersIn_7 : decode cX8_othersIn 7 = .ok (.invokevirtual 124, 3) := by decide +kernel
theorem dX8_othersIn_10 : decode cX8_othersIn 10 = .ok (.isub, 1) := by decide +kernel
theorem dX8_othersIn_11 : decode cX8_othersIn 11 = .ok (.istore_n 2, 1) := by decide +kernel
theorem dX8_othersIn_12 : decode cX8_othersIn 12 = .ok (.iload_n 2, 1) := by decide +kernel
theorem dX8_othersIn_13 : decode cX8_othersIn 13 = .ok (.ifCond .le 7, 3) := by decide +kernel
theorem dX8_othersIn_16 : decode cX8_othersIn 16 = .ok (.iload_n 2, 1) := by decide +kernel
theorem dX8_othersIn_17 : decode cX8_othersIn 17 = .ok (.goto 4, 3) := by decide +kernel
theorem dX8_othersIn_20 : decode cX8_othersIn 20 = .ok (.iconst 0, 1) := by decide +kernel
theorem dX8_othersIn_21 : decode cX8_othersIn 21 = .ok (.ireturn, 1) := by decide +kernel
theorem dX8_sitsIn_0 : decode cX8_sitsIn 0 = .ok (.aload_n 0, 1) := by decide +kernel
theorem dX8_sitsIn_1 : decode cX8_sitsIn 1 = .ok (.iload_n 1, 1) := by decide +kernel
theorem dX8_sitsIn_2 : decode cX8_sitsIn 2 = .ok (.invokevirtual 124, 3) := by decide +kernel
theorem dX8_sitsIn_5 : decode cX8_sitsIn 5 = .ok (.aload_n 0, 1) := by decide +kernel
theorem dX8_sitsIn_6 : decode cX8_sitsIn 6 = .ok (.iload_n 1, 1) := by decide +kernel
theorem dX8_sitsIn_7 : decode cX8_sitsIn 7 = .ok (.invokevirtual 127, 3) := by decide +kernel
theorem dX8_sitsIn_10 : decode cX8_sitsIn 10 = .ok (.iadd, 1) := by decide +kernel
theorem dX8_sitsIn_11 : decode cX8_sitsIn 11 = .ok (.ireturn, 1) := by decide +kernel
theorem dX8_isGap_0 : decode cX8_isGap 0 = .ok (.iconst 0, 1) := by decide +kernel
theorem dX8_isGap_1 : decode cX8_isGap 1 = .ok (.istore_n 2, 1) := by decide +kernel
theorem dX8_isGap_2 : decode cX8_isGap 2 = .ok (.iload_n 2, 1) := by decide +kernel
theorem dX8_isGap_3 : decode cX8_isGap 3 = .ok (.aload_n 0, 1) := by decide +kernel
theorem dX8_isGap_4 : decode cX8_isGap 4 = .ok (.getfield 130, 3) := by decide +kernel
theorem dX8_isGap_7 : decode cX8_isGap 7 = .ok (.if_icmp .ge 21, 3) := by decide +kernel
theorem dX8_isGap_10 : decode cX8_isGap 10 = .ok (.aload_n 0, 1) := by decide +kernel
theorem dX8_isGap_11 : decode cX8_isGap 11 = .ok (.getfield 79, 3) := by decide +kernel
theorem dX8_isGap_14 : decode cX8_isGap 14 = .ok (.iload_n 2, 1) := by decide +kernel
theorem dX8_isGap_15 : decode cX8_isGap 15 = .ok (.iaload, 1) := by decide +kernel
theorem dX8_isGap_16 : decode cX8_isGap 16 = .ok (.iload_n 1, 1) := by decide +kernel
theorem dX8_isGap_17 : decode cX8_isGap 17 = .ok (.if_icmp .ne 5, 3) := by decide +kernel
theorem dX8_isGap_20 : decode cX8_isGap 20 = .ok (.iconst 1, 1) := by decide +kernel
theorem dX8_isGap_21 : decode cX8_isGap 21 = .ok (.ireturn, 1) := by decide +kernel
theorem dX8_isGap_22 : decode cX8_isGap 22 = .ok (.iinc 2 1, 3) := by decide +kernel
theorem dX8_isGap_25 : decode cX8_isGap 25 = .ok (.goto (-23), 3) := by decide +kernel
theorem dX8_isGap_28 : decode cX8_isGap 28 = .ok (.iconst 0, 1) := by decide +kernel
theorem dX8_isGap_29 : decode cX8_isGap 29 = .ok (.ireturn, 1) := by decide +kernel
theorem dX8_trolleyAt_0 : decode cX8_trolleyAt 0 = .ok (.iconst 0, 1) := by decide +kernel
theorem dX8_trolleyAt_1 : decode cX8_trolleyAt 1 = .ok (.istore_n 2, 1) := by decide +kernel
theorem dX8_trolleyAt_2 : decode cX8_trolleyAt 2 = .ok (.iload_n 2, 1) := by decide +kernel
theorem dX8_trolleyAt_3 : decode cX8_trolleyAt 3 = .ok (.aload_n 0, 1) := by decide +kernel
theorem dX8_trolleyAt_4 : decode cX8_trolleyAt 4 = .ok (.getfield 133, 3) := by decide +kernel
theorem dX8_trolleyAt_7 : decode cX8_trolleyAt 7 = .ok (.if_icmp .ge 21, 3) := by decide +kernel
theorem dX8_trolleyAt_10 : decode cX8_trolleyAt 10 = .ok (.aload_n 0, 1) := by decide +kernel
theorem dX8_trolleyAt_11 : decode cX8_trolleyAt 11 = .ok (.getfield 37, 3) := by decide +kernel
theorem dX8_trolleyAt_14 : decode cX8_trolleyAt 14 = .ok (.iload_n 2, 1) := by decide +kernel
theorem dX8_trolleyAt_15 : decode cX8_trolleyAt 15 = .ok (.iaload, 1) := by decide +kernel
theorem dX8_trolleyAt_16 : decode cX8_trolleyAt 16 = .ok (.iload_n 1, 1) := by decide +kernel
theorem dX8_trolleyAt_17 : decode cX8_trolleyAt 17 = .ok (.if_icmp .ne 5, 3) := by decide +kernel
theorem dX8_trolleyAt_20 : decode cX8_trolleyAt 20 = .ok (.iload_n 2, 1) := by decide +kernel
theorem dX8_trolleyAt_21 : decode cX8_trolleyAt 21 = .ok (.ireturn, 1) := by decide +kernel
theorem dX8_trolleyAt_22 : decode cX8_trolleyAt 22 = .ok (.iinc 2 1, 3) := by decide +kernel
theorem dX8_trolleyAt_25 : decode cX8_trolleyAt 25 = .ok (.goto (-23), 3) := by decide +kernel
theorem dX8_trolleyAt_28 : decode cX8_trolleyAt 28 = .ok (.iconst (-1), 1) := by decide +kernel
theorem dX8_trolleyAt_29 : decode cX8_trolleyAt 29 = .ok (.ireturn, 1) := by decide +kernel
