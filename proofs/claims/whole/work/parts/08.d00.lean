theorem d_OW_init_0 : decode b_OW_init 0 = .ok (.aload_n 0, 1) := by decide +kernel
theorem d_OW_init_1 : decode b_OW_init 1 = .ok (.invokespecial 1, 3) := by decide +kernel
theorem d_OW_init_4 : decode b_OW_init 4 = .ok (.aload_n 0, 1) := by decide +kernel
theorem d_OW_init_5 : decode b_OW_init 5 = .ok (.new 7, 3) := by decide +kernel
theorem d_OW_init_8 : decode b_OW_init 8 = .ok (.dup, 1) := by decide +kernel
theorem d_OW_init_9 : decode b_OW_init 9 = .ok (.invokespecial 9, 3) := by decide +kernel
theorem d_OW_init_12 : decode b_OW_init 12 = .ok (.putfield 10, 3) := by decide +kernel
theorem d_OW_init_15 : decode b_OW_init 15 = .ok (.aload_n 0, 1) := by decide +kernel
theorem d_OW_init_16 : decode b_OW_init 16 = .ok (.new 16, 3) := by decide +kernel
theorem d_OW_init_19 : decode b_OW_init 19 = .ok (.dup, 1) := by decide +kernel
theorem d_OW_init_20 : decode b_OW_init 20 = .ok (.aload_n 0, 1) := by decide +kernel
theorem d_OW_init_21 : decode b_OW_init 21 = .ok (.getfield 10, 3) := by decide +kernel
theorem d_OW_init_24 : decode b_OW_init 24 = .ok (.invokespecial 18, 3) := by decide +kernel
theorem d_OW_init_27 : decode b_OW_init 27 = .ok (.putfield 21, 3) := by decide +kernel
theorem d_OW_init_30 : decode b_OW_init 30 = .ok (.aload_n 0, 1) := by decide +kernel
theorem d_OW_init_31 : decode b_OW_init 31 = .ok (.new 25, 3) := by decide +kernel
theorem d_OW_init_34 : decode b_OW_init 34 = .ok (.dup, 1) := by decide +kernel
theorem d_OW_init_35 : decode b_OW_init 35 = .ok (.sipush 200, 3) := by decide +kernel
theorem d_OW_init_38 : decode b_OW_init 38 = .ok (.invokespecial 27, 3) := by decide +kernel
theorem d_OW_init_41 : decode b_OW_init 41 = .ok (.putfield 30, 3) := by decide +kernel
theorem d_OW_init_44 : decode b_OW_init 44 = .ok (.aload_n 0, 1) := by decide +kernel
theorem d_OW_init_45 : decode b_OW_init 45 = .ok (.new 34, 3) := by decide +kernel
theorem d_OW_init_48 : decode b_OW_init 48 = .ok (.dup, 1) := by decide +kernel
theorem d_OW_init_49 : decode b_OW_init 49 = .ok (.invokespecial 36, 3) := by decide +kernel
theorem d_OW_init_52 : decode b_OW_init 52 = .ok (.putfield 37, 3) := by decide +kernel
theorem d_OW_init_55 : decode b_OW_init 55 = .ok (.iload_n 1, 1) := by decide +kernel
theorem d_OW_init_56 : decode b_OW_init 56 = .ok (.iconst 1, 1) := by decide +kernel
theorem d_OW_init_57 : decode b_OW_init 57 = .ok (.iand, 1) := by decide +kernel
theorem d_OW_init_58 : decode b_OW_init 58 = .ok (.iconst 1, 1) := by decide +kernel
theorem d_OW_init_59 : decode b_OW_init 59 = .ok (.if_icmp .ne (17), 3) := by decide +kernel
theorem d_OW_init_62 : decode b_OW_init 62 = .ok (.new 41, 3) := by decide +kernel
theorem d_OW_init_65 : decode b_OW_init 65 = .ok (.dup, 1) := by decide +kernel
theorem d_OW_init_66 : decode b_OW_init 66 = .ok (.aload_n 0, 1) := by decide +kernel
theorem d_OW_init_67 : decode b_OW_init 67 = .ok (.getfield 10, 3) := by decide +kernel
theorem d_OW_init_70 : decode b_OW_init 70 = .ok (.invokespecial 43, 3) := by decide +kernel
theorem d_OW_init_73 : decode b_OW_init 73 = .ok (.goto (14), 3) := by decide +kernel
theorem d_OW_init_76 : decode b_OW_init 76 = .ok (.new 44, 3) := by decide +kernel
theorem d_OW_init_79 : decode b_OW_init 79 = .ok (.dup, 1) := by decide +kernel
theorem d_OW_init_80 : decode b_OW_init 80 = .ok (.aload_n 0, 1) := by decide +kernel
theorem d_OW_init_81 : decode b_OW_init 81 = .ok (.getfield 10, 3) := by decide +kernel
theorem d_OW_init_84 : decode b_OW_init 84 = .ok (.invokespecial 46, 3) := by decide +kernel
theorem d_OW_init_87 : decode b_OW_init 87 = .ok (.astore_n 2, 1) := by decide +kernel
theorem d_OW_init_88 : decode b_OW_init 88 = .ok (.aload_n 0, 1) := by decide +kernel
theorem d_OW_init_89 : decode b_OW_init 89 = .ok (.new 47, 3) := by decide +kernel
theorem d_OW_init_92 : decode b_OW_init 92 = .ok (.dup, 1) := by decide +kernel
theorem d_OW_init_93 : decode b_OW_init 93 = .ok (.aload_n 0, 1) := by decide +kernel
theorem d_OW_init_94 : decode b_OW_init 94 = .ok (.getfield 37, 3) := by decide +kernel
theorem d_OW_init_97 : decode b_OW_init 97 = .ok (.aload_n 2, 1) := by decide +kernel
theorem d_OW_init_98 : decode b_OW_init 98 = .ok (.new 16, 3) := by decide +kernel
theorem d_OW_init_101 : decode b_OW_init 101 = .ok (.dup, 1) := by decide +kernel
theorem d_OW_init_102 : decode b_OW_init 102 = .ok (.aload_n 0, 1) := by decide +kernel
theorem d_OW_init_103 : decode b_OW_init 103 = .ok (.getfield 10, 3) := by decide +kernel
theorem d_OW_init_106 : decode b_OW_init 106 = .ok (.invokespecial 18, 3) := by decide +kernel
theorem d_OW_init_109 : decode b_OW_init 109 = .ok (.invokespecial 49, 3) := by decide +kernel
theorem d_OW_init_112 : decode b_OW_init 112 = .ok (.putfield 52, 3) := by decide +kernel
theorem d_OW_init_115 : decode b_OW_init 115 = .ok (.aload_n 0, 1) := by decide +kernel
theorem d_OW_init_116 : decode b_OW_init 116 = .ok (.new 56, 3) := by decide +kernel
theorem d_OW_init_119 : decode b_OW_init 119 = .ok (.dup, 1) := by decide +kernel
theorem d_OW_init_120 : decode b_OW_init 120 = .ok (.aload_n 0, 1) := by decide +kernel
theorem d_OW_init_121 : decode b_OW_init 121 = .ok (.getfield 37, 3) := by decide +kernel
theorem d_OW_init_124 : decode b_OW_init 124 = .ok (.aload_n 2, 1) := by decide +kernel
theorem d_OW_init_125 : decode b_OW_init 125 = .ok (.invokespecial 58, 3) := by decide +kernel
theorem d_OW_init_128 : decode b_OW_init 128 = .ok (.putfield 61, 3) := by decide +kernel
theorem d_OW_init_131 : decode b_OW_init 131 = .ok (.return_, 1) := by decide +kernel
theorem d_OW_field_0 : decode b_OW_field 0 = .ok (.aload_n 0, 1) := by decide +kernel
theorem d_OW_field_1 : decode b_OW_field 1 = .ok (.getfield 10, 3) := by decide +kernel
theorem d_OW_field_4 : decode b_OW_field 4 = .ok (.iload_n 1, 1) := by decide +kernel
theorem d_OW_field_5 : decode b_OW_field 5 = .ok (.iload_n 2, 1) := by decide +kernel
theorem d_OW_field_6 : decode b_OW_field 6 = .ok (.iload_n 3, 1) := by decide +kernel
theorem d_OW_field_7 : decode b_OW_field 7 = .ok (.invokevirtual 65, 3) := by decide +kernel
theorem d_OW_field_10 : decode b_OW_field 10 = .ok (.ireturn, 1) := by decide +kernel
theorem d_OW_put_0 : decode b_OW_put 0 = .ok (.aload_n 0, 1) := by decide +kernel
theorem d_OW_put_1 : decode b_OW_put 1 = .ok (.getfield 10, 3) := by decide +kernel
theorem d_OW_put_4 : decode b_OW_put 4 = .ok (.iload_n 1, 1) := by decide +kernel
theorem d_OW_put_5 : decode b_OW_put 5 = .ok (.invokevirtual 69, 3) := by decide +kernel
theorem d_OW_put_8 : decode b_OW_put 8 = .ok (.ifCond .eq (31), 3) := by decide +kernel
theorem d_OW_put_11 : decode b_OW_put 11 = .ok (.aload_n 0, 1) := by decide +kernel
theorem d_OW_put_12 : decode b_OW_put 12 = .ok (.getfield 10, 3) := by decide +kernel
theorem d_OW_put_15 : decode b_OW_put 15 = .ok (.iload_n 1, 1) := by decide +kernel
theorem d_OW_put_16 : decode b_OW_put 16 = .ok (.iload_n 2, 1) := by decide +kernel
theorem d_OW_put_17 : decode b_OW_put 17 = .ok (.invokevirtual 73, 3) := by decide +kernel
theorem d_OW_put_20 : decode b_OW_put 20 = .ok (.ifCond .eq (19), 3) := by decide +kernel
theorem d_OW_put_23 : decode b_OW_put 23 = .ok (.aload_n 0, 1) := by decide +kernel
theorem d_OW_put_24 : decode b_OW_put 24 = .ok (.getfield 21, 3) := by decide +kernel
theorem d_OW_put_27 : decode b_OW_put 27 = .ok (.iload_n 1, 1) := by decide +kernel
theorem d_OW_put_28 : decode b_OW_put 28 = .ok (.iload_n 2, 1) := by decide +kernel
theorem d_OW_put_29 : decode b_OW_put 29 = .ok (.invokevirtual 77, 3) := by decide +kernel
theorem d_OW_put_32 : decode b_OW_put 32 = .ok (.ifCond .eq (7), 3) := by decide +kernel
theorem d_OW_put_35 : decode b_OW_put 35 = .ok (.iconst 1, 1) := by decide +kernel
theorem d_OW_put_36 : decode b_OW_put 36 = .ok (.goto (4), 3) := by decide +kernel
theorem d_OW_put_39 : decode b_OW_put 39 = .ok (.iconst 0, 1) := by decide +kernel
theorem d_OW_put_40 : decode b_OW_put 40 = .ok (.ireturn, 1) := by decide +kernel
theorem d_OW_reset_0 : decode b_OW_reset 0 = .ok (.aload_n 0, 1) := by decide +kernel
theorem d_OW_reset_1 : decode b_OW_reset 1 = .ok (.getfield 21, 3) := by decide +kernel
theorem d_OW_reset_4 : decode b_OW_reset 4 = .ok (.invokevirtual 80, 3) := by decide +kernel
theorem d_OW_reset_7 : decode b_OW_reset 7 = .ok (.return_, 1) := by decide +kernel
theorem d_OW_call_0 : decode b_OW_call 0 = .ok (.aload_n 0, 1) := by decide +kernel
theorem d_OW_call_1 : decode b_OW_call 1 = .ok (.getfield 61, 3) := by decide +kernel
theorem d_OW_call_4 : decode b_OW_call 4 = .ok (.iload_n 1, 1) := by decide +kernel
theorem d_OW_call_5 : decode b_OW_call 5 = .ok (.aload_n 0, 1) := by decide +kernel
theorem d_OW_call_6 : decode b_OW_call 6 = .ok (.getfield 21, 3) := by decide +kernel
theorem d_OW_call_9 : decode b_OW_call 9 = .ok (.invokevirtual 83, 3) := by decide +kernel
theorem d_OW_call_12 : decode b_OW_call 12 = .ok (.ireturn, 1) := by decide +kernel
theorem d_OW_tick_0 : decode b_OW_tick 0 = .ok (.aload_n 0, 1) := by decide +kernel
theorem d_OW_tick_1 : decode b_OW_tick 1 = .ok (.getfield 61, 3) := by decide +kernel
theorem d_OW_tick_4 : decode b_OW_tick 4 = .ok (.invokevirtual 87, 3) := by decide +kernel
theorem d_OW_tick_7 : decode b_OW_tick 7 = .ok (.ireturn, 1) := by decide +kernel
theorem d_OW_deliver_0 : decode b_OW_deliver 0 = .ok (.aload_n 0, 1) := by decide +kernel
theorem d_OW_deliver_1 : decode b_OW_deliver 1 = .ok (.getfield 37, 3) := by decide +kernel
theorem d_OW_deliver_4 : decode b_OW_deliver 4 = .ok (.iload_n 1, 1) := by decide +kernel
theorem d_OW_deliver_5 : decode b_OW_deliver 5 = .ok (.invokevirtual 91, 3) := by decide +kernel
theorem d_OW_deliver_8 : decode b_OW_deliver 8 = .ok (.ifCond .ne (5), 3) := by decide +kernel
theorem d_OW_deliver_11 : decode b_OW_deliver 11 = .ok (.iconst (-1), 1) := by decide +kernel
theorem d_OW_deliver_12 : decode b_OW_deliver 12 = .ok (.ireturn, 1) := by decide +kernel
theorem d_OW_deliver_13 : decode b_OW_deliver 13 = .ok (.aload_n 0, 1) := by decide +kernel
theorem d_OW_deliver_14 : decode b_OW_deliver 14 = .ok (.getfield 37, 3) := by decide +kernel
theorem d_OW_deliver_17 : decode b_OW_deliver 17 = .ok (.iload_n 1, 1) := by decide +kernel
theorem d_OW_deliver_18 : decode b_OW_deliver 18 = .ok (.invokevirtual 92, 3) := by decide +kernel
theorem d_OW_deliver_21 : decode b_OW_deliver 21 = .ok (.istore_n 2, 1) := by decide +kernel
theorem d_OW_deliver_22 : decode b_OW_deliver 22 = .ok (.aload_n 0, 1) := by decide +kernel
theorem d_OW_deliver_23 : decode b_OW_deliver 23 = .ok (.getfield 37, 3) := by decide +kernel
theorem d_OW_deliver_26 : decode b_OW_deliver 26 = .ok (.iload_n 1, 1) := by decide +kernel
theorem d_OW_deliver_27 : decode b_OW_deliver 27 = .ok (.invokevirtual 95, 3) := by decide +kernel
theorem d_OW_deliver_30 : decode b_OW_deliver 30 = .ok (.astore_n 3, 1) := by decide +kernel
theorem d_OW_deliver_31 : decode b_OW_deliver 31 = .ok (.iload_n 2, 1) := by decide +kernel
theorem d_OW_deliver_32 : decode b_OW_deliver 32 = .ok (.ifCond .eq (14), 3) := by decide +kernel
theorem d_OW_deliver_35 : decode b_OW_deliver 35 = .ok (.aload_n 0, 1) := by decide +kernel
theorem d_OW_deliver_36 : decode b_OW_deliver 36 = .ok (.getfield 52, 3) := by decide +kernel
theorem d_OW_deliver_39 : decode b_OW_deliver 39 = .ok (.aload_n 3, 1) := by decide +kernel
theorem d_OW_deliver_40 : decode b_OW_deliver 40 = .ok (.invokevirtual 99, 3) := by decide +kernel
theorem d_OW_deliver_43 : decode b_OW_deliver 43 = .ok (.goto (11), 3) := by decide +kernel
theorem d_OW_deliver_46 : decode b_OW_deliver 46 = .ok (.aload_n 0, 1) := by decide +kernel
theorem d_OW_deliver_47 : decode b_OW_deliver 47 = .ok (.getfield 61, 3) := by decide +kernel
theorem d_OW_deliver_50 : decode b_OW_deliver 50 = .ok (.aload_n 3, 1) := by decide +kernel
theorem d_OW_deliver_51 : decode b_OW_deliver 51 = .ok (.invokevirtual 103, 3) := by decide +kernel
theorem d_OW_deliver_54 : decode b_OW_deliver 54 = .ok (.ireturn, 1) := by decide +kernel
theorem d_OW_lose_0 : decode b_OW_lose 0 = .ok (.aload_n 0, 1) := by decide +kernel
theorem d_OW_lose_1 : decode b_OW_lose 1 = .ok (.getfield 37, 3) := by decide +kernel
theorem d_OW_lose_4 : decode b_OW_lose 4 = .ok (.iload_n 1, 1) := by decide +kernel
theorem d_OW_lose_5 : decode b_OW_lose 5 = .ok (.invokevirtual 91, 3) := by decide +kernel
theorem d_OW_lose_8 : decode b_OW_lose 8 = .ok (.ifCond .ne (5), 3) := by decide +kernel
theorem d_OW_lose_11 : decode b_OW_lose 11 = .ok (.iconst 0, 1) := by decide +kernel
theorem d_OW_lose_12 : decode b_OW_lose 12 = .ok (.ireturn, 1) := by decide +kernel
theorem d_OW_lose_13 : decode b_OW_lose 13 = .ok (.aload_n 0, 1) := by decide +kernel
theorem d_OW_lose_14 : decode b_OW_lose 14 = .ok (.getfield 37, 3) := by decide +kernel
theorem d_OW_lose_17 : decode b_OW_lose 17 = .ok (.iload_n 1, 1) := by decide +kernel
theorem d_OW_lose_18 : decode b_OW_lose 18 = .ok (.invokevirtual 95, 3) := by decide +kernel
theorem d_OW_lose_21 : decode b_OW_lose 21 = .ok (.pop, 1) := by decide +kernel
theorem d_OW_lose_22 : decode b_OW_lose 22 = .ok (.iconst 1, 1) := by decide +kernel
theorem d_OW_lose_23 : decode b_OW_lose 23 = .ok (.ireturn, 1) := by decide +kernel
theorem d_OW_copy_0 : decode b_OW_copy 0 = .ok (.aload_n 0, 1) := by decide +kernel
theorem d_OW_copy_1 : decode b_OW_copy 1 = .ok (.getfield 37, 3) := by decide +kernel
theorem d_OW_copy_4 : decode b_OW_copy 4 = .ok (.iload_n 1, 1) := by decide +kernel
theorem d_OW_copy_5 : decode b_OW_copy 5 = .ok (.invokevirtual 91, 3) := by decide +kernel
theorem d_OW_copy_8 : decode b_OW_copy 8 = .ok (.ifCond .eq (13), 3) := by decide +kernel
theorem d_OW_copy_11 : decode b_OW_copy 11 = .ok (.aload_n 0, 1) := by decide +kernel
theorem d_OW_copy_12 : decode b_OW_copy 12 = .ok (.getfield 37, 3) := by decide +kernel
theorem d_OW_copy_15 : decode b_OW_copy 15 = .ok (.invokevirtual 104, 3) := by decide +kernel
theorem d_OW_copy_18 : decode b_OW_copy 18 = .ok (.ifCond .eq (5), 3) := by decide +kernel
theorem d_OW_copy_21 : decode b_OW_copy 21 = .ok (.iconst 0, 1) := by decide +kernel
theorem d_OW_copy_22 : decode b_OW_copy 22 = .ok (.ireturn, 1) := by decide +kernel
theorem d_OW_copy_23 : decode b_OW_copy 23 = .ok (.aload_n 0, 1) := by decide +kernel
theorem d_OW_copy_24 : decode b_OW_copy 24 = .ok (.getfield 37, 3) := by decide +kernel
theorem d_OW_copy_27 : decode b_OW_copy 27 = .ok (.aload_n 0, 1) := by decide +kernel
theorem d_OW_copy_28 : decode b_OW_copy 28 = .ok (.getfield 37, 3) := by decide +kernel
theorem d_OW_copy_31 : decode b_OW_copy 31 = .ok (.iload_n 1, 1) := by decide +kernel
theorem d_OW_copy_32 : decode b_OW_copy 32 = .ok (.invokevirtual 108, 3) := by decide +kernel
theorem d_OW_copy_35 : decode b_OW_copy 35 = .ok (.aload_n 0, 1) := by decide +kernel
theorem d_OW_copy_36 : decode b_OW_copy 36 = .ok (.getfield 37, 3) := by decide +kernel
theorem d_OW_copy_39 : decode b_OW_copy 39 = .ok (.iload_n 1, 1) := by decide +kernel
theorem d_OW_copy_40 : decode b_OW_copy 40 = .ok (.invokevirtual 92, 3) := by decide +kernel
theorem d_OW_copy_43 : decode b_OW_copy 43 = .ok (.invokevirtual 111, 3) := by decide +kernel
theorem d_OW_copy_46 : decode b_OW_copy 46 = .ok (.iconst 1, 1) := by decide +kernel
theorem d_OW_copy_47 : decode b_OW_copy 47 = .ok (.ireturn, 1) := by decide +kernel
theorem d_OW_add_0 : decode b_OW_add 0 = .ok (.iload_n 1, 1) := by decide +kernel
theorem d_OW_add_1 : decode b_OW_add 1 = .ok (.ifCond .lt (25), 3) := by decide +kernel
theorem d_OW_add_4 : decode b_OW_add 4 = .ok (.iload_n 1, 1) := by decide +kernel
theorem d_OW_add_5 : decode b_OW_add 5 = .ok (.sipush 255, 3) := by decide +kernel
theorem d_OW_add_8 : decode b_OW_add 8 = .ok (.if_icmp .gt (18), 3) := by decide +kernel
theorem d_OW_add_11 : decode b_OW_add 11 = .ok (.aload_n 0, 1) := by decide +kernel
theorem d_OW_add_12 : decode b_OW_add 12 = .ok (.getfield 30, 3) := by decide +kernel
theorem d_OW_add_15 : decode b_OW_add 15 = .ok (.iload_n 1, 1) := by decide +kernel
theorem d_OW_add_16 : decode b_OW_add 16 = .ok (.invokevirtual 115, 3) := by decide +kernel
theorem d_OW_add_19 : decode b_OW_add 19 = .ok (.ifCond .eq (7), 3) := by decide +kernel
theorem d_OW_add_22 : decode b_OW_add 22 = .ok (.iconst 1, 1) := by decide +kernel
theorem d_OW_add_23 : decode b_OW_add 23 = .ok (.goto (4), 3) := by decide +kernel
theorem d_OW_add_26 : decode b_OW_add 26 = .ok (.iconst 0, 1) := by decide +kernel
theorem d_OW_add_27 : decode b_OW_add 27 = .ok (.ireturn, 1) := by decide +kernel
theorem d_OW_hand_0 : decode b_OW_hand 0 = .ok (.iload_n 1, 1) := by decide +kernel
theorem d_OW_hand_1 : decode b_OW_hand 1 = .ok (.ifCond .eq (17), 3) := by decide +kernel
theorem d_OW_hand_4 : decode b_OW_hand 4 = .ok (.aload_n 0, 1) := by decide +kernel
theorem d_OW_hand_5 : decode b_OW_hand 5 = .ok (.getfield 52, 3) := by decide +kernel
theorem d_OW_hand_8 : decode b_OW_hand 8 = .ok (.aload_n 0, 1) := by decide +kernel
theorem d_OW_hand_9 : decode b_OW_hand 9 = .ok (.getfield 30, 3) := by decide +kernel
theorem d_OW_hand_12 : decode b_OW_hand 12 = .ok (.invokevirtual 99, 3) := by decide +kernel
theorem d_OW_hand_15 : decode b_OW_hand 15 = .ok (.goto (14), 3) := by decide +kernel
theorem d_OW_hand_18 : decode b_OW_hand 18 = .ok (.aload_n 0, 1) := by decide +kernel
theorem d_OW_hand_19 : decode b_OW_hand 19 = .ok (.getfield 61, 3) := by decide +kernel
theorem d_OW_hand_22 : decode b_OW_hand 22 = .ok (.aload_n 0, 1) := by decide +kernel
theorem d_OW_hand_23 : decode b_OW_hand 23 = .ok (.getfield 30, 3) := by decide +kernel
theorem d_OW_hand_26 : decode b_OW_hand 26 = .ok (.invokevirtual 103, 3) := by decide +kernel
theorem d_OW_hand_29 : decode b_OW_hand 29 = .ok (.istore_n 2, 1) := by decide +kernel
theorem d_OW_hand_30 : decode b_OW_hand 30 = .ok (.aload_n 0, 1) := by decide +kernel
theorem d_OW_hand_31 : decode b_OW_hand 31 = .ok (.getfield 30, 3) := by decide +kernel
theorem d_OW_hand_34 : decode b_OW_hand 34 = .ok (.invokevirtual 118, 3) := by decide +kernel
theorem d_OW_hand_37 : decode b_OW_hand 37 = .ok (.iload_n 2, 1) := by decide +kernel
theorem d_OW_hand_38 : decode b_OW_hand 38 = .ok (.ireturn, 1) := by decide +kernel
theorem d_OW_total_0 : decode b_OW_total 0 = .ok (.aload_n 0, 1) := by decide +kernel
theorem d_OW_total_1 : decode b_OW_total 1 = .ok (.getfield 52, 3) := by decide +kernel
theorem d_OW_total_4 : decode b_OW_total 4 = .ok (.getfield 119, 3) := by decide +kernel
theorem d_OW_total_7 : decode b_OW_total 7 = .ok (.ireturn, 1) := by decide +kernel
theorem d_OW_runs_0 : decode b_OW_runs 0 = .ok (.aload_n 0, 1) := by decide +kernel
theorem d_OW_runs_1 : decode b_OW_runs 1 = .ok (.getfield 52, 3) := by decide +kernel
theorem d_OW_runs_4 : decode b_OW_runs 4 = .ok (.getfield 123, 3) := by decide +kernel
theorem d_OW_runs_7 : decode b_OW_runs 7 = .ok (.ireturn, 1) := by decide +kernel
theorem d_OW_status_0 : decode b_OW_status 0 = .ok (.aload_n 0, 1) := by decide +kernel
theorem d_OW_status_1 : decode b_OW_status 1 = .ok (.getfield 61, 3) := by decide +kernel
theorem d_OW_status_4 : decode b_OW_status 4 = .ok (.iload_n 1, 1) := by decide +kernel
theorem d_OW_status_5 : decode b_OW_status 5 = .ok (.invokevirtual 126, 3) := by decide +kernel
theorem d_OW_status_8 : decode b_OW_status 8 = .ok (.ireturn, 1) := by decide +kernel
theorem d_OW_result_0 : decode b_OW_result 0 = .ok (.aload_n 0, 1) := by decide +kernel
theorem d_OW_result_1 : decode b_OW_result 1 = .ok (.getfield 61, 3) := by decide +kernel
theorem d_OW_result_4 : decode b_OW_result 4 = .ok (.iload_n 1, 1) := by decide +kernel
theorem d_OW_result_5 : decode b_OW_result 5 = .ok (.invokevirtual 130, 3) := by decide +kernel
theorem d_OW_result_8 : decode b_OW_result 8 = .ok (.ireturn, 1) := by decide +kernel
theorem d_OW_flight_0 : decode b_OW_flight 0 = .ok (.aload_n 0, 1) := by decide +kernel
theorem d_OW_flight_1 : decode b_OW_flight 1 = .ok (.getfield 37, 3) := by decide +kernel
theorem d_OW_flight_4 : decode b_OW_flight 4 = .ok (.getfield 133, 3) := by decide +kernel
theorem d_OW_flight_7 : decode b_OW_flight 7 = .ok (.ireturn, 1) := by decide +kernel
theorem d_OW_size_0 : decode b_OW_size 0 = .ok (.aload_n 0, 1) := by decide +kernel
theorem d_OW_size_1 : decode b_OW_size 1 = .ok (.getfield 37, 3) := by decide +kernel
theorem d_OW_size_4 : decode b_OW_size 4 = .ok (.iload_n 1, 1) := by decide +kernel
theorem d_OW_size_5 : decode b_OW_size 5 = .ok (.invokevirtual 91, 3) := by decide +kernel
theorem d_OW_size_8 : decode b_OW_size 8 = .ok (.ifCond .eq (17), 3) := by decide +kernel
theorem d_OW_size_11 : decode b_OW_size 11 = .ok (.aload_n 0, 1) := by decide +kernel
theorem d_OW_size_12 : decode b_OW_size 12 = .ok (.getfield 37, 3) := by decide +kernel
theorem d_OW_size_15 : decode b_OW_size 15 = .ok (.iload_n 1, 1) := by decide +kernel
theorem d_OW_size_16 : decode b_OW_size 16 = .ok (.invokevirtual 108, 3) := by decide +kernel
theorem d_OW_size_19 : decode b_OW_size 19 = .ok (.getfield 136, 3) := by decide +kernel
theorem d_OW_size_22 : decode b_OW_size 22 = .ok (.goto (4), 3) := by decide +kernel
theorem d_OW_size_25 : decode b_OW_size 25 = .ok (.iconst (-1), 1) := by decide +kernel
theorem d_OW_size_26 : decode b_OW_size 26 = .ok (.ireturn, 1) := by decide +kernel
theorem d_OW_byteAt_0 : decode b_OW_byteAt 0 = .ok (.aload_n 0, 1) := by decide +kernel
theorem d_OW_byteAt_1 : decode b_OW_byteAt 1 = .ok (.getfield 37, 3) := by decide +kernel
theorem d_OW_byteAt_4 : decode b_OW_byteAt 4 = .ok (.iload_n 1, 1) := by decide +kernel
theorem d_OW_byteAt_5 : decode b_OW_byteAt 5 = .ok (.invokevirtual 91, 3) := by decide +kernel
theorem d_OW_byteAt_8 : decode b_OW_byteAt 8 = .ok (.ifCond .eq (18), 3) := by decide +kernel
theorem d_OW_byteAt_11 : decode b_OW_byteAt 11 = .ok (.aload_n 0, 1) := by decide +kernel
theorem d_OW_byteAt_12 : decode b_OW_byteAt 12 = .ok (.getfield 37, 3) := by decide +kernel
theorem d_OW_byteAt_15 : decode b_OW_byteAt 15 = .ok (.iload_n 1, 1) := by decide +kernel
theorem d_OW_byteAt_16 : decode b_OW_byteAt 16 = .ok (.invokevirtual 108, 3) := by decide +kernel
theorem d_OW_byteAt_19 : decode b_OW_byteAt 19 = .ok (.iload_n 2, 1) := by decide +kernel
theorem d_OW_byteAt_20 : decode b_OW_byteAt 20 = .ok (.invokevirtual 139, 3) := by decide +kernel
theorem d_OW_byteAt_23 : decode b_OW_byteAt 23 = .ok (.goto (4), 3) := by decide +kernel
theorem d_OW_byteAt_26 : decode b_OW_byteAt 26 = .ok (.iconst (-1), 1) := by decide +kernel
theorem d_OW_byteAt_27 : decode b_OW_byteAt 27 = .ok (.ireturn, 1) := by decide +kernel
theorem d_Bytes_init_0 : decode b_Bytes_init 0 = .ok (.aload_n 0, 1) := by decide +kernel
theorem d_Bytes_init_1 : decode b_Bytes_init 1 = .ok (.invokespecial 3, 3) := by decide +kernel
theorem d_Bytes_init_4 : decode b_Bytes_init 4 = .ok (.aload_n 0, 1) := by decide +kernel
theorem d_Bytes_init_5 : decode b_Bytes_init 5 = .ok (.iload_n 1, 1) := by decide +kernel
theorem d_Bytes_init_6 : decode b_Bytes_init 6 = .ok (.newarray .int, 2) := by decide +kernel
theorem d_Bytes_init_8 : decode b_Bytes_init 8 = .ok (.putfield 9, 3) := by decide +kernel
theorem d_Bytes_init_11 : decode b_Bytes_init 11 = .ok (.aload_n 0, 1) := by decide +kernel
theorem d_Bytes_init_12 : decode b_Bytes_init 12 = .ok (.iconst 0, 1) := by decide +kernel
theorem d_Bytes_init_13 : decode b_Bytes_init 13 = .ok (.putfield 15, 3) := by decide +kernel
theorem d_Bytes_init_16 : decode b_Bytes_init 16 = .ok (.return_, 1) := by decide +kernel
theorem d_Bytes_clear_0 : decode b_Bytes_clear 0 = .ok (.aload_n 0, 1) := by decide +kernel
theorem d_Bytes_clear_1 : decode b_Bytes_clear 1 = .ok (.iconst 0, 1) := by decide +kernel
theorem d_Bytes_clear_2 : decode b_Bytes_clear 2 = .ok (.putfield 15, 3) := by decide +kernel
theorem d_Bytes_clear_5 : decode b_Bytes_clear 5 = .ok (.return_, 1) := by decide +kernel
theorem d_Bytes_append_0 : decode b_Bytes_append 0 = .ok (.aload_n 0, 1) := by decide +kernel
theorem d_Bytes_append_1 : decode b_Bytes_append 1 = .ok (.getfield 15, 3) := by decide +kernel
theorem d_Bytes_append_4 : decode b_Bytes_append 4 = .ok (.aload_n 0, 1) := by decide +kernel
theorem d_Bytes_append_5 : decode b_Bytes_append 5 = .ok (.getfield 9, 3) := by decide +kernel
theorem d_Bytes_append_8 : decode b_Bytes_append 8 = .ok (.arraylength, 1) := by decide +kernel
theorem d_Bytes_append_9 : decode b_Bytes_append 9 = .ok (.if_icmp .lt (5), 3) := by decide +kernel
theorem d_Bytes_append_12 : decode b_Bytes_append 12 = .ok (.iconst 0, 1) := by decide +kernel
theorem d_Bytes_append_13 : decode b_Bytes_append 13 = .ok (.ireturn, 1) := by decide +kernel
theorem d_Bytes_append_14 : decode b_Bytes_append 14 = .ok (.aload_n 0, 1) := by decide +kernel
theorem d_Bytes_append_15 : decode b_Bytes_append 15 = .ok (.getfield 9, 3) := by decide +kernel
theorem d_Bytes_append_18 : decode b_Bytes_append 18 = .ok (.aload_n 0, 1) := by decide +kernel
theorem d_Bytes_append_19 : decode b_Bytes_append 19 = .ok (.getfield 15, 3) := by decide +kernel
theorem d_Bytes_append_22 : decode b_Bytes_append 22 = .ok (.iload_n 1, 1) := by decide +kernel
theorem d_Bytes_append_23 : decode b_Bytes_append 23 = .ok (.iastore, 1) := by decide +kernel
theorem d_Bytes_append_24 : decode b_Bytes_append 24 = .ok (.aload_n 0, 1) := by decide +kernel
theorem d_Bytes_append_25 : decode b_Bytes_append 25 = .ok (.dup, 1) := by decide +kernel
theorem d_Bytes_append_26 : decode b_Bytes_append 26 = .ok (.getfield 15, 3) := by decide +kernel
theorem d_Bytes_append_29 : decode b_Bytes_append 29 = .ok (.iconst 1, 1) := by decide +kernel
theorem d_Bytes_append_30 : decode b_Bytes_append 30 = .ok (.iadd, 1) := by decide +kernel
theorem d_Bytes_append_31 : decode b_Bytes_append 31 = .ok (.putfield 15, 3) := by decide +kernel
theorem d_Bytes_append_34 : decode b_Bytes_append 34 = .ok (.iconst 1, 1) := by decide +kernel
theorem d_Bytes_append_35 : decode b_Bytes_append 35 = .ok (.ireturn, 1) := by decide +kernel
theorem d_Bytes_appendWord_0 : decode b_Bytes_appendWord 0 = .ok (.aload_n 0, 1) := by decide +kernel
theorem d_Bytes_appendWord_1 : decode b_Bytes_appendWord 1 = .ok (.iload_n 1, 1) := by decide +kernel
theorem d_Bytes_appendWord_2 : decode b_Bytes_appendWord 2 = .ok (.bipush 24, 2) := by decide +kernel
theorem d_Bytes_appendWord_4 : decode b_Bytes_appendWord 4 = .ok (.iushr, 1) := by decide +kernel
theorem d_Bytes_appendWord_5 : decode b_Bytes_appendWord 5 = .ok (.sipush 255, 3) := by decide +kernel
theorem d_Bytes_appendWord_8 : decode b_Bytes_appendWord 8 = .ok (.iand, 1) := by decide +kernel
theorem d_Bytes_appendWord_9 : decode b_Bytes_appendWord 9 = .ok (.invokevirtual 19, 3) := by decide +kernel
theorem d_Bytes_appendWord_12 : decode b_Bytes_appendWord 12 = .ok (.pop, 1) := by decide +kernel
theorem d_Bytes_appendWord_13 : decode b_Bytes_appendWord 13 = .ok (.aload_n 0, 1) := by decide +kernel
theorem d_Bytes_appendWord_14 : decode b_Bytes_appendWord 14 = .ok (.iload_n 1, 1) := by decide +kernel
theorem d_Bytes_appendWord_15 : decode b_Bytes_appendWord 15 = .ok (.bipush 16, 2) := by decide +kernel
theorem d_Bytes_appendWord_17 : decode b_Bytes_appendWord 17 = .ok (.iushr, 1) := by decide +kernel
theorem d_Bytes_appendWord_18 : decode b_Bytes_appendWord 18 = .ok (.sipush 255, 3) := by decide +kernel
theorem d_Bytes_appendWord_21 : decode b_Bytes_appendWord 21 = .ok (.iand, 1) := by decide +kernel
theorem d_Bytes_appendWord_22 : decode b_Bytes_appendWord 22 = .ok (.invokevirtual 19, 3) := by decide +kernel
theorem d_Bytes_appendWord_25 : decode b_Bytes_appendWord 25 = .ok (.pop, 1) := by decide +kernel
theorem d_Bytes_appendWord_26 : decode b_Bytes_appendWord 26 = .ok (.aload_n 0, 1) := by decide +kernel
theorem d_Bytes_appendWord_27 : decode b_Bytes_appendWord 27 = .ok (.iload_n 1, 1) := by decide +kernel
theorem d_Bytes_appendWord_28 : decode b_Bytes_appendWord 28 = .ok (.bipush 8, 2) := by decide +kernel
theorem d_Bytes_appendWord_30 : decode b_Bytes_appendWord 30 = .ok (.iushr, 1) := by decide +kernel
theorem d_Bytes_appendWord_31 : decode b_Bytes_appendWord 31 = .ok (.sipush 255, 3) := by decide +kernel
theorem d_Bytes_appendWord_34 : decode b_Bytes_appendWord 34 = .ok (.iand, 1) := by decide +kernel
theorem d_Bytes_appendWord_35 : decode b_Bytes_appendWord 35 = .ok (.invokevirtual 19, 3) := by decide +kernel
theorem d_Bytes_appendWord_38 : decode b_Bytes_appendWord 38 = .ok (.pop, 1) := by decide +kernel
theorem d_Bytes_appendWord_39 : decode b_Bytes_appendWord 39 = .ok (.aload_n 0, 1) := by decide +kernel
theorem d_Bytes_appendWord_40 : decode b_Bytes_appendWord 40 = .ok (.iload_n 1, 1) := by decide +kernel
theorem d_Bytes_appendWord_41 : decode b_Bytes_appendWord 41 = .ok (.sipush 255, 3) := by decide +kernel
theorem d_Bytes_appendWord_44 : decode b_Bytes_appendWord 44 = .ok (.iand, 1) := by decide +kernel
theorem d_Bytes_appendWord_45 : decode b_Bytes_appendWord 45 = .ok (.invokevirtual 19, 3) := by decide +kernel
theorem d_Bytes_appendWord_48 : decode b_Bytes_appendWord 48 = .ok (.pop, 1) := by decide +kernel
theorem d_Bytes_appendWord_49 : decode b_Bytes_appendWord 49 = .ok (.return_, 1) := by decide +kernel
theorem d_Bytes_appendPart_0 : decode b_Bytes_appendPart 0 = .ok (.iload_n 2, 1) := by decide +kernel
theorem d_Bytes_appendPart_1 : decode b_Bytes_appendPart 1 = .ok (.iload_n 3, 1) := by decide +kernel
theorem d_Bytes_appendPart_2 : decode b_Bytes_appendPart 2 = .ok (.iadd, 1) := by decide +kernel
theorem d_Bytes_appendPart_3 : decode b_Bytes_appendPart 3 = .ok (.aload_n 1, 1) := by decide +kernel
theorem d_Bytes_appendPart_4 : decode b_Bytes_appendPart 4 = .ok (.getfield 15, 3) := by decide +kernel
theorem d_Bytes_appendPart_7 : decode b_Bytes_appendPart 7 = .ok (.invokestatic 23, 3) := by decide +kernel
theorem d_Bytes_appendPart_10 : decode b_Bytes_appendPart 10 = .ok (.istore 4, 2) := by decide +kernel
theorem d_Bytes_appendPart_12 : decode b_Bytes_appendPart 12 = .ok (.iload_n 2, 1) := by decide +kernel
theorem d_Bytes_appendPart_13 : decode b_Bytes_appendPart 13 = .ok (.iconst 0, 1) := by decide +kernel
theorem d_Bytes_appendPart_14 : decode b_Bytes_appendPart 14 = .ok (.invokestatic 29, 3) := by decide +kernel
theorem d_Bytes_appendPart_17 : decode b_Bytes_appendPart 17 = .ok (.istore 5, 2) := by decide +kernel
theorem d_Bytes_appendPart_19 : decode b_Bytes_appendPart 19 = .ok (.iload 5, 2) := by decide +kernel
theorem d_Bytes_appendPart_21 : decode b_Bytes_appendPart 21 = .ok (.iload 4, 2) := by decide +kernel
theorem d_Bytes_appendPart_23 : decode b_Bytes_appendPart 23 = .ok (.if_icmp .ge (21), 3) := by decide +kernel
theorem d_Bytes_appendPart_26 : decode b_Bytes_appendPart 26 = .ok (.aload_n 0, 1) := by decide +kernel
theorem d_Bytes_appendPart_27 : decode b_Bytes_appendPart 27 = .ok (.aload_n 1, 1) := by decide +kernel
theorem d_Bytes_appendPart_28 : decode b_Bytes_appendPart 28 = .ok (.getfield 9, 3) := by decide +kernel
theorem d_Bytes_appendPart_31 : decode b_Bytes_appendPart 31 = .ok (.iload 5, 2) := by decide +kernel
theorem d_Bytes_appendPart_33 : decode b_Bytes_appendPart 33 = .ok (.iaload, 1) := by decide +kernel
theorem d_Bytes_appendPart_34 : decode b_Bytes_appendPart 34 = .ok (.invokevirtual 19, 3) := by decide +kernel
theorem d_Bytes_appendPart_37 : decode b_Bytes_appendPart 37 = .ok (.pop, 1) := by decide +kernel
theorem d_Bytes_appendPart_38 : decode b_Bytes_appendPart 38 = .ok (.iinc 5 (1), 3) := by decide +kernel
theorem d_Bytes_appendPart_41 : decode b_Bytes_appendPart 41 = .ok (.goto (-22), 3) := by decide +kernel
theorem d_Bytes_appendPart_44 : decode b_Bytes_appendPart 44 = .ok (.return_, 1) := by decide +kernel
theorem d_Bytes_become_0 : decode b_Bytes_become 0 = .ok (.aload_n 0, 1) := by decide +kernel
theorem d_Bytes_become_1 : decode b_Bytes_become 1 = .ok (.aload_n 1, 1) := by decide +kernel
theorem d_Bytes_become_2 : decode b_Bytes_become 2 = .ok (.getfield 15, 3) := by decide +kernel
theorem d_Bytes_become_5 : decode b_Bytes_become 5 = .ok (.aload_n 0, 1) := by decide +kernel
theorem d_Bytes_become_6 : decode b_Bytes_become 6 = .ok (.getfield 9, 3) := by decide +kernel
theorem d_Bytes_become_9 : decode b_Bytes_become 9 = .ok (.arraylength, 1) := by decide +kernel
theorem d_Bytes_become_10 : decode b_Bytes_become 10 = .ok (.invokestatic 23, 3) := by decide +kernel
theorem d_Bytes_become_13 : decode b_Bytes_become 13 = .ok (.putfield 15, 3) := by decide +kernel
theorem d_Bytes_become_16 : decode b_Bytes_become 16 = .ok (.aload_n 1, 1) := by decide +kernel
theorem d_Bytes_become_17 : decode b_Bytes_become 17 = .ok (.getfield 9, 3) := by decide +kernel
theorem d_Bytes_become_20 : decode b_Bytes_become 20 = .ok (.iconst 0, 1) := by decide +kernel
theorem d_Bytes_become_21 : decode b_Bytes_become 21 = .ok (.aload_n 0, 1) := by decide +kernel
theorem d_Bytes_become_22 : decode b_Bytes_become 22 = .ok (.getfield 9, 3) := by decide +kernel
theorem d_Bytes_become_25 : decode b_Bytes_become 25 = .ok (.iconst 0, 1) := by decide +kernel
theorem d_Bytes_become_26 : decode b_Bytes_become 26 = .ok (.aload_n 0, 1) := by decide +kernel
theorem d_Bytes_become_27 : decode b_Bytes_become 27 = .ok (.getfield 15, 3) := by decide +kernel
theorem d_Bytes_become_30 : decode b_Bytes_become 30 = .ok (.invokestatic 32, 3) := by decide +kernel
theorem d_Bytes_become_33 : decode b_Bytes_become 33 = .ok (.return_, 1) := by decide +kernel
theorem d_Bytes_at_0 : decode b_Bytes_at 0 = .ok (.iload_n 1, 1) := by decide +kernel
theorem d_Bytes_at_1 : decode b_Bytes_at 1 = .ok (.ifCond .lt (20), 3) := by decide +kernel
theorem d_Bytes_at_4 : decode b_Bytes_at 4 = .ok (.iload_n 1, 1) := by decide +kernel
theorem d_Bytes_at_5 : decode b_Bytes_at 5 = .ok (.aload_n 0, 1) := by decide +kernel
theorem d_Bytes_at_6 : decode b_Bytes_at 6 = .ok (.getfield 15, 3) := by decide +kernel
theorem d_Bytes_at_9 : decode b_Bytes_at 9 = .ok (.if_icmp .ge (12), 3) := by decide +kernel
theorem d_Bytes_at_12 : decode b_Bytes_at 12 = .ok (.aload_n 0, 1) := by decide +kernel
theorem d_Bytes_at_13 : decode b_Bytes_at 13 = .ok (.getfield 9, 3) := by decide +kernel
theorem d_Bytes_at_16 : decode b_Bytes_at 16 = .ok (.iload_n 1, 1) := by decide +kernel
theorem d_Bytes_at_17 : decode b_Bytes_at 17 = .ok (.iaload, 1) := by decide +kernel
theorem d_Bytes_at_18 : decode b_Bytes_at 18 = .ok (.goto (4), 3) := by decide +kernel
theorem d_Bytes_at_21 : decode b_Bytes_at 21 = .ok (.iconst (-1), 1) := by decide +kernel
theorem d_Bytes_at_22 : decode b_Bytes_at 22 = .ok (.ireturn, 1) := by decide +kernel
theorem d_Bytes_wordAt_0 : decode b_Bytes_wordAt 0 = .ok (.iload_n 1, 1) := by decide +kernel
theorem d_Bytes_wordAt_1 : decode b_Bytes_wordAt 1 = .ok (.ifCond .lt (13), 3) := by decide +kernel
theorem d_Bytes_wordAt_4 : decode b_Bytes_wordAt 4 = .ok (.iload_n 1, 1) := by decide +kernel
theorem d_Bytes_wordAt_5 : decode b_Bytes_wordAt 5 = .ok (.aload_n 0, 1) := by decide +kernel
theorem d_Bytes_wordAt_6 : decode b_Bytes_wordAt 6 = .ok (.getfield 15, 3) := by decide +kernel
theorem d_Bytes_wordAt_9 : decode b_Bytes_wordAt 9 = .ok (.iconst 4, 1) := by decide +kernel
theorem d_Bytes_wordAt_10 : decode b_Bytes_wordAt 10 = .ok (.isub, 1) := by decide +kernel
theorem d_Bytes_wordAt_11 : decode b_Bytes_wordAt 11 = .ok (.if_icmp .le (5), 3) := by decide +kernel
theorem d_Bytes_wordAt_14 : decode b_Bytes_wordAt 14 = .ok (.iconst 0, 1) := by decide +kernel
theorem d_Bytes_wordAt_15 : decode b_Bytes_wordAt 15 = .ok (.ireturn, 1) := by decide +kernel
theorem d_Bytes_wordAt_16 : decode b_Bytes_wordAt 16 = .ok (.aload_n 0, 1) := by decide +kernel
theorem d_Bytes_wordAt_17 : decode b_Bytes_wordAt 17 = .ok (.getfield 9, 3) := by decide +kernel
theorem d_Bytes_wordAt_20 : decode b_Bytes_wordAt 20 = .ok (.iload_n 1, 1) := by decide +kernel
theorem d_Bytes_wordAt_21 : decode b_Bytes_wordAt 21 = .ok (.iaload, 1) := by decide +kernel
theorem d_Bytes_wordAt_22 : decode b_Bytes_wordAt 22 = .ok (.bipush 24, 2) := by decide +kernel
theorem d_Bytes_wordAt_24 : decode b_Bytes_wordAt 24 = .ok (.ishl, 1) := by decide +kernel
theorem d_Bytes_wordAt_25 : decode b_Bytes_wordAt 25 = .ok (.aload_n 0, 1) := by decide +kernel
theorem d_Bytes_wordAt_26 : decode b_Bytes_wordAt 26 = .ok (.getfield 9, 3) := by decide +kernel
theorem d_Bytes_wordAt_29 : decode b_Bytes_wordAt 29 = .ok (.iload_n 1, 1) := by decide +kernel
theorem d_Bytes_wordAt_30 : decode b_Bytes_wordAt 30 = .ok (.iconst 1, 1) := by decide +kernel
theorem d_Bytes_wordAt_31 : decode b_Bytes_wordAt 31 = .ok (.iadd, 1) := by decide +kernel
theorem d_Bytes_wordAt_32 : decode b_Bytes_wordAt 32 = .ok (.iaload, 1) := by decide +kernel
theorem d_Bytes_wordAt_33 : decode b_Bytes_wordAt 33 = .ok (.bipush 16, 2) := by decide +kernel
theorem d_Bytes_wordAt_35 : decode b_Bytes_wordAt 35 = .ok (.ishl, 1) := by decide +kernel
theorem d_Bytes_wordAt_36 : decode b_Bytes_wordAt 36 = .ok (.ior, 1) := by decide +kernel
theorem d_Bytes_wordAt_37 : decode b_Bytes_wordAt 37 = .ok (.aload_n 0, 1) := by decide +kernel
theorem d_Bytes_wordAt_38 : decode b_Bytes_wordAt 38 = .ok (.getfield 9, 3) := by decide +kernel
theorem d_Bytes_wordAt_41 : decode b_Bytes_wordAt 41 = .ok (.iload_n 1, 1) := by decide +kernel
theorem d_Bytes_wordAt_42 : decode b_Bytes_wordAt 42 = .ok (.iconst 2, 1) := by decide +kernel
theorem d_Bytes_wordAt_43 : decode b_Bytes_wordAt 43 = .ok (.iadd, 1) := by decide +kernel
theorem d_Bytes_wordAt_44 : decode b_Bytes_wordAt 44 = .ok (.iaload, 1) := by decide +kernel
theorem d_Bytes_wordAt_45 : decode b_Bytes_wordAt 45 = .ok (.bipush 8, 2) := by decide +kernel
theorem d_Bytes_wordAt_47 : decode b_Bytes_wordAt 47 = .ok (.ishl, 1) := by decide +kernel
theorem d_Bytes_wordAt_48 : decode b_Bytes_wordAt 48 = .ok (.ior, 1) := by decide +kernel
theorem d_Bytes_wordAt_49 : decode b_Bytes_wordAt 49 = .ok (.aload_n 0, 1) := by decide +kernel
theorem d_Bytes_wordAt_50 : decode b_Bytes_wordAt 50 = .ok (.getfield 9, 3) := by decide +kernel
theorem d_Bytes_wordAt_53 : decode b_Bytes_wordAt 53 = .ok (.iload_n 1, 1) := by decide +kernel
theorem d_Bytes_wordAt_54 : decode b_Bytes_wordAt 54 = .ok (.iconst 3, 1) := by decide +kernel
theorem d_Bytes_wordAt_55 : decode b_Bytes_wordAt 55 = .ok (.iadd, 1) := by decide +kernel
theorem d_Bytes_wordAt_56 : decode b_Bytes_wordAt 56 = .ok (.iaload, 1) := by decide +kernel
theorem d_Bytes_wordAt_57 : decode b_Bytes_wordAt 57 = .ok (.ior, 1) := by decide +kernel
theorem d_Bytes_wordAt_58 : decode b_Bytes_wordAt 58 = .ok (.ireturn, 1) := by decide +kernel
theorem d_Bytes_swapped_0 : decode b_Bytes_swapped 0 = .ok (.iload_n 0, 1) := by decide +kernel
theorem d_Bytes_swapped_1 : decode b_Bytes_swapped 1 = .ok (.bipush 24, 2) := by decide +kernel
theorem d_Bytes_swapped_3 : decode b_Bytes_swapped 3 = .ok (.ishl, 1) := by decide +kernel
theorem d_Bytes_swapped_4 : decode b_Bytes_swapped 4 = .ok (.iload_n 0, 1) := by decide +kernel
theorem d_Bytes_swapped_5 : decode b_Bytes_swapped 5 = .ok (.ldc 38, 2) := by decide +kernel
theorem d_Bytes_swapped_7 : decode b_Bytes_swapped 7 = .ok (.iand, 1) := by decide +kernel
theorem d_Bytes_swapped_8 : decode b_Bytes_swapped 8 = .ok (.bipush 8, 2) := by decide +kernel
theorem d_Bytes_swapped_10 : decode b_Bytes_swapped 10 = .ok (.ishl, 1) := by decide +kernel
theorem d_Bytes_swapped_11 : decode b_Bytes_swapped 11 = .ok (.ior, 1) := by decide +kernel
theorem d_Bytes_swapped_12 : decode b_Bytes_swapped 12 = .ok (.iload_n 0, 1) := by decide +kernel
theorem d_Bytes_swapped_13 : decode b_Bytes_swapped 13 = .ok (.bipush 8, 2) := by decide +kernel
theorem d_Bytes_swapped_15 : decode b_Bytes_swapped 15 = .ok (.iushr, 1) := by decide +kernel
theorem d_Bytes_swapped_16 : decode b_Bytes_swapped 16 = .ok (.ldc 38, 2) := by decide +kernel
theorem d_Bytes_swapped_18 : decode b_Bytes_swapped 18 = .ok (.iand, 1) := by decide +kernel
theorem d_Bytes_swapped_19 : decode b_Bytes_swapped 19 = .ok (.ior, 1) := by decide +kernel
theorem d_Bytes_swapped_20 : decode b_Bytes_swapped 20 = .ok (.iload_n 0, 1) := by decide +kernel
theorem d_Bytes_swapped_21 : decode b_Bytes_swapped 21 = .ok (.bipush 24, 2) := by decide +kernel
theorem d_Bytes_swapped_23 : decode b_Bytes_swapped 23 = .ok (.iushr, 1) := by decide +kernel
theorem d_Bytes_swapped_24 : decode b_Bytes_swapped 24 = .ok (.ior, 1) := by decide +kernel
theorem d_Bytes_swapped_25 : decode b_Bytes_swapped 25 = .ok (.ireturn, 1) := by decide +kernel
theorem d_Bytes_moveToEnd_0 : decode b_Bytes_moveToEnd 0 = .ok (.iload_n 1, 1) := by decide +kernel
theorem d_Bytes_moveToEnd_1 : decode b_Bytes_moveToEnd 1 = .ok (.ifCond .lt (9), 3) := by decide +kernel
theorem d_Bytes_moveToEnd_4 : decode b_Bytes_moveToEnd 4 = .ok (.iload_n 1, 1) := by decide +kernel
theorem d_Bytes_moveToEnd_5 : decode b_Bytes_moveToEnd 5 = .ok (.aload_n 0, 1) := by decide +kernel
theorem d_Bytes_moveToEnd_6 : decode b_Bytes_moveToEnd 6 = .ok (.arraylength, 1) := by decide +kernel
theorem d_Bytes_moveToEnd_7 : decode b_Bytes_moveToEnd 7 = .ok (.if_icmp .lt (4), 3) := by decide +kernel
theorem d_Bytes_moveToEnd_10 : decode b_Bytes_moveToEnd 10 = .ok (.return_, 1) := by decide +kernel
theorem d_Bytes_moveToEnd_11 : decode b_Bytes_moveToEnd 11 = .ok (.aload_n 0, 1) := by decide +kernel
theorem d_Bytes_moveToEnd_12 : decode b_Bytes_moveToEnd 12 = .ok (.iload_n 1, 1) := by decide +kernel
theorem d_Bytes_moveToEnd_13 : decode b_Bytes_moveToEnd 13 = .ok (.aaload, 1) := by decide +kernel
theorem d_Bytes_moveToEnd_14 : decode b_Bytes_moveToEnd 14 = .ok (.astore_n 2, 1) := by decide +kernel
theorem d_Bytes_moveToEnd_15 : decode b_Bytes_moveToEnd 15 = .ok (.iload_n 1, 1) := by decide +kernel
theorem d_Bytes_moveToEnd_16 : decode b_Bytes_moveToEnd 16 = .ok (.istore_n 3, 1) := by decide +kernel
theorem d_Bytes_moveToEnd_17 : decode b_Bytes_moveToEnd 17 = .ok (.iload_n 3, 1) := by decide +kernel
theorem d_Bytes_moveToEnd_18 : decode b_Bytes_moveToEnd 18 = .ok (.aload_n 0, 1) := by decide +kernel
theorem d_Bytes_moveToEnd_19 : decode b_Bytes_moveToEnd 19 = .ok (.arraylength, 1) := by decide +kernel
theorem d_Bytes_moveToEnd_20 : decode b_Bytes_moveToEnd 20 = .ok (.iconst 1, 1) := by decide +kernel
theorem d_Bytes_moveToEnd_21 : decode b_Bytes_moveToEnd 21 = .ok (.isub, 1) := by decide +kernel
theorem d_Bytes_moveToEnd_22 : decode b_Bytes_moveToEnd 22 = .ok (.if_icmp .ge (17), 3) := by decide +kernel
theorem d_Bytes_moveToEnd_25 : decode b_Bytes_moveToEnd 25 = .ok (.aload_n 0, 1) := by decide +kernel
theorem d_Bytes_moveToEnd_26 : decode b_Bytes_moveToEnd 26 = .ok (.iload_n 3, 1) := by decide +kernel
theorem d_Bytes_moveToEnd_27 : decode b_Bytes_moveToEnd 27 = .ok (.aload_n 0, 1) := by decide +kernel
theorem d_Bytes_moveToEnd_28 : decode b_Bytes_moveToEnd 28 = .ok (.iload_n 3, 1) := by decide +kernel
theorem d_Bytes_moveToEnd_29 : decode b_Bytes_moveToEnd 29 = .ok (.iconst 1, 1) := by decide +kernel
theorem d_Bytes_moveToEnd_30 : decode b_Bytes_moveToEnd 30 = .ok (.iadd, 1) := by decide +kernel
theorem d_Bytes_moveToEnd_31 : decode b_Bytes_moveToEnd 31 = .ok (.aaload, 1) := by decide +kernel
theorem d_Bytes_moveToEnd_32 : decode b_Bytes_moveToEnd 32 = .ok (.aastore, 1) := by decide +kernel
theorem d_Bytes_moveToEnd_33 : decode b_Bytes_moveToEnd 33 = .ok (.iinc 3 (1), 3) := by decide +kernel
theorem d_Bytes_moveToEnd_36 : decode b_Bytes_moveToEnd 36 = .ok (.goto (-19), 3) := by decide +kernel
theorem d_Bytes_moveToEnd_39 : decode b_Bytes_moveToEnd 39 = .ok (.aload_n 0, 1) := by decide +kernel
theorem d_Bytes_moveToEnd_40 : decode b_Bytes_moveToEnd 40 = .ok (.aload_n 0, 1) := by decide +kernel
theorem d_Bytes_moveToEnd_41 : decode b_Bytes_moveToEnd 41 = .ok (.arraylength, 1) := by decide +kernel
theorem d_Bytes_moveToEnd_42 : decode b_Bytes_moveToEnd 42 = .ok (.iconst 1, 1) := by decide +kernel
theorem d_Bytes_moveToEnd_43 : decode b_Bytes_moveToEnd 43 = .ok (.isub, 1) := by decide +kernel
theorem d_Bytes_moveToEnd_44 : decode b_Bytes_moveToEnd 44 = .ok (.aload_n 2, 1) := by decide +kernel
theorem d_Bytes_moveToEnd_45 : decode b_Bytes_moveToEnd 45 = .ok (.aastore, 1) := by decide +kernel
theorem d_Bytes_moveToEnd_46 : decode b_Bytes_moveToEnd 46 = .ok (.return_, 1) := by decide +kernel
theorem d_Client_init_0 : decode b_Client_init 0 = .ok (.aload_n 0, 1) := by decide +kernel
theorem d_Client_init_1 : decode b_Client_init 1 = .ok (.invokespecial 3, 3) := by decide +kernel
theorem d_Client_init_4 : decode b_Client_init 4 = .ok (.aload_n 0, 1) := by decide +kernel
theorem d_Client_init_5 : decode b_Client_init 5 = .ok (.new 9, 3) := by decide +kernel
theorem d_Client_init_8 : decode b_Client_init 8 = .ok (.dup, 1) := by decide +kernel
theorem d_Client_init_9 : decode b_Client_init 9 = .ok (.sipush 200, 3) := by decide +kernel
theorem d_Client_init_12 : decode b_Client_init 12 = .ok (.invokespecial 11, 3) := by decide +kernel
theorem d_Client_init_15 : decode b_Client_init 15 = .ok (.putfield 14, 3) := by decide +kernel
theorem d_Client_init_18 : decode b_Client_init 18 = .ok (.aload_n 0, 1) := by decide +kernel
theorem d_Client_init_19 : decode b_Client_init 19 = .ok (.bipush 100, 2) := by decide +kernel
theorem d_Client_init_21 : decode b_Client_init 21 = .ok (.newarray .int, 2) := by decide +kernel
theorem d_Client_init_23 : decode b_Client_init 23 = .ok (.putfield 20, 3) := by decide +kernel
theorem d_Client_init_26 : decode b_Client_init 26 = .ok (.aload_n 0, 1) := by decide +kernel
theorem d_Client_init_27 : decode b_Client_init 27 = .ok (.bipush 100, 2) := by decide +kernel
theorem d_Client_init_29 : decode b_Client_init 29 = .ok (.newarray .int, 2) := by decide +kernel
theorem d_Client_init_31 : decode b_Client_init 31 = .ok (.putfield 24, 3) := by decide +kernel
theorem d_Client_init_34 : decode b_Client_init 34 = .ok (.aload_n 0, 1) := by decide +kernel
theorem d_Client_init_35 : decode b_Client_init 35 = .ok (.iconst 0, 1) := by decide +kernel
theorem d_Client_init_36 : decode b_Client_init 36 = .ok (.putfield 27, 3) := by decide +kernel
theorem d_Client_init_39 : decode b_Client_init 39 = .ok (.aload_n 0, 1) := by decide +kernel
theorem d_Client_init_40 : decode b_Client_init 40 = .ok (.bipush 8, 2) := by decide +kernel
theorem d_Client_init_42 : decode b_Client_init 42 = .ok (.newarray .int, 2) := by decide +kernel
theorem d_Client_init_44 : decode b_Client_init 44 = .ok (.putfield 31, 3) := by decide +kernel
theorem d_Client_init_47 : decode b_Client_init 47 = .ok (.aload_n 0, 1) := by decide +kernel
theorem d_Client_init_48 : decode b_Client_init 48 = .ok (.bipush 8, 2) := by decide +kernel
theorem d_Client_init_50 : decode b_Client_init 50 = .ok (.newarray .int, 2) := by decide +kernel
theorem d_Client_init_52 : decode b_Client_init 52 = .ok (.putfield 34, 3) := by decide +kernel
theorem d_Client_init_55 : decode b_Client_init 55 = .ok (.aload_n 0, 1) := by decide +kernel
theorem d_Client_init_56 : decode b_Client_init 56 = .ok (.bipush 8, 2) := by decide +kernel
theorem d_Client_init_58 : decode b_Client_init 58 = .ok (.anewarray 9, 3) := by decide +kernel
theorem d_Client_init_61 : decode b_Client_init 61 = .ok (.putfield 37, 3) := by decide +kernel
theorem d_Client_init_64 : decode b_Client_init 64 = .ok (.aload_n 0, 1) := by decide +kernel
theorem d_Client_init_65 : decode b_Client_init 65 = .ok (.iconst 0, 1) := by decide +kernel
theorem d_Client_init_66 : decode b_Client_init 66 = .ok (.putfield 41, 3) := by decide +kernel
theorem d_Client_init_69 : decode b_Client_init 69 = .ok (.aload_n 0, 1) := by decide +kernel
theorem d_Client_init_70 : decode b_Client_init 70 = .ok (.aload_n 1, 1) := by decide +kernel
theorem d_Client_init_71 : decode b_Client_init 71 = .ok (.putfield 44, 3) := by decide +kernel
theorem d_Client_init_74 : decode b_Client_init 74 = .ok (.aload_n 0, 1) := by decide +kernel
theorem d_Client_init_75 : decode b_Client_init 75 = .ok (.aload_n 2, 1) := by decide +kernel
theorem d_Client_init_76 : decode b_Client_init 76 = .ok (.putfield 48, 3) := by decide +kernel
theorem d_Client_init_79 : decode b_Client_init 79 = .ok (.iconst 0, 1) := by decide +kernel
theorem d_Client_init_80 : decode b_Client_init 80 = .ok (.istore_n 3, 1) := by decide +kernel
theorem d_Client_init_81 : decode b_Client_init 81 = .ok (.iload_n 3, 1) := by decide +kernel
theorem d_Client_init_82 : decode b_Client_init 82 = .ok (.aload_n 0, 1) := by decide +kernel
theorem d_Client_init_83 : decode b_Client_init 83 = .ok (.getfield 37, 3) := by decide +kernel
theorem d_Client_init_86 : decode b_Client_init 86 = .ok (.arraylength, 1) := by decide +kernel
theorem d_Client_init_87 : decode b_Client_init 87 = .ok (.if_icmp .ge (25), 3) := by decide +kernel
theorem d_Client_init_90 : decode b_Client_init 90 = .ok (.aload_n 0, 1) := by decide +kernel
theorem d_Client_init_91 : decode b_Client_init 91 = .ok (.getfield 37, 3) := by decide +kernel
theorem d_Client_init_94 : decode b_Client_init 94 = .ok (.iload_n 3, 1) := by decide +kernel
theorem d_Client_init_95 : decode b_Client_init 95 = .ok (.new 9, 3) := by decide +kernel
theorem d_Client_init_98 : decode b_Client_init 98 = .ok (.dup, 1) := by decide +kernel
theorem d_Client_init_99 : decode b_Client_init 99 = .ok (.sipush 156, 3) := by decide +kernel
theorem d_Client_init_102 : decode b_Client_init 102 = .ok (.invokespecial 11, 3) := by decide +kernel
theorem d_Client_init_105 : decode b_Client_init 105 = .ok (.aastore, 1) := by decide +kernel
theorem d_Client_init_106 : decode b_Client_init 106 = .ok (.iinc 3 (1), 3) := by decide +kernel
theorem d_Client_init_109 : decode b_Client_init 109 = .ok (.goto (-28), 3) := by decide +kernel
theorem d_Client_init_112 : decode b_Client_init 112 = .ok (.return_, 1) := by decide +kernel
theorem d_Client_place_0 : decode b_Client_place 0 = .ok (.iload_n 1, 1) := by decide +kernel
theorem d_Client_place_1 : decode b_Client_place 1 = .ok (.ifCond .lt (10), 3) := by decide +kernel
theorem d_Client_place_4 : decode b_Client_place 4 = .ok (.iload_n 1, 1) := by decide +kernel
theorem d_Client_place_5 : decode b_Client_place 5 = .ok (.sipush 255, 3) := by decide +kernel
theorem d_Client_place_8 : decode b_Client_place 8 = .ok (.if_icmp .le (6), 3) := by decide +kernel
theorem d_Client_place_11 : decode b_Client_place 11 = .ok (.bipush (-4), 2) := by decide +kernel
theorem d_Client_place_13 : decode b_Client_place 13 = .ok (.ireturn, 1) := by decide +kernel
theorem d_Client_place_14 : decode b_Client_place 14 = .ok (.aload_n 0, 1) := by decide +kernel
theorem d_Client_place_15 : decode b_Client_place 15 = .ok (.getfield 41, 3) := by decide +kernel
theorem d_Client_place_18 : decode b_Client_place 18 = .ok (.bipush 8, 2) := by decide +kernel
theorem d_Client_place_20 : decode b_Client_place 20 = .ok (.if_icmp .ge (12), 3) := by decide +kernel
theorem d_Client_place_23 : decode b_Client_place 23 = .ok (.aload_n 0, 1) := by decide +kernel
theorem d_Client_place_24 : decode b_Client_place 24 = .ok (.getfield 27, 3) := by decide +kernel
theorem d_Client_place_27 : decode b_Client_place 27 = .ok (.bipush 100, 2) := by decide +kernel
theorem d_Client_place_29 : decode b_Client_place 29 = .ok (.if_icmp .lt (6), 3) := by decide +kernel
theorem d_Client_place_32 : decode b_Client_place 32 = .ok (.bipush (-5), 2) := by decide +kernel
theorem d_Client_place_34 : decode b_Client_place 34 = .ok (.ireturn, 1) := by decide +kernel
theorem d_Client_place_35 : decode b_Client_place 35 = .ok (.aload_n 0, 1) := by decide +kernel
theorem d_Client_place_36 : decode b_Client_place 36 = .ok (.getfield 27, 3) := by decide +kernel
theorem d_Client_place_39 : decode b_Client_place 39 = .ok (.istore_n 3, 1) := by decide +kernel
theorem d_Client_place_40 : decode b_Client_place 40 = .ok (.aload_n 0, 1) := by decide +kernel
theorem d_Client_place_41 : decode b_Client_place 41 = .ok (.getfield 14, 3) := by decide +kernel
theorem d_Client_place_44 : decode b_Client_place 44 = .ok (.invokevirtual 52, 3) := by decide +kernel
theorem d_Client_place_47 : decode b_Client_place 47 = .ok (.aload_n 0, 1) := by decide +kernel
theorem d_Client_place_48 : decode b_Client_place 48 = .ok (.getfield 14, 3) := by decide +kernel
theorem d_Client_place_51 : decode b_Client_place 51 = .ok (.iload_n 3, 1) := by decide +kernel
theorem d_Client_place_52 : decode b_Client_place 52 = .ok (.invokevirtual 55, 3) := by decide +kernel
theorem d_Client_place_55 : decode b_Client_place 55 = .ok (.aload_n 0, 1) := by decide +kernel
theorem d_Client_place_56 : decode b_Client_place 56 = .ok (.getfield 14, 3) := by decide +kernel
theorem d_Client_place_59 : decode b_Client_place 59 = .ok (.iconst 0, 1) := by decide +kernel
theorem d_Client_place_60 : decode b_Client_place 60 = .ok (.invokevirtual 55, 3) := by decide +kernel
theorem d_Client_place_63 : decode b_Client_place 63 = .ok (.aload_n 0, 1) := by decide +kernel
theorem d_Client_place_64 : decode b_Client_place 64 = .ok (.getfield 14, 3) := by decide +kernel
theorem d_Client_place_67 : decode b_Client_place 67 = .ok (.iload_n 1, 1) := by decide +kernel
theorem d_Client_place_68 : decode b_Client_place 68 = .ok (.invokevirtual 55, 3) := by decide +kernel
theorem d_Client_place_71 : decode b_Client_place 71 = .ok (.aload_n 0, 1) := by decide +kernel
theorem d_Client_place_72 : decode b_Client_place 72 = .ok (.getfield 48, 3) := by decide +kernel
theorem d_Client_place_75 : decode b_Client_place 75 = .ok (.aload_n 2, 1) := by decide +kernel
theorem d_Client_place_76 : decode b_Client_place 76 = .ok (.aload_n 0, 1) := by decide +kernel
theorem d_Client_place_77 : decode b_Client_place 77 = .ok (.getfield 14, 3) := by decide +kernel
theorem d_Client_place_80 : decode b_Client_place 80 = .ok (.invokevirtual 58, 3) := by decide +kernel
theorem d_Client_place_83 : decode b_Client_place 83 = .ok (.aload_n 0, 1) := by decide +kernel
theorem d_Client_place_84 : decode b_Client_place 84 = .ok (.getfield 14, 3) := by decide +kernel
theorem d_Client_place_87 : decode b_Client_place 87 = .ok (.aload_n 0, 1) := by decide +kernel
theorem d_Client_place_88 : decode b_Client_place 88 = .ok (.getfield 37, 3) := by decide +kernel
theorem d_Client_place_91 : decode b_Client_place 91 = .ok (.aload_n 0, 1) := by decide +kernel
theorem d_Client_place_92 : decode b_Client_place 92 = .ok (.getfield 41, 3) := by decide +kernel
theorem d_Client_place_95 : decode b_Client_place 95 = .ok (.aaload, 1) := by decide +kernel
theorem d_Client_place_96 : decode b_Client_place 96 = .ok (.invokestatic 64, 3) := by decide +kernel
theorem d_Client_place_99 : decode b_Client_place 99 = .ok (.aload_n 0, 1) := by decide +kernel
theorem d_Client_place_100 : decode b_Client_place 100 = .ok (.getfield 44, 3) := by decide +kernel
theorem d_Client_place_103 : decode b_Client_place 103 = .ok (.aload_n 0, 1) := by decide +kernel
theorem d_Client_place_104 : decode b_Client_place 104 = .ok (.getfield 37, 3) := by decide +kernel
theorem d_Client_place_107 : decode b_Client_place 107 = .ok (.aload_n 0, 1) := by decide +kernel
theorem d_Client_place_108 : decode b_Client_place 108 = .ok (.getfield 41, 3) := by decide +kernel
theorem d_Client_place_111 : decode b_Client_place 111 = .ok (.aaload, 1) := by decide +kernel
theorem d_Client_place_112 : decode b_Client_place 112 = .ok (.iconst 1, 1) := by decide +kernel
theorem d_Client_place_113 : decode b_Client_place 113 = .ok (.invokevirtual 70, 3) := by decide +kernel
theorem d_Client_place_116 : decode b_Client_place 116 = .ok (.aload_n 0, 1) := by decide +kernel
theorem d_Client_place_117 : decode b_Client_place 117 = .ok (.getfield 20, 3) := by decide +kernel
theorem d_Client_place_120 : decode b_Client_place 120 = .ok (.iload_n 3, 1) := by decide +kernel
theorem d_Client_place_121 : decode b_Client_place 121 = .ok (.iconst 3, 1) := by decide +kernel
theorem d_Client_place_122 : decode b_Client_place 122 = .ok (.iastore, 1) := by decide +kernel
theorem d_Client_place_123 : decode b_Client_place 123 = .ok (.aload_n 0, 1) := by decide +kernel
theorem d_Client_place_124 : decode b_Client_place 124 = .ok (.getfield 31, 3) := by decide +kernel
theorem d_Client_place_127 : decode b_Client_place 127 = .ok (.aload_n 0, 1) := by decide +kernel
theorem d_Client_place_128 : decode b_Client_place 128 = .ok (.getfield 41, 3) := by decide +kernel
theorem d_Client_place_131 : decode b_Client_place 131 = .ok (.iload_n 3, 1) := by decide +kernel
theorem d_Client_place_132 : decode b_Client_place 132 = .ok (.iastore, 1) := by decide +kernel
theorem d_Client_place_133 : decode b_Client_place 133 = .ok (.aload_n 0, 1) := by decide +kernel
theorem d_Client_place_134 : decode b_Client_place 134 = .ok (.getfield 34, 3) := by decide +kernel
theorem d_Client_place_137 : decode b_Client_place 137 = .ok (.aload_n 0, 1) := by decide +kernel
theorem d_Client_place_138 : decode b_Client_place 138 = .ok (.getfield 41, 3) := by decide +kernel
theorem d_Client_place_141 : decode b_Client_place 141 = .ok (.iconst 0, 1) := by decide +kernel
theorem d_Client_place_142 : decode b_Client_place 142 = .ok (.iastore, 1) := by decide +kernel
theorem d_Client_place_143 : decode b_Client_place 143 = .ok (.aload_n 0, 1) := by decide +kernel
theorem d_Client_place_144 : decode b_Client_place 144 = .ok (.dup, 1) := by decide +kernel
theorem d_Client_place_145 : decode b_Client_place 145 = .ok (.getfield 27, 3) := by decide +kernel
theorem d_Client_place_148 : decode b_Client_place 148 = .ok (.iconst 1, 1) := by decide +kernel
theorem d_Client_place_149 : decode b_Client_place 149 = .ok (.iadd, 1) := by decide +kernel
theorem d_Client_place_150 : decode b_Client_place 150 = .ok (.putfield 27, 3) := by decide +kernel
theorem d_Client_place_153 : decode b_Client_place 153 = .ok (.aload_n 0, 1) := by decide +kernel
theorem d_Client_place_154 : decode b_Client_place 154 = .ok (.dup, 1) := by decide +kernel
theorem d_Client_place_155 : decode b_Client_place 155 = .ok (.getfield 41, 3) := by decide +kernel
theorem d_Client_place_158 : decode b_Client_place 158 = .ok (.iconst 1, 1) := by decide +kernel
theorem d_Client_place_159 : decode b_Client_place 159 = .ok (.iadd, 1) := by decide +kernel
theorem d_Client_place_160 : decode b_Client_place 160 = .ok (.putfield 41, 3) := by decide +kernel
theorem d_Client_place_163 : decode b_Client_place 163 = .ok (.iload_n 3, 1) := by decide +kernel
theorem d_Client_place_164 : decode b_Client_place 164 = .ok (.ireturn, 1) := by decide +kernel
