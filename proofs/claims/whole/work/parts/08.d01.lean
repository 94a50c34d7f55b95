theorem d_Client_growOlder_0 : decode b_Client_growOlder 0 = .ok (.iconst 0, 1) := by decide +kernel
theorem d_Client_growOlder_1 : decode b_Client_growOlder 1 = .ok (.istore_n 1, 1) := by decide +kernel
theorem d_Client_growOlder_2 : decode b_Client_growOlder 2 = .ok (.iconst 0, 1) := by decide +kernel
theorem d_Client_growOlder_3 : decode b_Client_growOlder 3 = .ok (.istore_n 2, 1) := by decide +kernel
theorem d_Client_growOlder_4 : decode b_Client_growOlder 4 = .ok (.iload_n 2, 1) := by decide +kernel
theorem d_Client_growOlder_5 : decode b_Client_growOlder 5 = .ok (.aload_n 0, 1) := by decide +kernel
theorem d_Client_growOlder_6 : decode b_Client_growOlder 6 = .ok (.getfield 41, 3) := by decide +kernel
theorem d_Client_growOlder_9 : decode b_Client_growOlder 9 = .ok (.if_icmp .ge (53), 3) := by decide +kernel
theorem d_Client_growOlder_12 : decode b_Client_growOlder 12 = .ok (.aload_n 0, 1) := by decide +kernel
theorem d_Client_growOlder_13 : decode b_Client_growOlder 13 = .ok (.getfield 34, 3) := by decide +kernel
theorem d_Client_growOlder_16 : decode b_Client_growOlder 16 = .ok (.iload_n 2, 1) := by decide +kernel
theorem d_Client_growOlder_17 : decode b_Client_growOlder 17 = .ok (.dup2, 1) := by decide +kernel
theorem d_Client_growOlder_18 : decode b_Client_growOlder 18 = .ok (.iaload, 1) := by decide +kernel
theorem d_Client_growOlder_19 : decode b_Client_growOlder 19 = .ok (.iconst 1, 1) := by decide +kernel
theorem d_Client_growOlder_20 : decode b_Client_growOlder 20 = .ok (.iadd, 1) := by decide +kernel
theorem d_Client_growOlder_21 : decode b_Client_growOlder 21 = .ok (.iastore, 1) := by decide +kernel
theorem d_Client_growOlder_22 : decode b_Client_growOlder 22 = .ok (.aload_n 0, 1) := by decide +kernel
theorem d_Client_growOlder_23 : decode b_Client_growOlder 23 = .ok (.getfield 34, 3) := by decide +kernel
theorem d_Client_growOlder_26 : decode b_Client_growOlder 26 = .ok (.iload_n 2, 1) := by decide +kernel
theorem d_Client_growOlder_27 : decode b_Client_growOlder 27 = .ok (.iaload, 1) := by decide +kernel
theorem d_Client_growOlder_28 : decode b_Client_growOlder 28 = .ok (.iconst 3, 1) := by decide +kernel
theorem d_Client_growOlder_29 : decode b_Client_growOlder 29 = .ok (.if_icmp .lt (27), 3) := by decide +kernel
theorem d_Client_growOlder_32 : decode b_Client_growOlder 32 = .ok (.aload_n 0, 1) := by decide +kernel
theorem d_Client_growOlder_33 : decode b_Client_growOlder 33 = .ok (.getfield 44, 3) := by decide +kernel
theorem d_Client_growOlder_36 : decode b_Client_growOlder 36 = .ok (.aload_n 0, 1) := by decide +kernel
theorem d_Client_growOlder_37 : decode b_Client_growOlder 37 = .ok (.getfield 37, 3) := by decide +kernel
theorem d_Client_growOlder_40 : decode b_Client_growOlder 40 = .ok (.iload_n 2, 1) := by decide +kernel
theorem d_Client_growOlder_41 : decode b_Client_growOlder 41 = .ok (.aaload, 1) := by decide +kernel
theorem d_Client_growOlder_42 : decode b_Client_growOlder 42 = .ok (.iconst 1, 1) := by decide +kernel
theorem d_Client_growOlder_43 : decode b_Client_growOlder 43 = .ok (.invokevirtual 70, 3) := by decide +kernel
theorem d_Client_growOlder_46 : decode b_Client_growOlder 46 = .ok (.aload_n 0, 1) := by decide +kernel
theorem d_Client_growOlder_47 : decode b_Client_growOlder 47 = .ok (.getfield 34, 3) := by decide +kernel
theorem d_Client_growOlder_50 : decode b_Client_growOlder 50 = .ok (.iload_n 2, 1) := by decide +kernel
theorem d_Client_growOlder_51 : decode b_Client_growOlder 51 = .ok (.iconst 0, 1) := by decide +kernel
theorem d_Client_growOlder_52 : decode b_Client_growOlder 52 = .ok (.iastore, 1) := by decide +kernel
theorem d_Client_growOlder_53 : decode b_Client_growOlder 53 = .ok (.iinc 1 (1), 3) := by decide +kernel
theorem d_Client_growOlder_56 : decode b_Client_growOlder 56 = .ok (.iinc 2 (1), 3) := by decide +kernel
theorem d_Client_growOlder_59 : decode b_Client_growOlder 59 = .ok (.goto (-55), 3) := by decide +kernel
theorem d_Client_growOlder_62 : decode b_Client_growOlder 62 = .ok (.iload_n 1, 1) := by decide +kernel
theorem d_Client_growOlder_63 : decode b_Client_growOlder 63 = .ok (.ireturn, 1) := by decide +kernel
theorem d_Client_receive_0 : decode b_Client_receive 0 = .ok (.aload_n 1, 1) := by decide +kernel
theorem d_Client_receive_1 : decode b_Client_receive 1 = .ok (.aload_n 0, 1) := by decide +kernel
theorem d_Client_receive_2 : decode b_Client_receive 2 = .ok (.getfield 14, 3) := by decide +kernel
theorem d_Client_receive_5 : decode b_Client_receive 5 = .ok (.invokestatic 76, 3) := by decide +kernel
theorem d_Client_receive_8 : decode b_Client_receive 8 = .ok (.ifCond .eq (15), 3) := by decide +kernel
theorem d_Client_receive_11 : decode b_Client_receive 11 = .ok (.aload_n 0, 1) := by decide +kernel
theorem d_Client_receive_12 : decode b_Client_receive 12 = .ok (.getfield 14, 3) := by decide +kernel
theorem d_Client_receive_15 : decode b_Client_receive 15 = .ok (.getfield 80, 3) := by decide +kernel
theorem d_Client_receive_18 : decode b_Client_receive 18 = .ok (.bipush 12, 2) := by decide +kernel
theorem d_Client_receive_20 : decode b_Client_receive 20 = .ok (.if_icmp .ge (6), 3) := by decide +kernel
theorem d_Client_receive_23 : decode b_Client_receive 23 = .ok (.bipush (-2), 2) := by decide +kernel
theorem d_Client_receive_25 : decode b_Client_receive 25 = .ok (.ireturn, 1) := by decide +kernel
theorem d_Client_receive_26 : decode b_Client_receive 26 = .ok (.aload_n 0, 1) := by decide +kernel
theorem d_Client_receive_27 : decode b_Client_receive 27 = .ok (.getfield 14, 3) := by decide +kernel
theorem d_Client_receive_30 : decode b_Client_receive 30 = .ok (.iconst 4, 1) := by decide +kernel
theorem d_Client_receive_31 : decode b_Client_receive 31 = .ok (.invokevirtual 83, 3) := by decide +kernel
theorem d_Client_receive_34 : decode b_Client_receive 34 = .ok (.iconst 1, 1) := by decide +kernel
theorem d_Client_receive_35 : decode b_Client_receive 35 = .ok (.if_icmp .eq (6), 3) := by decide +kernel
theorem d_Client_receive_38 : decode b_Client_receive 38 = .ok (.bipush (-3), 2) := by decide +kernel
theorem d_Client_receive_40 : decode b_Client_receive 40 = .ok (.ireturn, 1) := by decide +kernel
theorem d_Client_receive_41 : decode b_Client_receive 41 = .ok (.aload_n 0, 1) := by decide +kernel
theorem d_Client_receive_42 : decode b_Client_receive 42 = .ok (.getfield 14, 3) := by decide +kernel
theorem d_Client_receive_45 : decode b_Client_receive 45 = .ok (.bipush 8, 2) := by decide +kernel
theorem d_Client_receive_47 : decode b_Client_receive 47 = .ok (.invokevirtual 83, 3) := by decide +kernel
theorem d_Client_receive_50 : decode b_Client_receive 50 = .ok (.istore_n 2, 1) := by decide +kernel
theorem d_Client_receive_51 : decode b_Client_receive 51 = .ok (.iload_n 2, 1) := by decide +kernel
theorem d_Client_receive_52 : decode b_Client_receive 52 = .ok (.ifCond .lt (8), 3) := by decide +kernel
theorem d_Client_receive_55 : decode b_Client_receive 55 = .ok (.iload_n 2, 1) := by decide +kernel
theorem d_Client_receive_56 : decode b_Client_receive 56 = .ok (.iconst 2, 1) := by decide +kernel
theorem d_Client_receive_57 : decode b_Client_receive 57 = .ok (.if_icmp .le (6), 3) := by decide +kernel
theorem d_Client_receive_60 : decode b_Client_receive 60 = .ok (.bipush (-2), 2) := by decide +kernel
theorem d_Client_receive_62 : decode b_Client_receive 62 = .ok (.ireturn, 1) := by decide +kernel
theorem d_Client_receive_63 : decode b_Client_receive 63 = .ok (.aload_n 0, 1) := by decide +kernel
theorem d_Client_receive_64 : decode b_Client_receive 64 = .ok (.getfield 14, 3) := by decide +kernel
theorem d_Client_receive_67 : decode b_Client_receive 67 = .ok (.getfield 80, 3) := by decide +kernel
theorem d_Client_receive_70 : decode b_Client_receive 70 = .ok (.iload_n 2, 1) := by decide +kernel
theorem d_Client_receive_71 : decode b_Client_receive 71 = .ok (.ifCond .ne (8), 3) := by decide +kernel
theorem d_Client_receive_74 : decode b_Client_receive 74 = .ok (.bipush 16, 2) := by decide +kernel
theorem d_Client_receive_76 : decode b_Client_receive 76 = .ok (.goto (5), 3) := by decide +kernel
theorem d_Client_receive_79 : decode b_Client_receive 79 = .ok (.bipush 12, 2) := by decide +kernel
theorem d_Client_receive_81 : decode b_Client_receive 81 = .ok (.if_icmp .eq (6), 3) := by decide +kernel
theorem d_Client_receive_84 : decode b_Client_receive 84 = .ok (.bipush (-2), 2) := by decide +kernel
theorem d_Client_receive_86 : decode b_Client_receive 86 = .ok (.ireturn, 1) := by decide +kernel
theorem d_Client_receive_87 : decode b_Client_receive 87 = .ok (.aload_n 0, 1) := by decide +kernel
theorem d_Client_receive_88 : decode b_Client_receive 88 = .ok (.aload_n 0, 1) := by decide +kernel
theorem d_Client_receive_89 : decode b_Client_receive 89 = .ok (.getfield 14, 3) := by decide +kernel
theorem d_Client_receive_92 : decode b_Client_receive 92 = .ok (.iconst 0, 1) := by decide +kernel
theorem d_Client_receive_93 : decode b_Client_receive 93 = .ok (.invokevirtual 83, 3) := by decide +kernel
theorem d_Client_receive_96 : decode b_Client_receive 96 = .ok (.invokevirtual 87, 3) := by decide +kernel
theorem d_Client_receive_99 : decode b_Client_receive 99 = .ok (.istore_n 3, 1) := by decide +kernel
theorem d_Client_receive_100 : decode b_Client_receive 100 = .ok (.iload_n 3, 1) := by decide +kernel
theorem d_Client_receive_101 : decode b_Client_receive 101 = .ok (.iconst (-1), 1) := by decide +kernel
theorem d_Client_receive_102 : decode b_Client_receive 102 = .ok (.if_icmp .ne (5), 3) := by decide +kernel
theorem d_Client_receive_105 : decode b_Client_receive 105 = .ok (.iconst 5, 1) := by decide +kernel
theorem d_Client_receive_106 : decode b_Client_receive 106 = .ok (.ireturn, 1) := by decide +kernel
theorem d_Client_receive_107 : decode b_Client_receive 107 = .ok (.aload_n 0, 1) := by decide +kernel
theorem d_Client_receive_108 : decode b_Client_receive 108 = .ok (.iload_n 3, 1) := by decide +kernel
theorem d_Client_receive_109 : decode b_Client_receive 109 = .ok (.iload_n 2, 1) := by decide +kernel
theorem d_Client_receive_110 : decode b_Client_receive 110 = .ok (.iload_n 2, 1) := by decide +kernel
theorem d_Client_receive_111 : decode b_Client_receive 111 = .ok (.ifCond .ne (15), 3) := by decide +kernel
theorem d_Client_receive_114 : decode b_Client_receive 114 = .ok (.aload_n 0, 1) := by decide +kernel
theorem d_Client_receive_115 : decode b_Client_receive 115 = .ok (.getfield 14, 3) := by decide +kernel
theorem d_Client_receive_118 : decode b_Client_receive 118 = .ok (.bipush 12, 2) := by decide +kernel
theorem d_Client_receive_120 : decode b_Client_receive 120 = .ok (.invokevirtual 83, 3) := by decide +kernel
theorem d_Client_receive_123 : decode b_Client_receive 123 = .ok (.goto (4), 3) := by decide +kernel
theorem d_Client_receive_126 : decode b_Client_receive 126 = .ok (.iconst 0, 1) := by decide +kernel
theorem d_Client_receive_127 : decode b_Client_receive 127 = .ok (.invokevirtual 90, 3) := by decide +kernel
theorem d_Client_receive_130 : decode b_Client_receive 130 = .ok (.iconst 4, 1) := by decide +kernel
theorem d_Client_receive_131 : decode b_Client_receive 131 = .ok (.ireturn, 1) := by decide +kernel
theorem d_Client_pendingPlaceOf_0 : decode b_Client_pendingPlaceOf 0 = .ok (.iconst 0, 1) := by decide +kernel
theorem d_Client_pendingPlaceOf_1 : decode b_Client_pendingPlaceOf 1 = .ok (.istore_n 2, 1) := by decide +kernel
theorem d_Client_pendingPlaceOf_2 : decode b_Client_pendingPlaceOf 2 = .ok (.iload_n 2, 1) := by decide +kernel
theorem d_Client_pendingPlaceOf_3 : decode b_Client_pendingPlaceOf 3 = .ok (.aload_n 0, 1) := by decide +kernel
theorem d_Client_pendingPlaceOf_4 : decode b_Client_pendingPlaceOf 4 = .ok (.getfield 41, 3) := by decide +kernel
theorem d_Client_pendingPlaceOf_7 : decode b_Client_pendingPlaceOf 7 = .ok (.if_icmp .ge (21), 3) := by decide +kernel
theorem d_Client_pendingPlaceOf_10 : decode b_Client_pendingPlaceOf 10 = .ok (.aload_n 0, 1) := by decide +kernel
theorem d_Client_pendingPlaceOf_11 : decode b_Client_pendingPlaceOf 11 = .ok (.getfield 31, 3) := by decide +kernel
theorem d_Client_pendingPlaceOf_14 : decode b_Client_pendingPlaceOf 14 = .ok (.iload_n 2, 1) := by decide +kernel
theorem d_Client_pendingPlaceOf_15 : decode b_Client_pendingPlaceOf 15 = .ok (.iaload, 1) := by decide +kernel
theorem d_Client_pendingPlaceOf_16 : decode b_Client_pendingPlaceOf 16 = .ok (.iload_n 1, 1) := by decide +kernel
theorem d_Client_pendingPlaceOf_17 : decode b_Client_pendingPlaceOf 17 = .ok (.if_icmp .ne (5), 3) := by decide +kernel
theorem d_Client_pendingPlaceOf_20 : decode b_Client_pendingPlaceOf 20 = .ok (.iload_n 2, 1) := by decide +kernel
theorem d_Client_pendingPlaceOf_21 : decode b_Client_pendingPlaceOf 21 = .ok (.ireturn, 1) := by decide +kernel
theorem d_Client_pendingPlaceOf_22 : decode b_Client_pendingPlaceOf 22 = .ok (.iinc 2 (1), 3) := by decide +kernel
theorem d_Client_pendingPlaceOf_25 : decode b_Client_pendingPlaceOf 25 = .ok (.goto (-23), 3) := by decide +kernel
theorem d_Client_pendingPlaceOf_28 : decode b_Client_pendingPlaceOf 28 = .ok (.iconst (-1), 1) := by decide +kernel
theorem d_Client_pendingPlaceOf_29 : decode b_Client_pendingPlaceOf 29 = .ok (.ireturn, 1) := by decide +kernel
theorem d_Client_settle_0 : decode b_Client_settle 0 = .ok (.aload_n 0, 1) := by decide +kernel
theorem d_Client_settle_1 : decode b_Client_settle 1 = .ok (.getfield 31, 3) := by decide +kernel
theorem d_Client_settle_4 : decode b_Client_settle 4 = .ok (.iload_n 1, 1) := by decide +kernel
theorem d_Client_settle_5 : decode b_Client_settle 5 = .ok (.iaload, 1) := by decide +kernel
theorem d_Client_settle_6 : decode b_Client_settle 6 = .ok (.istore 4, 2) := by decide +kernel
theorem d_Client_settle_8 : decode b_Client_settle 8 = .ok (.aload_n 0, 1) := by decide +kernel
theorem d_Client_settle_9 : decode b_Client_settle 9 = .ok (.getfield 20, 3) := by decide +kernel
theorem d_Client_settle_12 : decode b_Client_settle 12 = .ok (.iload 4, 2) := by decide +kernel
theorem d_Client_settle_14 : decode b_Client_settle 14 = .ok (.iload_n 2, 1) := by decide +kernel
theorem d_Client_settle_15 : decode b_Client_settle 15 = .ok (.iastore, 1) := by decide +kernel
theorem d_Client_settle_16 : decode b_Client_settle 16 = .ok (.aload_n 0, 1) := by decide +kernel
theorem d_Client_settle_17 : decode b_Client_settle 17 = .ok (.getfield 24, 3) := by decide +kernel
theorem d_Client_settle_20 : decode b_Client_settle 20 = .ok (.iload 4, 2) := by decide +kernel
theorem d_Client_settle_22 : decode b_Client_settle 22 = .ok (.iload_n 3, 1) := by decide +kernel
theorem d_Client_settle_23 : decode b_Client_settle 23 = .ok (.iastore, 1) := by decide +kernel
theorem d_Client_settle_24 : decode b_Client_settle 24 = .ok (.aload_n 0, 1) := by decide +kernel
theorem d_Client_settle_25 : decode b_Client_settle 25 = .ok (.getfield 37, 3) := by decide +kernel
theorem d_Client_settle_28 : decode b_Client_settle 28 = .ok (.iload_n 1, 1) := by decide +kernel
theorem d_Client_settle_29 : decode b_Client_settle 29 = .ok (.invokestatic 94, 3) := by decide +kernel
theorem d_Client_settle_32 : decode b_Client_settle 32 = .ok (.aload_n 0, 1) := by decide +kernel
theorem d_Client_settle_33 : decode b_Client_settle 33 = .ok (.dup, 1) := by decide +kernel
theorem d_Client_settle_34 : decode b_Client_settle 34 = .ok (.getfield 41, 3) := by decide +kernel
theorem d_Client_settle_37 : decode b_Client_settle 37 = .ok (.iconst 1, 1) := by decide +kernel
theorem d_Client_settle_38 : decode b_Client_settle 38 = .ok (.isub, 1) := by decide +kernel
theorem d_Client_settle_39 : decode b_Client_settle 39 = .ok (.putfield 41, 3) := by decide +kernel
theorem d_Client_settle_42 : decode b_Client_settle 42 = .ok (.iload_n 1, 1) := by decide +kernel
theorem d_Client_settle_43 : decode b_Client_settle 43 = .ok (.istore 5, 2) := by decide +kernel
theorem d_Client_settle_45 : decode b_Client_settle 45 = .ok (.iload 5, 2) := by decide +kernel
theorem d_Client_settle_47 : decode b_Client_settle 47 = .ok (.aload_n 0, 1) := by decide +kernel
theorem d_Client_settle_48 : decode b_Client_settle 48 = .ok (.getfield 41, 3) := by decide +kernel
theorem d_Client_settle_51 : decode b_Client_settle 51 = .ok (.if_icmp .ge (41), 3) := by decide +kernel
theorem d_Client_settle_54 : decode b_Client_settle 54 = .ok (.aload_n 0, 1) := by decide +kernel
theorem d_Client_settle_55 : decode b_Client_settle 55 = .ok (.getfield 31, 3) := by decide +kernel
theorem d_Client_settle_58 : decode b_Client_settle 58 = .ok (.iload 5, 2) := by decide +kernel
theorem d_Client_settle_60 : decode b_Client_settle 60 = .ok (.aload_n 0, 1) := by decide +kernel
theorem d_Client_settle_61 : decode b_Client_settle 61 = .ok (.getfield 31, 3) := by decide +kernel
theorem d_Client_settle_64 : decode b_Client_settle 64 = .ok (.iload 5, 2) := by decide +kernel
theorem d_Client_settle_66 : decode b_Client_settle 66 = .ok (.iconst 1, 1) := by decide +kernel
theorem d_Client_settle_67 : decode b_Client_settle 67 = .ok (.iadd, 1) := by decide +kernel
theorem d_Client_settle_68 : decode b_Client_settle 68 = .ok (.iaload, 1) := by decide +kernel
theorem d_Client_settle_69 : decode b_Client_settle 69 = .ok (.iastore, 1) := by decide +kernel
theorem d_Client_settle_70 : decode b_Client_settle 70 = .ok (.aload_n 0, 1) := by decide +kernel
theorem d_Client_settle_71 : decode b_Client_settle 71 = .ok (.getfield 34, 3) := by decide +kernel
theorem d_Client_settle_74 : decode b_Client_settle 74 = .ok (.iload 5, 2) := by decide +kernel
theorem d_Client_settle_76 : decode b_Client_settle 76 = .ok (.aload_n 0, 1) := by decide +kernel
theorem d_Client_settle_77 : decode b_Client_settle 77 = .ok (.getfield 34, 3) := by decide +kernel
theorem d_Client_settle_80 : decode b_Client_settle 80 = .ok (.iload 5, 2) := by decide +kernel
theorem d_Client_settle_82 : decode b_Client_settle 82 = .ok (.iconst 1, 1) := by decide +kernel
theorem d_Client_settle_83 : decode b_Client_settle 83 = .ok (.iadd, 1) := by decide +kernel
theorem d_Client_settle_84 : decode b_Client_settle 84 = .ok (.iaload, 1) := by decide +kernel
theorem d_Client_settle_85 : decode b_Client_settle 85 = .ok (.iastore, 1) := by decide +kernel
theorem d_Client_settle_86 : decode b_Client_settle 86 = .ok (.iinc 5 (1), 3) := by decide +kernel
theorem d_Client_settle_89 : decode b_Client_settle 89 = .ok (.goto (-44), 3) := by decide +kernel
theorem d_Client_settle_92 : decode b_Client_settle 92 = .ok (.return_, 1) := by decide +kernel
theorem d_Client_statusOf_0 : decode b_Client_statusOf 0 = .ok (.iload_n 1, 1) := by decide +kernel
theorem d_Client_statusOf_1 : decode b_Client_statusOf 1 = .ok (.ifCond .lt (20), 3) := by decide +kernel
theorem d_Client_statusOf_4 : decode b_Client_statusOf 4 = .ok (.iload_n 1, 1) := by decide +kernel
theorem d_Client_statusOf_5 : decode b_Client_statusOf 5 = .ok (.aload_n 0, 1) := by decide +kernel
theorem d_Client_statusOf_6 : decode b_Client_statusOf 6 = .ok (.getfield 27, 3) := by decide +kernel
theorem d_Client_statusOf_9 : decode b_Client_statusOf 9 = .ok (.if_icmp .ge (12), 3) := by decide +kernel
theorem d_Client_statusOf_12 : decode b_Client_statusOf 12 = .ok (.aload_n 0, 1) := by decide +kernel
theorem d_Client_statusOf_13 : decode b_Client_statusOf 13 = .ok (.getfield 20, 3) := by decide +kernel
theorem d_Client_statusOf_16 : decode b_Client_statusOf 16 = .ok (.iload_n 1, 1) := by decide +kernel
theorem d_Client_statusOf_17 : decode b_Client_statusOf 17 = .ok (.iaload, 1) := by decide +kernel
theorem d_Client_statusOf_18 : decode b_Client_statusOf 18 = .ok (.goto (4), 3) := by decide +kernel
theorem d_Client_statusOf_21 : decode b_Client_statusOf 21 = .ok (.iconst (-1), 1) := by decide +kernel
theorem d_Client_statusOf_22 : decode b_Client_statusOf 22 = .ok (.ireturn, 1) := by decide +kernel
theorem d_Client_resultOf_0 : decode b_Client_resultOf 0 = .ok (.iload_n 1, 1) := by decide +kernel
theorem d_Client_resultOf_1 : decode b_Client_resultOf 1 = .ok (.ifCond .lt (20), 3) := by decide +kernel
theorem d_Client_resultOf_4 : decode b_Client_resultOf 4 = .ok (.iload_n 1, 1) := by decide +kernel
theorem d_Client_resultOf_5 : decode b_Client_resultOf 5 = .ok (.aload_n 0, 1) := by decide +kernel
theorem d_Client_resultOf_6 : decode b_Client_resultOf 6 = .ok (.getfield 27, 3) := by decide +kernel
theorem d_Client_resultOf_9 : decode b_Client_resultOf 9 = .ok (.if_icmp .ge (12), 3) := by decide +kernel
theorem d_Client_resultOf_12 : decode b_Client_resultOf 12 = .ok (.aload_n 0, 1) := by decide +kernel
theorem d_Client_resultOf_13 : decode b_Client_resultOf 13 = .ok (.getfield 24, 3) := by decide +kernel
theorem d_Client_resultOf_16 : decode b_Client_resultOf 16 = .ok (.iload_n 1, 1) := by decide +kernel
theorem d_Client_resultOf_17 : decode b_Client_resultOf 17 = .ok (.iaload, 1) := by decide +kernel
theorem d_Client_resultOf_18 : decode b_Client_resultOf 18 = .ok (.goto (4), 3) := by decide +kernel
theorem d_Client_resultOf_21 : decode b_Client_resultOf 21 = .ok (.iconst 0, 1) := by decide +kernel
theorem d_Client_resultOf_22 : decode b_Client_resultOf 22 = .ok (.ireturn, 1) := by decide +kernel
theorem d_Fragments_wrap_0 : decode b_Fragments_wrap 0 = .ok (.aload_n 1, 1) := by decide +kernel
theorem d_Fragments_wrap_1 : decode b_Fragments_wrap 1 = .ok (.invokevirtual 7, 3) := by decide +kernel
theorem d_Fragments_wrap_4 : decode b_Fragments_wrap 4 = .ok (.iconst 0, 1) := by decide +kernel
theorem d_Fragments_wrap_5 : decode b_Fragments_wrap 5 = .ok (.istore_n 2, 1) := by decide +kernel
theorem d_Fragments_wrap_6 : decode b_Fragments_wrap 6 = .ok (.iload_n 2, 1) := by decide +kernel
theorem d_Fragments_wrap_7 : decode b_Fragments_wrap 7 = .ok (.aload_n 0, 1) := by decide +kernel
theorem d_Fragments_wrap_8 : decode b_Fragments_wrap 8 = .ok (.getfield 12, 3) := by decide +kernel
theorem d_Fragments_wrap_11 : decode b_Fragments_wrap 11 = .ok (.if_icmp .ge (62), 3) := by decide +kernel
theorem d_Fragments_wrap_14 : decode b_Fragments_wrap 14 = .ok (.bipush 16, 2) := by decide +kernel
theorem d_Fragments_wrap_16 : decode b_Fragments_wrap 16 = .ok (.aload_n 0, 1) := by decide +kernel
theorem d_Fragments_wrap_17 : decode b_Fragments_wrap 17 = .ok (.getfield 12, 3) := by decide +kernel
theorem d_Fragments_wrap_20 : decode b_Fragments_wrap 20 = .ok (.iload_n 2, 1) := by decide +kernel
theorem d_Fragments_wrap_21 : decode b_Fragments_wrap 21 = .ok (.isub, 1) := by decide +kernel
theorem d_Fragments_wrap_22 : decode b_Fragments_wrap 22 = .ok (.invokestatic 18, 3) := by decide +kernel
theorem d_Fragments_wrap_25 : decode b_Fragments_wrap 25 = .ok (.istore_n 3, 1) := by decide +kernel
theorem d_Fragments_wrap_26 : decode b_Fragments_wrap 26 = .ok (.iload_n 2, 1) := by decide +kernel
theorem d_Fragments_wrap_27 : decode b_Fragments_wrap 27 = .ok (.iload_n 3, 1) := by decide +kernel
theorem d_Fragments_wrap_28 : decode b_Fragments_wrap 28 = .ok (.iadd, 1) := by decide +kernel
theorem d_Fragments_wrap_29 : decode b_Fragments_wrap 29 = .ok (.aload_n 0, 1) := by decide +kernel
theorem d_Fragments_wrap_30 : decode b_Fragments_wrap 30 = .ok (.getfield 12, 3) := by decide +kernel
theorem d_Fragments_wrap_33 : decode b_Fragments_wrap 33 = .ok (.if_icmp .ne (7), 3) := by decide +kernel
theorem d_Fragments_wrap_36 : decode b_Fragments_wrap 36 = .ok (.iconst 1, 1) := by decide +kernel
theorem d_Fragments_wrap_37 : decode b_Fragments_wrap 37 = .ok (.goto (4), 3) := by decide +kernel
theorem d_Fragments_wrap_40 : decode b_Fragments_wrap 40 = .ok (.iconst 0, 1) := by decide +kernel
theorem d_Fragments_wrap_41 : decode b_Fragments_wrap 41 = .ok (.istore 4, 2) := by decide +kernel
theorem d_Fragments_wrap_43 : decode b_Fragments_wrap 43 = .ok (.aload_n 1, 1) := by decide +kernel
theorem d_Fragments_wrap_44 : decode b_Fragments_wrap 44 = .ok (.iload 4, 2) := by decide +kernel
theorem d_Fragments_wrap_46 : decode b_Fragments_wrap 46 = .ok (.ifCond .eq (10), 3) := by decide +kernel
theorem d_Fragments_wrap_49 : decode b_Fragments_wrap 49 = .ok (.iload_n 3, 1) := by decide +kernel
theorem d_Fragments_wrap_50 : decode b_Fragments_wrap 50 = .ok (.ldc 24, 2) := by decide +kernel
theorem d_Fragments_wrap_52 : decode b_Fragments_wrap 52 = .ok (.iadd, 1) := by decide +kernel
theorem d_Fragments_wrap_53 : decode b_Fragments_wrap 53 = .ok (.goto (4), 3) := by decide +kernel
theorem d_Fragments_wrap_56 : decode b_Fragments_wrap 56 = .ok (.iload_n 3, 1) := by decide +kernel
theorem d_Fragments_wrap_57 : decode b_Fragments_wrap 57 = .ok (.invokevirtual 25, 3) := by decide +kernel
theorem d_Fragments_wrap_60 : decode b_Fragments_wrap 60 = .ok (.aload_n 1, 1) := by decide +kernel
theorem d_Fragments_wrap_61 : decode b_Fragments_wrap 61 = .ok (.aload_n 0, 1) := by decide +kernel
theorem d_Fragments_wrap_62 : decode b_Fragments_wrap 62 = .ok (.iload_n 2, 1) := by decide +kernel
theorem d_Fragments_wrap_63 : decode b_Fragments_wrap 63 = .ok (.iload_n 3, 1) := by decide +kernel
theorem d_Fragments_wrap_64 : decode b_Fragments_wrap 64 = .ok (.invokevirtual 29, 3) := by decide +kernel
theorem d_Fragments_wrap_67 : decode b_Fragments_wrap 67 = .ok (.iinc 2 (16), 3) := by decide +kernel
theorem d_Fragments_wrap_70 : decode b_Fragments_wrap 70 = .ok (.goto (-64), 3) := by decide +kernel
theorem d_Fragments_wrap_73 : decode b_Fragments_wrap 73 = .ok (.return_, 1) := by decide +kernel
theorem d_Fragments_unwrap_0 : decode b_Fragments_unwrap 0 = .ok (.aload_n 1, 1) := by decide +kernel
theorem d_Fragments_unwrap_1 : decode b_Fragments_unwrap 1 = .ok (.invokevirtual 7, 3) := by decide +kernel
theorem d_Fragments_unwrap_4 : decode b_Fragments_unwrap 4 = .ok (.iconst 0, 1) := by decide +kernel
theorem d_Fragments_unwrap_5 : decode b_Fragments_unwrap 5 = .ok (.istore_n 2, 1) := by decide +kernel
theorem d_Fragments_unwrap_6 : decode b_Fragments_unwrap 6 = .ok (.iconst 0, 1) := by decide +kernel
theorem d_Fragments_unwrap_7 : decode b_Fragments_unwrap 7 = .ok (.istore_n 3, 1) := by decide +kernel
theorem d_Fragments_unwrap_8 : decode b_Fragments_unwrap 8 = .ok (.iload_n 3, 1) := by decide +kernel
theorem d_Fragments_unwrap_9 : decode b_Fragments_unwrap 9 = .ok (.aload_n 0, 1) := by decide +kernel
theorem d_Fragments_unwrap_10 : decode b_Fragments_unwrap 10 = .ok (.getfield 12, 3) := by decide +kernel
theorem d_Fragments_unwrap_13 : decode b_Fragments_unwrap 13 = .ok (.if_icmp .ge (81), 3) := by decide +kernel
theorem d_Fragments_unwrap_16 : decode b_Fragments_unwrap 16 = .ok (.iload_n 2, 1) := by decide +kernel
theorem d_Fragments_unwrap_17 : decode b_Fragments_unwrap 17 = .ok (.aload_n 0, 1) := by decide +kernel
theorem d_Fragments_unwrap_18 : decode b_Fragments_unwrap 18 = .ok (.getfield 12, 3) := by decide +kernel
theorem d_Fragments_unwrap_21 : decode b_Fragments_unwrap 21 = .ok (.iconst 4, 1) := by decide +kernel
theorem d_Fragments_unwrap_22 : decode b_Fragments_unwrap 22 = .ok (.isub, 1) := by decide +kernel
theorem d_Fragments_unwrap_23 : decode b_Fragments_unwrap 23 = .ok (.if_icmp .gt (71), 3) := by decide +kernel
theorem d_Fragments_unwrap_26 : decode b_Fragments_unwrap 26 = .ok (.aload_n 0, 1) := by decide +kernel
theorem d_Fragments_unwrap_27 : decode b_Fragments_unwrap 27 = .ok (.iload_n 2, 1) := by decide +kernel
theorem d_Fragments_unwrap_28 : decode b_Fragments_unwrap 28 = .ok (.invokevirtual 33, 3) := by decide +kernel
theorem d_Fragments_unwrap_31 : decode b_Fragments_unwrap 31 = .ok (.istore 4, 2) := by decide +kernel
theorem d_Fragments_unwrap_33 : decode b_Fragments_unwrap 33 = .ok (.iload 4, 2) := by decide +kernel
theorem d_Fragments_unwrap_35 : decode b_Fragments_unwrap 35 = .ok (.ldc 39, 2) := by decide +kernel
theorem d_Fragments_unwrap_37 : decode b_Fragments_unwrap 37 = .ok (.iand, 1) := by decide +kernel
theorem d_Fragments_unwrap_38 : decode b_Fragments_unwrap 38 = .ok (.istore 5, 2) := by decide +kernel
theorem d_Fragments_unwrap_40 : decode b_Fragments_unwrap 40 = .ok (.iinc 2 (4), 3) := by decide +kernel
theorem d_Fragments_unwrap_43 : decode b_Fragments_unwrap 43 = .ok (.iload 5, 2) := by decide +kernel
theorem d_Fragments_unwrap_45 : decode b_Fragments_unwrap 45 = .ok (.aload_n 0, 1) := by decide +kernel
theorem d_Fragments_unwrap_46 : decode b_Fragments_unwrap 46 = .ok (.getfield 12, 3) := by decide +kernel
theorem d_Fragments_unwrap_49 : decode b_Fragments_unwrap 49 = .ok (.iload_n 2, 1) := by decide +kernel
theorem d_Fragments_unwrap_50 : decode b_Fragments_unwrap 50 = .ok (.isub, 1) := by decide +kernel
theorem d_Fragments_unwrap_51 : decode b_Fragments_unwrap 51 = .ok (.if_icmp .le (5), 3) := by decide +kernel
theorem d_Fragments_unwrap_54 : decode b_Fragments_unwrap 54 = .ok (.iconst 0, 1) := by decide +kernel
theorem d_Fragments_unwrap_55 : decode b_Fragments_unwrap 55 = .ok (.ireturn, 1) := by decide +kernel
theorem d_Fragments_unwrap_56 : decode b_Fragments_unwrap 56 = .ok (.aload_n 1, 1) := by decide +kernel
theorem d_Fragments_unwrap_57 : decode b_Fragments_unwrap 57 = .ok (.aload_n 0, 1) := by decide +kernel
theorem d_Fragments_unwrap_58 : decode b_Fragments_unwrap 58 = .ok (.iload_n 2, 1) := by decide +kernel
theorem d_Fragments_unwrap_59 : decode b_Fragments_unwrap 59 = .ok (.iload 5, 2) := by decide +kernel
theorem d_Fragments_unwrap_61 : decode b_Fragments_unwrap 61 = .ok (.invokevirtual 29, 3) := by decide +kernel
theorem d_Fragments_unwrap_64 : decode b_Fragments_unwrap 64 = .ok (.iload_n 2, 1) := by decide +kernel
theorem d_Fragments_unwrap_65 : decode b_Fragments_unwrap 65 = .ok (.iload 5, 2) := by decide +kernel
theorem d_Fragments_unwrap_67 : decode b_Fragments_unwrap 67 = .ok (.iadd, 1) := by decide +kernel
theorem d_Fragments_unwrap_68 : decode b_Fragments_unwrap 68 = .ok (.istore_n 2, 1) := by decide +kernel
theorem d_Fragments_unwrap_69 : decode b_Fragments_unwrap 69 = .ok (.iload 4, 2) := by decide +kernel
theorem d_Fragments_unwrap_71 : decode b_Fragments_unwrap 71 = .ok (.ifCond .ge (17), 3) := by decide +kernel
theorem d_Fragments_unwrap_74 : decode b_Fragments_unwrap 74 = .ok (.iload_n 2, 1) := by decide +kernel
theorem d_Fragments_unwrap_75 : decode b_Fragments_unwrap 75 = .ok (.aload_n 0, 1) := by decide +kernel
theorem d_Fragments_unwrap_76 : decode b_Fragments_unwrap 76 = .ok (.getfield 12, 3) := by decide +kernel
theorem d_Fragments_unwrap_79 : decode b_Fragments_unwrap 79 = .ok (.if_icmp .ne (7), 3) := by decide +kernel
theorem d_Fragments_unwrap_82 : decode b_Fragments_unwrap 82 = .ok (.iconst 1, 1) := by decide +kernel
theorem d_Fragments_unwrap_83 : decode b_Fragments_unwrap 83 = .ok (.goto (4), 3) := by decide +kernel
theorem d_Fragments_unwrap_86 : decode b_Fragments_unwrap 86 = .ok (.iconst 0, 1) := by decide +kernel
theorem d_Fragments_unwrap_87 : decode b_Fragments_unwrap 87 = .ok (.ireturn, 1) := by decide +kernel
theorem d_Fragments_unwrap_88 : decode b_Fragments_unwrap 88 = .ok (.iinc 3 (1), 3) := by decide +kernel
theorem d_Fragments_unwrap_91 : decode b_Fragments_unwrap 91 = .ok (.goto (-83), 3) := by decide +kernel
theorem d_Fragments_unwrap_94 : decode b_Fragments_unwrap 94 = .ok (.iconst 0, 1) := by decide +kernel
theorem d_Fragments_unwrap_95 : decode b_Fragments_unwrap 95 = .ok (.ireturn, 1) := by decide +kernel
theorem d_Network_init_0 : decode b_Network_init 0 = .ok (.aload_n 0, 1) := by decide +kernel
theorem d_Network_init_1 : decode b_Network_init 1 = .ok (.invokespecial 3, 3) := by decide +kernel
theorem d_Network_init_4 : decode b_Network_init 4 = .ok (.aload_n 0, 1) := by decide +kernel
theorem d_Network_init_5 : decode b_Network_init 5 = .ok (.bipush 17, 2) := by decide +kernel
theorem d_Network_init_7 : decode b_Network_init 7 = .ok (.anewarray 11, 3) := by decide +kernel
theorem d_Network_init_10 : decode b_Network_init 10 = .ok (.putfield 13, 3) := by decide +kernel
theorem d_Network_init_13 : decode b_Network_init 13 = .ok (.aload_n 0, 1) := by decide +kernel
theorem d_Network_init_14 : decode b_Network_init 14 = .ok (.bipush 16, 2) := by decide +kernel
theorem d_Network_init_16 : decode b_Network_init 16 = .ok (.newarray .boolean, 2) := by decide +kernel
theorem d_Network_init_18 : decode b_Network_init 18 = .ok (.putfield 17, 3) := by decide +kernel
theorem d_Network_init_21 : decode b_Network_init 21 = .ok (.aload_n 0, 1) := by decide +kernel
theorem d_Network_init_22 : decode b_Network_init 22 = .ok (.iconst 0, 1) := by decide +kernel
theorem d_Network_init_23 : decode b_Network_init 23 = .ok (.putfield 21, 3) := by decide +kernel
theorem d_Network_init_26 : decode b_Network_init 26 = .ok (.iconst 0, 1) := by decide +kernel
theorem d_Network_init_27 : decode b_Network_init 27 = .ok (.istore_n 1, 1) := by decide +kernel
theorem d_Network_init_28 : decode b_Network_init 28 = .ok (.iload_n 1, 1) := by decide +kernel
theorem d_Network_init_29 : decode b_Network_init 29 = .ok (.aload_n 0, 1) := by decide +kernel
theorem d_Network_init_30 : decode b_Network_init 30 = .ok (.getfield 13, 3) := by decide +kernel
theorem d_Network_init_33 : decode b_Network_init 33 = .ok (.arraylength, 1) := by decide +kernel
theorem d_Network_init_34 : decode b_Network_init 34 = .ok (.if_icmp .ge (25), 3) := by decide +kernel
theorem d_Network_init_37 : decode b_Network_init 37 = .ok (.aload_n 0, 1) := by decide +kernel
theorem d_Network_init_38 : decode b_Network_init 38 = .ok (.getfield 13, 3) := by decide +kernel
theorem d_Network_init_41 : decode b_Network_init 41 = .ok (.iload_n 1, 1) := by decide +kernel
theorem d_Network_init_42 : decode b_Network_init 42 = .ok (.new 11, 3) := by decide +kernel
theorem d_Network_init_45 : decode b_Network_init 45 = .ok (.dup, 1) := by decide +kernel
theorem d_Network_init_46 : decode b_Network_init 46 = .ok (.sipush 156, 3) := by decide +kernel
theorem d_Network_init_49 : decode b_Network_init 49 = .ok (.invokespecial 25, 3) := by decide +kernel
theorem d_Network_init_52 : decode b_Network_init 52 = .ok (.aastore, 1) := by decide +kernel
theorem d_Network_init_53 : decode b_Network_init 53 = .ok (.iinc 1 (1), 3) := by decide +kernel
theorem d_Network_init_56 : decode b_Network_init 56 = .ok (.goto (-28), 3) := by decide +kernel
theorem d_Network_init_59 : decode b_Network_init 59 = .ok (.return_, 1) := by decide +kernel
theorem d_Network_has_0 : decode b_Network_has 0 = .ok (.iload_n 1, 1) := by decide +kernel
theorem d_Network_has_1 : decode b_Network_has 1 = .ok (.ifCond .lt (15), 3) := by decide +kernel
theorem d_Network_has_4 : decode b_Network_has 4 = .ok (.iload_n 1, 1) := by decide +kernel
theorem d_Network_has_5 : decode b_Network_has 5 = .ok (.aload_n 0, 1) := by decide +kernel
theorem d_Network_has_6 : decode b_Network_has 6 = .ok (.getfield 21, 3) := by decide +kernel
theorem d_Network_has_9 : decode b_Network_has 9 = .ok (.if_icmp .ge (7), 3) := by decide +kernel
theorem d_Network_has_12 : decode b_Network_has 12 = .ok (.iconst 1, 1) := by decide +kernel
theorem d_Network_has_13 : decode b_Network_has 13 = .ok (.goto (4), 3) := by decide +kernel
theorem d_Network_has_16 : decode b_Network_has 16 = .ok (.iconst 0, 1) := by decide +kernel
theorem d_Network_has_17 : decode b_Network_has 17 = .ok (.ireturn, 1) := by decide +kernel
theorem d_Network_isFull_0 : decode b_Network_isFull 0 = .ok (.aload_n 0, 1) := by decide +kernel
theorem d_Network_isFull_1 : decode b_Network_isFull 1 = .ok (.getfield 21, 3) := by decide +kernel
theorem d_Network_isFull_4 : decode b_Network_isFull 4 = .ok (.bipush 16, 2) := by decide +kernel
theorem d_Network_isFull_6 : decode b_Network_isFull 6 = .ok (.if_icmp .lt (7), 3) := by decide +kernel
theorem d_Network_isFull_9 : decode b_Network_isFull 9 = .ok (.iconst 1, 1) := by decide +kernel
theorem d_Network_isFull_10 : decode b_Network_isFull 10 = .ok (.goto (4), 3) := by decide +kernel
theorem d_Network_isFull_13 : decode b_Network_isFull 13 = .ok (.iconst 0, 1) := by decide +kernel
theorem d_Network_isFull_14 : decode b_Network_isFull 14 = .ok (.ireturn, 1) := by decide +kernel
theorem d_Network_message_0 : decode b_Network_message 0 = .ok (.aload_n 0, 1) := by decide +kernel
theorem d_Network_message_1 : decode b_Network_message 1 = .ok (.getfield 13, 3) := by decide +kernel
theorem d_Network_message_4 : decode b_Network_message 4 = .ok (.aload_n 0, 1) := by decide +kernel
theorem d_Network_message_5 : decode b_Network_message 5 = .ok (.iload_n 1, 1) := by decide +kernel
theorem d_Network_message_6 : decode b_Network_message 6 = .ok (.invokevirtual 28, 3) := by decide +kernel
theorem d_Network_message_9 : decode b_Network_message 9 = .ok (.ifCond .eq (7), 3) := by decide +kernel
theorem d_Network_message_12 : decode b_Network_message 12 = .ok (.iload_n 1, 1) := by decide +kernel
theorem d_Network_message_13 : decode b_Network_message 13 = .ok (.goto (5), 3) := by decide +kernel
theorem d_Network_message_16 : decode b_Network_message 16 = .ok (.bipush 16, 2) := by decide +kernel
theorem d_Network_message_18 : decode b_Network_message 18 = .ok (.aaload, 1) := by decide +kernel
theorem d_Network_message_19 : decode b_Network_message 19 = .ok (.areturn, 1) := by decide +kernel
theorem d_Network_isForServer_0 : decode b_Network_isForServer 0 = .ok (.aload_n 0, 1) := by decide +kernel
theorem d_Network_isForServer_1 : decode b_Network_isForServer 1 = .ok (.iload_n 1, 1) := by decide +kernel
theorem d_Network_isForServer_2 : decode b_Network_isForServer 2 = .ok (.invokevirtual 28, 3) := by decide +kernel
theorem d_Network_isForServer_5 : decode b_Network_isForServer 5 = .ok (.ifCond .eq (16), 3) := by decide +kernel
theorem d_Network_isForServer_8 : decode b_Network_isForServer 8 = .ok (.aload_n 0, 1) := by decide +kernel
theorem d_Network_isForServer_9 : decode b_Network_isForServer 9 = .ok (.getfield 17, 3) := by decide +kernel
theorem d_Network_isForServer_12 : decode b_Network_isForServer 12 = .ok (.iload_n 1, 1) := by decide +kernel
theorem d_Network_isForServer_13 : decode b_Network_isForServer 13 = .ok (.baload, 1) := by decide +kernel
theorem d_Network_isForServer_14 : decode b_Network_isForServer 14 = .ok (.ifCond .eq (7), 3) := by decide +kernel
theorem d_Network_isForServer_17 : decode b_Network_isForServer 17 = .ok (.iconst 1, 1) := by decide +kernel
theorem d_Network_isForServer_18 : decode b_Network_isForServer 18 = .ok (.goto (4), 3) := by decide +kernel
theorem d_Network_isForServer_21 : decode b_Network_isForServer 21 = .ok (.iconst 0, 1) := by decide +kernel
theorem d_Network_isForServer_22 : decode b_Network_isForServer 22 = .ok (.ireturn, 1) := by decide +kernel
theorem d_Network_send_0 : decode b_Network_send 0 = .ok (.aload_n 0, 1) := by decide +kernel
theorem d_Network_send_1 : decode b_Network_send 1 = .ok (.invokevirtual 32, 3) := by decide +kernel
theorem d_Network_send_4 : decode b_Network_send 4 = .ok (.ifCond .eq (4), 3) := by decide +kernel
theorem d_Network_send_7 : decode b_Network_send 7 = .ok (.return_, 1) := by decide +kernel
theorem d_Network_send_8 : decode b_Network_send 8 = .ok (.aload_n 0, 1) := by decide +kernel
theorem d_Network_send_9 : decode b_Network_send 9 = .ok (.getfield 13, 3) := by decide +kernel
theorem d_Network_send_12 : decode b_Network_send 12 = .ok (.aload_n 0, 1) := by decide +kernel
theorem d_Network_send_13 : decode b_Network_send 13 = .ok (.getfield 21, 3) := by decide +kernel
theorem d_Network_send_16 : decode b_Network_send 16 = .ok (.aaload, 1) := by decide +kernel
theorem d_Network_send_17 : decode b_Network_send 17 = .ok (.aload_n 1, 1) := by decide +kernel
theorem d_Network_send_18 : decode b_Network_send 18 = .ok (.invokevirtual 36, 3) := by decide +kernel
theorem d_Network_send_21 : decode b_Network_send 21 = .ok (.aload_n 0, 1) := by decide +kernel
theorem d_Network_send_22 : decode b_Network_send 22 = .ok (.getfield 17, 3) := by decide +kernel
theorem d_Network_send_25 : decode b_Network_send 25 = .ok (.aload_n 0, 1) := by decide +kernel
theorem d_Network_send_26 : decode b_Network_send 26 = .ok (.getfield 21, 3) := by decide +kernel
theorem d_Network_send_29 : decode b_Network_send 29 = .ok (.iload_n 2, 1) := by decide +kernel
theorem d_Network_send_30 : decode b_Network_send 30 = .ok (.bastore, 1) := by decide +kernel
theorem d_Network_send_31 : decode b_Network_send 31 = .ok (.aload_n 0, 1) := by decide +kernel
theorem d_Network_send_32 : decode b_Network_send 32 = .ok (.dup, 1) := by decide +kernel
theorem d_Network_send_33 : decode b_Network_send 33 = .ok (.getfield 21, 3) := by decide +kernel
theorem d_Network_send_36 : decode b_Network_send 36 = .ok (.iconst 1, 1) := by decide +kernel
theorem d_Network_send_37 : decode b_Network_send 37 = .ok (.iadd, 1) := by decide +kernel
theorem d_Network_send_38 : decode b_Network_send 38 = .ok (.putfield 21, 3) := by decide +kernel
theorem d_Network_send_41 : decode b_Network_send 41 = .ok (.return_, 1) := by decide +kernel
theorem d_Network_take_0 : decode b_Network_take 0 = .ok (.aload_n 0, 1) := by decide +kernel
theorem d_Network_take_1 : decode b_Network_take 1 = .ok (.iload_n 1, 1) := by decide +kernel
theorem d_Network_take_2 : decode b_Network_take 2 = .ok (.invokevirtual 28, 3) := by decide +kernel
theorem d_Network_take_5 : decode b_Network_take 5 = .ok (.ifCond .eq (51), 3) := by decide +kernel
theorem d_Network_take_8 : decode b_Network_take 8 = .ok (.aload_n 0, 1) := by decide +kernel
theorem d_Network_take_9 : decode b_Network_take 9 = .ok (.getfield 13, 3) := by decide +kernel
theorem d_Network_take_12 : decode b_Network_take 12 = .ok (.iload_n 1, 1) := by decide +kernel
theorem d_Network_take_13 : decode b_Network_take 13 = .ok (.invokestatic 40, 3) := by decide +kernel
theorem d_Network_take_16 : decode b_Network_take 16 = .ok (.aload_n 0, 1) := by decide +kernel
theorem d_Network_take_17 : decode b_Network_take 17 = .ok (.dup, 1) := by decide +kernel
theorem d_Network_take_18 : decode b_Network_take 18 = .ok (.getfield 21, 3) := by decide +kernel
theorem d_Network_take_21 : decode b_Network_take 21 = .ok (.iconst 1, 1) := by decide +kernel
theorem d_Network_take_22 : decode b_Network_take 22 = .ok (.isub, 1) := by decide +kernel
theorem d_Network_take_23 : decode b_Network_take 23 = .ok (.putfield 21, 3) := by decide +kernel
theorem d_Network_take_26 : decode b_Network_take 26 = .ok (.iload_n 1, 1) := by decide +kernel
theorem d_Network_take_27 : decode b_Network_take 27 = .ok (.istore_n 2, 1) := by decide +kernel
theorem d_Network_take_28 : decode b_Network_take 28 = .ok (.iload_n 2, 1) := by decide +kernel
theorem d_Network_take_29 : decode b_Network_take 29 = .ok (.aload_n 0, 1) := by decide +kernel
theorem d_Network_take_30 : decode b_Network_take 30 = .ok (.getfield 21, 3) := by decide +kernel
theorem d_Network_take_33 : decode b_Network_take 33 = .ok (.if_icmp .ge (23), 3) := by decide +kernel
theorem d_Network_take_36 : decode b_Network_take 36 = .ok (.aload_n 0, 1) := by decide +kernel
theorem d_Network_take_37 : decode b_Network_take 37 = .ok (.getfield 17, 3) := by decide +kernel
theorem d_Network_take_40 : decode b_Network_take 40 = .ok (.iload_n 2, 1) := by decide +kernel
theorem d_Network_take_41 : decode b_Network_take 41 = .ok (.aload_n 0, 1) := by decide +kernel
theorem d_Network_take_42 : decode b_Network_take 42 = .ok (.getfield 17, 3) := by decide +kernel
theorem d_Network_take_45 : decode b_Network_take 45 = .ok (.iload_n 2, 1) := by decide +kernel
theorem d_Network_take_46 : decode b_Network_take 46 = .ok (.iconst 1, 1) := by decide +kernel
theorem d_Network_take_47 : decode b_Network_take 47 = .ok (.iadd, 1) := by decide +kernel
theorem d_Network_take_48 : decode b_Network_take 48 = .ok (.baload, 1) := by decide +kernel
theorem d_Network_take_49 : decode b_Network_take 49 = .ok (.bastore, 1) := by decide +kernel
theorem d_Network_take_50 : decode b_Network_take 50 = .ok (.iinc 2 (1), 3) := by decide +kernel
theorem d_Network_take_53 : decode b_Network_take 53 = .ok (.goto (-25), 3) := by decide +kernel
theorem d_Network_take_56 : decode b_Network_take 56 = .ok (.aload_n 0, 1) := by decide +kernel
theorem d_Network_take_57 : decode b_Network_take 57 = .ok (.getfield 13, 3) := by decide +kernel
theorem d_Network_take_60 : decode b_Network_take 60 = .ok (.bipush 16, 2) := by decide +kernel
theorem d_Network_take_62 : decode b_Network_take 62 = .ok (.aaload, 1) := by decide +kernel
theorem d_Network_take_63 : decode b_Network_take 63 = .ok (.areturn, 1) := by decide +kernel
theorem d_Reader_init_0 : decode b_Reader_init 0 = .ok (.aload_n 0, 1) := by decide +kernel
theorem d_Reader_init_1 : decode b_Reader_init 1 = .ok (.invokespecial 1, 3) := by decide +kernel
theorem d_Reader_init_4 : decode b_Reader_init 4 = .ok (.aload_n 0, 1) := by decide +kernel
theorem d_Reader_init_5 : decode b_Reader_init 5 = .ok (.aload_n 1, 1) := by decide +kernel
theorem d_Reader_init_6 : decode b_Reader_init 6 = .ok (.putfield 7, 3) := by decide +kernel
theorem d_Reader_init_9 : decode b_Reader_init 9 = .ok (.aload_n 0, 1) := by decide +kernel
theorem d_Reader_init_10 : decode b_Reader_init 10 = .ok (.iconst 0, 1) := by decide +kernel
theorem d_Reader_init_11 : decode b_Reader_init 11 = .ok (.putfield 13, 3) := by decide +kernel
theorem d_Reader_init_14 : decode b_Reader_init 14 = .ok (.aload_n 0, 1) := by decide +kernel
theorem d_Reader_init_15 : decode b_Reader_init 15 = .ok (.iconst 0, 1) := by decide +kernel
theorem d_Reader_init_16 : decode b_Reader_init 16 = .ok (.putfield 17, 3) := by decide +kernel
theorem d_Reader_init_19 : decode b_Reader_init 19 = .ok (.return_, 1) := by decide +kernel
theorem d_Reader_startAt_0 : decode b_Reader_startAt 0 = .ok (.aload_n 0, 1) := by decide +kernel
theorem d_Reader_startAt_1 : decode b_Reader_startAt 1 = .ok (.iload_n 1, 1) := by decide +kernel
theorem d_Reader_startAt_2 : decode b_Reader_startAt 2 = .ok (.iconst 0, 1) := by decide +kernel
theorem d_Reader_startAt_3 : decode b_Reader_startAt 3 = .ok (.invokestatic 21, 3) := by decide +kernel
theorem d_Reader_startAt_6 : decode b_Reader_startAt 6 = .ok (.putfield 13, 3) := by decide +kernel
theorem d_Reader_startAt_9 : decode b_Reader_startAt 9 = .ok (.aload_n 0, 1) := by decide +kernel
theorem d_Reader_startAt_10 : decode b_Reader_startAt 10 = .ok (.iconst 0, 1) := by decide +kernel
theorem d_Reader_startAt_11 : decode b_Reader_startAt 11 = .ok (.putfield 17, 3) := by decide +kernel
theorem d_Reader_startAt_14 : decode b_Reader_startAt 14 = .ok (.return_, 1) := by decide +kernel
theorem d_Reader_left_0 : decode b_Reader_left 0 = .ok (.aload_n 0, 1) := by decide +kernel
theorem d_Reader_left_1 : decode b_Reader_left 1 = .ok (.getfield 7, 3) := by decide +kernel
theorem d_Reader_left_4 : decode b_Reader_left 4 = .ok (.getfield 27, 3) := by decide +kernel
theorem d_Reader_left_7 : decode b_Reader_left 7 = .ok (.aload_n 0, 1) := by decide +kernel
theorem d_Reader_left_8 : decode b_Reader_left 8 = .ok (.getfield 13, 3) := by decide +kernel
theorem d_Reader_left_11 : decode b_Reader_left 11 = .ok (.isub, 1) := by decide +kernel
theorem d_Reader_left_12 : decode b_Reader_left 12 = .ok (.ireturn, 1) := by decide +kernel
theorem d_Reader_takeWord_0 : decode b_Reader_takeWord 0 = .ok (.aload_n 0, 1) := by decide +kernel
theorem d_Reader_takeWord_1 : decode b_Reader_takeWord 1 = .ok (.getfield 7, 3) := by decide +kernel
theorem d_Reader_takeWord_4 : decode b_Reader_takeWord 4 = .ok (.getfield 27, 3) := by decide +kernel
theorem d_Reader_takeWord_7 : decode b_Reader_takeWord 7 = .ok (.aload_n 0, 1) := by decide +kernel
theorem d_Reader_takeWord_8 : decode b_Reader_takeWord 8 = .ok (.getfield 13, 3) := by decide +kernel
theorem d_Reader_takeWord_11 : decode b_Reader_takeWord 11 = .ok (.isub, 1) := by decide +kernel
theorem d_Reader_takeWord_12 : decode b_Reader_takeWord 12 = .ok (.iconst 4, 1) := by decide +kernel
theorem d_Reader_takeWord_13 : decode b_Reader_takeWord 13 = .ok (.if_icmp .ge (10), 3) := by decide +kernel
theorem d_Reader_takeWord_16 : decode b_Reader_takeWord 16 = .ok (.aload_n 0, 1) := by decide +kernel
theorem d_Reader_takeWord_17 : decode b_Reader_takeWord 17 = .ok (.iconst 1, 1) := by decide +kernel
theorem d_Reader_takeWord_18 : decode b_Reader_takeWord 18 = .ok (.putfield 17, 3) := by decide +kernel
theorem d_Reader_takeWord_21 : decode b_Reader_takeWord 21 = .ok (.iconst 0, 1) := by decide +kernel
theorem d_Reader_takeWord_22 : decode b_Reader_takeWord 22 = .ok (.ireturn, 1) := by decide +kernel
theorem d_Reader_takeWord_23 : decode b_Reader_takeWord 23 = .ok (.iconst 0, 1) := by decide +kernel
theorem d_Reader_takeWord_24 : decode b_Reader_takeWord 24 = .ok (.istore_n 1, 1) := by decide +kernel
theorem d_Reader_takeWord_25 : decode b_Reader_takeWord 25 = .ok (.iconst 0, 1) := by decide +kernel
theorem d_Reader_takeWord_26 : decode b_Reader_takeWord 26 = .ok (.istore_n 2, 1) := by decide +kernel
theorem d_Reader_takeWord_27 : decode b_Reader_takeWord 27 = .ok (.iload_n 2, 1) := by decide +kernel
theorem d_Reader_takeWord_28 : decode b_Reader_takeWord 28 = .ok (.iconst 4, 1) := by decide +kernel
theorem d_Reader_takeWord_29 : decode b_Reader_takeWord 29 = .ok (.if_icmp .ge (37), 3) := by decide +kernel
theorem d_Reader_takeWord_32 : decode b_Reader_takeWord 32 = .ok (.iload_n 1, 1) := by decide +kernel
theorem d_Reader_takeWord_33 : decode b_Reader_takeWord 33 = .ok (.bipush 8, 2) := by decide +kernel
theorem d_Reader_takeWord_35 : decode b_Reader_takeWord 35 = .ok (.ishl, 1) := by decide +kernel
theorem d_Reader_takeWord_36 : decode b_Reader_takeWord 36 = .ok (.aload_n 0, 1) := by decide +kernel
theorem d_Reader_takeWord_37 : decode b_Reader_takeWord 37 = .ok (.getfield 7, 3) := by decide +kernel
theorem d_Reader_takeWord_40 : decode b_Reader_takeWord 40 = .ok (.getfield 32, 3) := by decide +kernel
theorem d_Reader_takeWord_43 : decode b_Reader_takeWord 43 = .ok (.aload_n 0, 1) := by decide +kernel
theorem d_Reader_takeWord_44 : decode b_Reader_takeWord 44 = .ok (.getfield 13, 3) := by decide +kernel
theorem d_Reader_takeWord_47 : decode b_Reader_takeWord 47 = .ok (.iaload, 1) := by decide +kernel
theorem d_Reader_takeWord_48 : decode b_Reader_takeWord 48 = .ok (.ior, 1) := by decide +kernel
theorem d_Reader_takeWord_49 : decode b_Reader_takeWord 49 = .ok (.istore_n 1, 1) := by decide +kernel
theorem d_Reader_takeWord_50 : decode b_Reader_takeWord 50 = .ok (.aload_n 0, 1) := by decide +kernel
theorem d_Reader_takeWord_51 : decode b_Reader_takeWord 51 = .ok (.dup, 1) := by decide +kernel
theorem d_Reader_takeWord_52 : decode b_Reader_takeWord 52 = .ok (.getfield 13, 3) := by decide +kernel
theorem d_Reader_takeWord_55 : decode b_Reader_takeWord 55 = .ok (.iconst 1, 1) := by decide +kernel
theorem d_Reader_takeWord_56 : decode b_Reader_takeWord 56 = .ok (.iadd, 1) := by decide +kernel
theorem d_Reader_takeWord_57 : decode b_Reader_takeWord 57 = .ok (.putfield 13, 3) := by decide +kernel
theorem d_Reader_takeWord_60 : decode b_Reader_takeWord 60 = .ok (.iinc 2 (1), 3) := by decide +kernel
theorem d_Reader_takeWord_63 : decode b_Reader_takeWord 63 = .ok (.goto (-36), 3) := by decide +kernel
theorem d_Reader_takeWord_66 : decode b_Reader_takeWord 66 = .ok (.iload_n 1, 1) := by decide +kernel
theorem d_Reader_takeWord_67 : decode b_Reader_takeWord 67 = .ok (.ireturn, 1) := by decide +kernel
theorem d_Reader_takeVarint_0 : decode b_Reader_takeVarint 0 = .ok (.lconst 0, 1) := by decide +kernel
theorem d_Reader_takeVarint_1 : decode b_Reader_takeVarint 1 = .ok (.lstore_n 1, 1) := by decide +kernel
theorem d_Reader_takeVarint_2 : decode b_Reader_takeVarint 2 = .ok (.iconst 0, 1) := by decide +kernel
theorem d_Reader_takeVarint_3 : decode b_Reader_takeVarint 3 = .ok (.istore_n 3, 1) := by decide +kernel
theorem d_Reader_takeVarint_4 : decode b_Reader_takeVarint 4 = .ok (.iload_n 3, 1) := by decide +kernel
theorem d_Reader_takeVarint_5 : decode b_Reader_takeVarint 5 = .ok (.bipush 10, 2) := by decide +kernel
theorem d_Reader_takeVarint_7 : decode b_Reader_takeVarint 7 = .ok (.if_icmp .ge (71), 3) := by decide +kernel
theorem d_Reader_takeVarint_10 : decode b_Reader_takeVarint 10 = .ok (.aload_n 0, 1) := by decide +kernel
theorem d_Reader_takeVarint_11 : decode b_Reader_takeVarint 11 = .ok (.getfield 13, 3) := by decide +kernel
theorem d_Reader_takeVarint_14 : decode b_Reader_takeVarint 14 = .ok (.aload_n 0, 1) := by decide +kernel
theorem d_Reader_takeVarint_15 : decode b_Reader_takeVarint 15 = .ok (.getfield 7, 3) := by decide +kernel
theorem d_Reader_takeVarint_18 : decode b_Reader_takeVarint 18 = .ok (.getfield 27, 3) := by decide +kernel
theorem d_Reader_takeVarint_21 : decode b_Reader_takeVarint 21 = .ok (.if_icmp .ge (57), 3) := by decide +kernel
theorem d_Reader_takeVarint_24 : decode b_Reader_takeVarint 24 = .ok (.aload_n 0, 1) := by decide +kernel
theorem d_Reader_takeVarint_25 : decode b_Reader_takeVarint 25 = .ok (.getfield 7, 3) := by decide +kernel
theorem d_Reader_takeVarint_28 : decode b_Reader_takeVarint 28 = .ok (.getfield 32, 3) := by decide +kernel
theorem d_Reader_takeVarint_31 : decode b_Reader_takeVarint 31 = .ok (.aload_n 0, 1) := by decide +kernel
theorem d_Reader_takeVarint_32 : decode b_Reader_takeVarint 32 = .ok (.getfield 13, 3) := by decide +kernel
theorem d_Reader_takeVarint_35 : decode b_Reader_takeVarint 35 = .ok (.iaload, 1) := by decide +kernel
theorem d_Reader_takeVarint_36 : decode b_Reader_takeVarint 36 = .ok (.istore 4, 2) := by decide +kernel
theorem d_Reader_takeVarint_38 : decode b_Reader_takeVarint 38 = .ok (.aload_n 0, 1) := by decide +kernel
theorem d_Reader_takeVarint_39 : decode b_Reader_takeVarint 39 = .ok (.dup, 1) := by decide +kernel
theorem d_Reader_takeVarint_40 : decode b_Reader_takeVarint 40 = .ok (.getfield 13, 3) := by decide +kernel
theorem d_Reader_takeVarint_43 : decode b_Reader_takeVarint 43 = .ok (.iconst 1, 1) := by decide +kernel
theorem d_Reader_takeVarint_44 : decode b_Reader_takeVarint 44 = .ok (.iadd, 1) := by decide +kernel
theorem d_Reader_takeVarint_45 : decode b_Reader_takeVarint 45 = .ok (.putfield 13, 3) := by decide +kernel
theorem d_Reader_takeVarint_48 : decode b_Reader_takeVarint 48 = .ok (.lload_n 1, 1) := by decide +kernel
theorem d_Reader_takeVarint_49 : decode b_Reader_takeVarint 49 = .ok (.iload 4, 2) := by decide +kernel
theorem d_Reader_takeVarint_51 : decode b_Reader_takeVarint 51 = .ok (.bipush 127, 2) := by decide +kernel
theorem d_Reader_takeVarint_53 : decode b_Reader_takeVarint 53 = .ok (.iand, 1) := by decide +kernel
theorem d_Reader_takeVarint_54 : decode b_Reader_takeVarint 54 = .ok (.i2l, 1) := by decide +kernel
theorem d_Reader_takeVarint_55 : decode b_Reader_takeVarint 55 = .ok (.bipush 7, 2) := by decide +kernel
theorem d_Reader_takeVarint_57 : decode b_Reader_takeVarint 57 = .ok (.iload_n 3, 1) := by decide +kernel
theorem d_Reader_takeVarint_58 : decode b_Reader_takeVarint 58 = .ok (.imul, 1) := by decide +kernel
theorem d_Reader_takeVarint_59 : decode b_Reader_takeVarint 59 = .ok (.lshl, 1) := by decide +kernel
theorem d_Reader_takeVarint_60 : decode b_Reader_takeVarint 60 = .ok (.lor, 1) := by decide +kernel
theorem d_Reader_takeVarint_61 : decode b_Reader_takeVarint 61 = .ok (.lstore_n 1, 1) := by decide +kernel
theorem d_Reader_takeVarint_62 : decode b_Reader_takeVarint 62 = .ok (.iload 4, 2) := by decide +kernel
theorem d_Reader_takeVarint_64 : decode b_Reader_takeVarint 64 = .ok (.sipush 128, 3) := by decide +kernel
theorem d_Reader_takeVarint_67 : decode b_Reader_takeVarint 67 = .ok (.if_icmp .ge (5), 3) := by decide +kernel
theorem d_Reader_takeVarint_70 : decode b_Reader_takeVarint 70 = .ok (.lload_n 1, 1) := by decide +kernel
theorem d_Reader_takeVarint_71 : decode b_Reader_takeVarint 71 = .ok (.lreturn, 1) := by decide +kernel
theorem d_Reader_takeVarint_72 : decode b_Reader_takeVarint 72 = .ok (.iinc 3 (1), 3) := by decide +kernel
theorem d_Reader_takeVarint_75 : decode b_Reader_takeVarint 75 = .ok (.goto (-71), 3) := by decide +kernel
theorem d_Reader_takeVarint_78 : decode b_Reader_takeVarint 78 = .ok (.aload_n 0, 1) := by decide +kernel
theorem d_Reader_takeVarint_79 : decode b_Reader_takeVarint 79 = .ok (.iconst 1, 1) := by decide +kernel
theorem d_Reader_takeVarint_80 : decode b_Reader_takeVarint 80 = .ok (.putfield 17, 3) := by decide +kernel
theorem d_Reader_takeVarint_83 : decode b_Reader_takeVarint 83 = .ok (.lconst 0, 1) := by decide +kernel
theorem d_Reader_takeVarint_84 : decode b_Reader_takeVarint 84 = .ok (.lreturn, 1) := by decide +kernel
theorem d_Reader_skip_0 : decode b_Reader_skip 0 = .ok (.lload_n 1, 1) := by decide +kernel
theorem d_Reader_skip_1 : decode b_Reader_skip 1 = .ok (.lconst 0, 1) := by decide +kernel
theorem d_Reader_skip_2 : decode b_Reader_skip 2 = .ok (.lcmp, 1) := by decide +kernel
theorem d_Reader_skip_3 : decode b_Reader_skip 3 = .ok (.ifCond .lt (21), 3) := by decide +kernel
theorem d_Reader_skip_6 : decode b_Reader_skip 6 = .ok (.lload_n 1, 1) := by decide +kernel
theorem d_Reader_skip_7 : decode b_Reader_skip 7 = .ok (.aload_n 0, 1) := by decide +kernel
theorem d_Reader_skip_8 : decode b_Reader_skip 8 = .ok (.getfield 7, 3) := by decide +kernel
theorem d_Reader_skip_11 : decode b_Reader_skip 11 = .ok (.getfield 27, 3) := by decide +kernel
theorem d_Reader_skip_14 : decode b_Reader_skip 14 = .ok (.aload_n 0, 1) := by decide +kernel
theorem d_Reader_skip_15 : decode b_Reader_skip 15 = .ok (.getfield 13, 3) := by decide +kernel
theorem d_Reader_skip_18 : decode b_Reader_skip 18 = .ok (.isub, 1) := by decide +kernel
theorem d_Reader_skip_19 : decode b_Reader_skip 19 = .ok (.i2l, 1) := by decide +kernel
theorem d_Reader_skip_20 : decode b_Reader_skip 20 = .ok (.lcmp, 1) := by decide +kernel
theorem d_Reader_skip_21 : decode b_Reader_skip 21 = .ok (.ifCond .le (11), 3) := by decide +kernel
theorem d_Reader_skip_24 : decode b_Reader_skip 24 = .ok (.aload_n 0, 1) := by decide +kernel
theorem d_Reader_skip_25 : decode b_Reader_skip 25 = .ok (.iconst 1, 1) := by decide +kernel
theorem d_Reader_skip_26 : decode b_Reader_skip 26 = .ok (.putfield 17, 3) := by decide +kernel
theorem d_Reader_skip_29 : decode b_Reader_skip 29 = .ok (.goto (14), 3) := by decide +kernel
theorem d_Reader_skip_32 : decode b_Reader_skip 32 = .ok (.aload_n 0, 1) := by decide +kernel
theorem d_Reader_skip_33 : decode b_Reader_skip 33 = .ok (.dup, 1) := by decide +kernel
theorem d_Reader_skip_34 : decode b_Reader_skip 34 = .ok (.getfield 13, 3) := by decide +kernel
theorem d_Reader_skip_37 : decode b_Reader_skip 37 = .ok (.lload_n 1, 1) := by decide +kernel
theorem d_Reader_skip_38 : decode b_Reader_skip 38 = .ok (.l2i, 1) := by decide +kernel
theorem d_Reader_skip_39 : decode b_Reader_skip 39 = .ok (.iadd, 1) := by decide +kernel
theorem d_Reader_skip_40 : decode b_Reader_skip 40 = .ok (.putfield 13, 3) := by decide +kernel
theorem d_Reader_skip_43 : decode b_Reader_skip 43 = .ok (.return_, 1) := by decide +kernel
theorem d_Schema_init_0 : decode b_Schema_init 0 = .ok (.aload_n 0, 1) := by decide +kernel
theorem d_Schema_init_1 : decode b_Schema_init 1 = .ok (.invokespecial 3, 3) := by decide +kernel
theorem d_Schema_init_4 : decode b_Schema_init 4 = .ok (.aload_n 0, 1) := by decide +kernel
theorem d_Schema_init_5 : decode b_Schema_init 5 = .ok (.iconst 4, 1) := by decide +kernel
theorem d_Schema_init_6 : decode b_Schema_init 6 = .ok (.newarray .int, 2) := by decide +kernel
theorem d_Schema_init_8 : decode b_Schema_init 8 = .ok (.putfield 11, 3) := by decide +kernel
theorem d_Schema_init_11 : decode b_Schema_init 11 = .ok (.aload_n 0, 1) := by decide +kernel
theorem d_Schema_init_12 : decode b_Schema_init 12 = .ok (.iconst 4, 1) := by decide +kernel
theorem d_Schema_init_13 : decode b_Schema_init 13 = .ok (.newarray .int, 2) := by decide +kernel
theorem d_Schema_init_15 : decode b_Schema_init 15 = .ok (.putfield 15, 3) := by decide +kernel
theorem d_Schema_init_18 : decode b_Schema_init 18 = .ok (.aload_n 0, 1) := by decide +kernel
theorem d_Schema_init_19 : decode b_Schema_init 19 = .ok (.iconst 4, 1) := by decide +kernel
theorem d_Schema_init_20 : decode b_Schema_init 20 = .ok (.newarray .int, 2) := by decide +kernel
theorem d_Schema_init_22 : decode b_Schema_init 22 = .ok (.putfield 18, 3) := by decide +kernel
theorem d_Schema_init_25 : decode b_Schema_init 25 = .ok (.aload_n 0, 1) := by decide +kernel
theorem d_Schema_init_26 : decode b_Schema_init 26 = .ok (.iconst 4, 1) := by decide +kernel
theorem d_Schema_init_27 : decode b_Schema_init 27 = .ok (.newarray .boolean, 2) := by decide +kernel
theorem d_Schema_init_29 : decode b_Schema_init 29 = .ok (.putfield 21, 3) := by decide +kernel
theorem d_Schema_init_32 : decode b_Schema_init 32 = .ok (.aload_n 0, 1) := by decide +kernel
theorem d_Schema_init_33 : decode b_Schema_init 33 = .ok (.iconst 0, 1) := by decide +kernel
theorem d_Schema_init_34 : decode b_Schema_init 34 = .ok (.putfield 25, 3) := by decide +kernel
theorem d_Schema_init_37 : decode b_Schema_init 37 = .ok (.return_, 1) := by decide +kernel
