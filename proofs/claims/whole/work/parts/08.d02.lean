theorem d_Schema_declare_0 : decode b_Schema_declare 0 = .ok (.iload_n 1, 1) := by decide +kernel
theorem d_Schema_declare_1 : decode b_Schema_declare 1 = .ok (.iconst 1, 1) := by decide +kernel
theorem d_Schema_declare_2 : decode b_Schema_declare 2 = .ok (.if_icmp .lt (18), 3) := by decide +kernel
theorem d_Schema_declare_5 : decode b_Schema_declare 5 = .ok (.iload_n 1, 1) := by decide +kernel
theorem d_Schema_declare_6 : decode b_Schema_declare 6 = .ok (.bipush 30, 2) := by decide +kernel
theorem d_Schema_declare_8 : decode b_Schema_declare 8 = .ok (.if_icmp .gt (12), 3) := by decide +kernel
theorem d_Schema_declare_11 : decode b_Schema_declare 11 = .ok (.iload_n 2, 1) := by decide +kernel
theorem d_Schema_declare_12 : decode b_Schema_declare 12 = .ok (.ifCond .lt (8), 3) := by decide +kernel
theorem d_Schema_declare_15 : decode b_Schema_declare 15 = .ok (.iload_n 2, 1) := by decide +kernel
theorem d_Schema_declare_16 : decode b_Schema_declare 16 = .ok (.iconst 3, 1) := by decide +kernel
theorem d_Schema_declare_17 : decode b_Schema_declare 17 = .ok (.if_icmp .le (6), 3) := by decide +kernel
theorem d_Schema_declare_20 : decode b_Schema_declare 20 = .ok (.bipush (-4), 2) := by decide +kernel
theorem d_Schema_declare_22 : decode b_Schema_declare 22 = .ok (.ireturn, 1) := by decide +kernel
theorem d_Schema_declare_23 : decode b_Schema_declare 23 = .ok (.aload_n 0, 1) := by decide +kernel
theorem d_Schema_declare_24 : decode b_Schema_declare 24 = .ok (.iload_n 1, 1) := by decide +kernel
theorem d_Schema_declare_25 : decode b_Schema_declare 25 = .ok (.invokevirtual 29, 3) := by decide +kernel
theorem d_Schema_declare_28 : decode b_Schema_declare 28 = .ok (.iconst (-1), 1) := by decide +kernel
theorem d_Schema_declare_29 : decode b_Schema_declare 29 = .ok (.if_icmp .eq (6), 3) := by decide +kernel
theorem d_Schema_declare_32 : decode b_Schema_declare 32 = .ok (.bipush (-4), 2) := by decide +kernel
theorem d_Schema_declare_34 : decode b_Schema_declare 34 = .ok (.ireturn, 1) := by decide +kernel
theorem d_Schema_declare_35 : decode b_Schema_declare 35 = .ok (.aload_n 0, 1) := by decide +kernel
theorem d_Schema_declare_36 : decode b_Schema_declare 36 = .ok (.getfield 25, 3) := by decide +kernel
theorem d_Schema_declare_39 : decode b_Schema_declare 39 = .ok (.iconst 4, 1) := by decide +kernel
theorem d_Schema_declare_40 : decode b_Schema_declare 40 = .ok (.if_icmp .lt (6), 3) := by decide +kernel
theorem d_Schema_declare_43 : decode b_Schema_declare 43 = .ok (.bipush (-5), 2) := by decide +kernel
theorem d_Schema_declare_45 : decode b_Schema_declare 45 = .ok (.ireturn, 1) := by decide +kernel
theorem d_Schema_declare_46 : decode b_Schema_declare 46 = .ok (.aload_n 0, 1) := by decide +kernel
theorem d_Schema_declare_47 : decode b_Schema_declare 47 = .ok (.getfield 11, 3) := by decide +kernel
theorem d_Schema_declare_50 : decode b_Schema_declare 50 = .ok (.aload_n 0, 1) := by decide +kernel
theorem d_Schema_declare_51 : decode b_Schema_declare 51 = .ok (.getfield 25, 3) := by decide +kernel
theorem d_Schema_declare_54 : decode b_Schema_declare 54 = .ok (.iload_n 1, 1) := by decide +kernel
theorem d_Schema_declare_55 : decode b_Schema_declare 55 = .ok (.iastore, 1) := by decide +kernel
theorem d_Schema_declare_56 : decode b_Schema_declare 56 = .ok (.aload_n 0, 1) := by decide +kernel
theorem d_Schema_declare_57 : decode b_Schema_declare 57 = .ok (.getfield 15, 3) := by decide +kernel
theorem d_Schema_declare_60 : decode b_Schema_declare 60 = .ok (.aload_n 0, 1) := by decide +kernel
theorem d_Schema_declare_61 : decode b_Schema_declare 61 = .ok (.getfield 25, 3) := by decide +kernel
theorem d_Schema_declare_64 : decode b_Schema_declare 64 = .ok (.iload_n 2, 1) := by decide +kernel
theorem d_Schema_declare_65 : decode b_Schema_declare 65 = .ok (.iastore, 1) := by decide +kernel
theorem d_Schema_declare_66 : decode b_Schema_declare 66 = .ok (.aload_n 0, 1) := by decide +kernel
theorem d_Schema_declare_67 : decode b_Schema_declare 67 = .ok (.getfield 18, 3) := by decide +kernel
theorem d_Schema_declare_70 : decode b_Schema_declare 70 = .ok (.aload_n 0, 1) := by decide +kernel
theorem d_Schema_declare_71 : decode b_Schema_declare 71 = .ok (.getfield 25, 3) := by decide +kernel
theorem d_Schema_declare_74 : decode b_Schema_declare 74 = .ok (.bipush 8, 2) := by decide +kernel
theorem d_Schema_declare_76 : decode b_Schema_declare 76 = .ok (.iload_n 1, 1) := by decide +kernel
theorem d_Schema_declare_77 : decode b_Schema_declare 77 = .ok (.imul, 1) := by decide +kernel
theorem d_Schema_declare_78 : decode b_Schema_declare 78 = .ok (.iload_n 2, 1) := by decide +kernel
theorem d_Schema_declare_79 : decode b_Schema_declare 79 = .ok (.iconst 2, 1) := by decide +kernel
theorem d_Schema_declare_80 : decode b_Schema_declare 80 = .ok (.if_icmp .ne (7), 3) := by decide +kernel
theorem d_Schema_declare_83 : decode b_Schema_declare 83 = .ok (.iconst 5, 1) := by decide +kernel
theorem d_Schema_declare_84 : decode b_Schema_declare 84 = .ok (.goto (4), 3) := by decide +kernel
theorem d_Schema_declare_87 : decode b_Schema_declare 87 = .ok (.iconst 0, 1) := by decide +kernel
theorem d_Schema_declare_88 : decode b_Schema_declare 88 = .ok (.iadd, 1) := by decide +kernel
theorem d_Schema_declare_89 : decode b_Schema_declare 89 = .ok (.iastore, 1) := by decide +kernel
theorem d_Schema_declare_90 : decode b_Schema_declare 90 = .ok (.aload_n 0, 1) := by decide +kernel
theorem d_Schema_declare_91 : decode b_Schema_declare 91 = .ok (.getfield 21, 3) := by decide +kernel
theorem d_Schema_declare_94 : decode b_Schema_declare 94 = .ok (.aload_n 0, 1) := by decide +kernel
theorem d_Schema_declare_95 : decode b_Schema_declare 95 = .ok (.getfield 25, 3) := by decide +kernel
theorem d_Schema_declare_98 : decode b_Schema_declare 98 = .ok (.iload_n 3, 1) := by decide +kernel
theorem d_Schema_declare_99 : decode b_Schema_declare 99 = .ok (.bastore, 1) := by decide +kernel
theorem d_Schema_declare_100 : decode b_Schema_declare 100 = .ok (.aload_n 0, 1) := by decide +kernel
theorem d_Schema_declare_101 : decode b_Schema_declare 101 = .ok (.dup, 1) := by decide +kernel
theorem d_Schema_declare_102 : decode b_Schema_declare 102 = .ok (.getfield 25, 3) := by decide +kernel
theorem d_Schema_declare_105 : decode b_Schema_declare 105 = .ok (.iconst 1, 1) := by decide +kernel
theorem d_Schema_declare_106 : decode b_Schema_declare 106 = .ok (.iadd, 1) := by decide +kernel
theorem d_Schema_declare_107 : decode b_Schema_declare 107 = .ok (.putfield 25, 3) := by decide +kernel
theorem d_Schema_declare_110 : decode b_Schema_declare 110 = .ok (.aload_n 0, 1) := by decide +kernel
theorem d_Schema_declare_111 : decode b_Schema_declare 111 = .ok (.getfield 25, 3) := by decide +kernel
theorem d_Schema_declare_114 : decode b_Schema_declare 114 = .ok (.iconst 1, 1) := by decide +kernel
theorem d_Schema_declare_115 : decode b_Schema_declare 115 = .ok (.isub, 1) := by decide +kernel
theorem d_Schema_declare_116 : decode b_Schema_declare 116 = .ok (.ireturn, 1) := by decide +kernel
theorem d_Schema_indexOf_0 : decode b_Schema_indexOf 0 = .ok (.iconst 0, 1) := by decide +kernel
theorem d_Schema_indexOf_1 : decode b_Schema_indexOf 1 = .ok (.istore_n 2, 1) := by decide +kernel
theorem d_Schema_indexOf_2 : decode b_Schema_indexOf 2 = .ok (.iload_n 2, 1) := by decide +kernel
theorem d_Schema_indexOf_3 : decode b_Schema_indexOf 3 = .ok (.aload_n 0, 1) := by decide +kernel
theorem d_Schema_indexOf_4 : decode b_Schema_indexOf 4 = .ok (.getfield 25, 3) := by decide +kernel
theorem d_Schema_indexOf_7 : decode b_Schema_indexOf 7 = .ok (.if_icmp .ge (21), 3) := by decide +kernel
theorem d_Schema_indexOf_10 : decode b_Schema_indexOf 10 = .ok (.aload_n 0, 1) := by decide +kernel
theorem d_Schema_indexOf_11 : decode b_Schema_indexOf 11 = .ok (.getfield 11, 3) := by decide +kernel
theorem d_Schema_indexOf_14 : decode b_Schema_indexOf 14 = .ok (.iload_n 2, 1) := by decide +kernel
theorem d_Schema_indexOf_15 : decode b_Schema_indexOf 15 = .ok (.iaload, 1) := by decide +kernel
theorem d_Schema_indexOf_16 : decode b_Schema_indexOf 16 = .ok (.iload_n 1, 1) := by decide +kernel
theorem d_Schema_indexOf_17 : decode b_Schema_indexOf 17 = .ok (.if_icmp .ne (5), 3) := by decide +kernel
theorem d_Schema_indexOf_20 : decode b_Schema_indexOf 20 = .ok (.iload_n 2, 1) := by decide +kernel
theorem d_Schema_indexOf_21 : decode b_Schema_indexOf 21 = .ok (.ireturn, 1) := by decide +kernel
theorem d_Schema_indexOf_22 : decode b_Schema_indexOf 22 = .ok (.iinc 2 (1), 3) := by decide +kernel
theorem d_Schema_indexOf_25 : decode b_Schema_indexOf 25 = .ok (.goto (-23), 3) := by decide +kernel
theorem d_Schema_indexOf_28 : decode b_Schema_indexOf 28 = .ok (.iconst (-1), 1) := by decide +kernel
theorem d_Schema_indexOf_29 : decode b_Schema_indexOf 29 = .ok (.ireturn, 1) := by decide +kernel
theorem d_Schema_has_0 : decode b_Schema_has 0 = .ok (.iload_n 1, 1) := by decide +kernel
theorem d_Schema_has_1 : decode b_Schema_has 1 = .ok (.ifCond .lt (15), 3) := by decide +kernel
theorem d_Schema_has_4 : decode b_Schema_has 4 = .ok (.iload_n 1, 1) := by decide +kernel
theorem d_Schema_has_5 : decode b_Schema_has 5 = .ok (.aload_n 0, 1) := by decide +kernel
theorem d_Schema_has_6 : decode b_Schema_has 6 = .ok (.getfield 25, 3) := by decide +kernel
theorem d_Schema_has_9 : decode b_Schema_has 9 = .ok (.if_icmp .ge (7), 3) := by decide +kernel
theorem d_Schema_has_12 : decode b_Schema_has 12 = .ok (.iconst 1, 1) := by decide +kernel
theorem d_Schema_has_13 : decode b_Schema_has 13 = .ok (.goto (4), 3) := by decide +kernel
theorem d_Schema_has_16 : decode b_Schema_has 16 = .ok (.iconst 0, 1) := by decide +kernel
theorem d_Schema_has_17 : decode b_Schema_has 17 = .ok (.ireturn, 1) := by decide +kernel
theorem d_Schema_kindOf_0 : decode b_Schema_kindOf 0 = .ok (.aload_n 0, 1) := by decide +kernel
theorem d_Schema_kindOf_1 : decode b_Schema_kindOf 1 = .ok (.iload_n 1, 1) := by decide +kernel
theorem d_Schema_kindOf_2 : decode b_Schema_kindOf 2 = .ok (.invokevirtual 33, 3) := by decide +kernel
theorem d_Schema_kindOf_5 : decode b_Schema_kindOf 5 = .ok (.ifCond .eq (12), 3) := by decide +kernel
theorem d_Schema_kindOf_8 : decode b_Schema_kindOf 8 = .ok (.aload_n 0, 1) := by decide +kernel
theorem d_Schema_kindOf_9 : decode b_Schema_kindOf 9 = .ok (.getfield 15, 3) := by decide +kernel
theorem d_Schema_kindOf_12 : decode b_Schema_kindOf 12 = .ok (.iload_n 1, 1) := by decide +kernel
theorem d_Schema_kindOf_13 : decode b_Schema_kindOf 13 = .ok (.iaload, 1) := by decide +kernel
theorem d_Schema_kindOf_14 : decode b_Schema_kindOf 14 = .ok (.goto (4), 3) := by decide +kernel
theorem d_Schema_kindOf_17 : decode b_Schema_kindOf 17 = .ok (.iconst 0, 1) := by decide +kernel
theorem d_Schema_kindOf_18 : decode b_Schema_kindOf 18 = .ok (.ireturn, 1) := by decide +kernel
theorem d_Schema_isRepeated_0 : decode b_Schema_isRepeated 0 = .ok (.aload_n 0, 1) := by decide +kernel
theorem d_Schema_isRepeated_1 : decode b_Schema_isRepeated 1 = .ok (.iload_n 1, 1) := by decide +kernel
theorem d_Schema_isRepeated_2 : decode b_Schema_isRepeated 2 = .ok (.invokevirtual 33, 3) := by decide +kernel
theorem d_Schema_isRepeated_5 : decode b_Schema_isRepeated 5 = .ok (.ifCond .eq (16), 3) := by decide +kernel
theorem d_Schema_isRepeated_8 : decode b_Schema_isRepeated 8 = .ok (.aload_n 0, 1) := by decide +kernel
theorem d_Schema_isRepeated_9 : decode b_Schema_isRepeated 9 = .ok (.getfield 21, 3) := by decide +kernel
theorem d_Schema_isRepeated_12 : decode b_Schema_isRepeated 12 = .ok (.iload_n 1, 1) := by decide +kernel
theorem d_Schema_isRepeated_13 : decode b_Schema_isRepeated 13 = .ok (.baload, 1) := by decide +kernel
theorem d_Schema_isRepeated_14 : decode b_Schema_isRepeated 14 = .ok (.ifCond .eq (7), 3) := by decide +kernel
theorem d_Schema_isRepeated_17 : decode b_Schema_isRepeated 17 = .ok (.iconst 1, 1) := by decide +kernel
theorem d_Schema_isRepeated_18 : decode b_Schema_isRepeated 18 = .ok (.goto (4), 3) := by decide +kernel
theorem d_Schema_isRepeated_21 : decode b_Schema_isRepeated 21 = .ok (.iconst 0, 1) := by decide +kernel
theorem d_Schema_isRepeated_22 : decode b_Schema_isRepeated 22 = .ok (.ireturn, 1) := by decide +kernel
theorem d_Schema_keyOf_0 : decode b_Schema_keyOf 0 = .ok (.aload_n 0, 1) := by decide +kernel
theorem d_Schema_keyOf_1 : decode b_Schema_keyOf 1 = .ok (.iload_n 1, 1) := by decide +kernel
theorem d_Schema_keyOf_2 : decode b_Schema_keyOf 2 = .ok (.invokevirtual 33, 3) := by decide +kernel
theorem d_Schema_keyOf_5 : decode b_Schema_keyOf 5 = .ok (.ifCond .eq (12), 3) := by decide +kernel
theorem d_Schema_keyOf_8 : decode b_Schema_keyOf 8 = .ok (.aload_n 0, 1) := by decide +kernel
theorem d_Schema_keyOf_9 : decode b_Schema_keyOf 9 = .ok (.getfield 18, 3) := by decide +kernel
theorem d_Schema_keyOf_12 : decode b_Schema_keyOf 12 = .ok (.iload_n 1, 1) := by decide +kernel
theorem d_Schema_keyOf_13 : decode b_Schema_keyOf 13 = .ok (.iaload, 1) := by decide +kernel
theorem d_Schema_keyOf_14 : decode b_Schema_keyOf 14 = .ok (.goto (4), 3) := by decide +kernel
theorem d_Schema_keyOf_17 : decode b_Schema_keyOf 17 = .ok (.iconst 0, 1) := by decide +kernel
theorem d_Schema_keyOf_18 : decode b_Schema_keyOf 18 = .ok (.ireturn, 1) := by decide +kernel
theorem d_Schema_allows_0 : decode b_Schema_allows 0 = .ok (.aload_n 0, 1) := by decide +kernel
theorem d_Schema_allows_1 : decode b_Schema_allows 1 = .ok (.iload_n 1, 1) := by decide +kernel
theorem d_Schema_allows_2 : decode b_Schema_allows 2 = .ok (.invokevirtual 37, 3) := by decide +kernel
theorem d_Schema_allows_5 : decode b_Schema_allows 5 = .ok (.iconst 3, 1) := by decide +kernel
theorem d_Schema_allows_6 : decode b_Schema_allows 6 = .ok (.if_icmp .ne (12), 3) := by decide +kernel
theorem d_Schema_allows_9 : decode b_Schema_allows 9 = .ok (.iload_n 2, 1) := by decide +kernel
theorem d_Schema_allows_10 : decode b_Schema_allows 10 = .ok (.ifCond .eq (8), 3) := by decide +kernel
theorem d_Schema_allows_13 : decode b_Schema_allows 13 = .ok (.iload_n 2, 1) := by decide +kernel
theorem d_Schema_allows_14 : decode b_Schema_allows 14 = .ok (.iconst 1, 1) := by decide +kernel
theorem d_Schema_allows_15 : decode b_Schema_allows 15 = .ok (.if_icmp .ne (7), 3) := by decide +kernel
theorem d_Schema_allows_18 : decode b_Schema_allows 18 = .ok (.iconst 1, 1) := by decide +kernel
theorem d_Schema_allows_19 : decode b_Schema_allows 19 = .ok (.goto (4), 3) := by decide +kernel
theorem d_Schema_allows_22 : decode b_Schema_allows 22 = .ok (.iconst 0, 1) := by decide +kernel
theorem d_Schema_allows_23 : decode b_Schema_allows 23 = .ok (.ireturn, 1) := by decide +kernel
theorem d_Server_init_0 : decode b_Server_init 0 = .ok (.aload_n 0, 1) := by decide +kernel
theorem d_Server_init_1 : decode b_Server_init 1 = .ok (.invokespecial 3, 3) := by decide +kernel
theorem d_Server_init_4 : decode b_Server_init 4 = .ok (.aload_n 0, 1) := by decide +kernel
theorem d_Server_init_5 : decode b_Server_init 5 = .ok (.new 9, 3) := by decide +kernel
theorem d_Server_init_8 : decode b_Server_init 8 = .ok (.dup, 1) := by decide +kernel
theorem d_Server_init_9 : decode b_Server_init 9 = .ok (.sipush 200, 3) := by decide +kernel
theorem d_Server_init_12 : decode b_Server_init 12 = .ok (.invokespecial 11, 3) := by decide +kernel
theorem d_Server_init_15 : decode b_Server_init 15 = .ok (.putfield 14, 3) := by decide +kernel
theorem d_Server_init_18 : decode b_Server_init 18 = .ok (.aload_n 0, 1) := by decide +kernel
theorem d_Server_init_19 : decode b_Server_init 19 = .ok (.new 20, 3) := by decide +kernel
theorem d_Server_init_22 : decode b_Server_init 22 = .ok (.dup, 1) := by decide +kernel
theorem d_Server_init_23 : decode b_Server_init 23 = .ok (.aload_n 0, 1) := by decide +kernel
theorem d_Server_init_24 : decode b_Server_init 24 = .ok (.getfield 14, 3) := by decide +kernel
theorem d_Server_init_27 : decode b_Server_init 27 = .ok (.invokespecial 22, 3) := by decide +kernel
theorem d_Server_init_30 : decode b_Server_init 30 = .ok (.putfield 25, 3) := by decide +kernel
theorem d_Server_init_33 : decode b_Server_init 33 = .ok (.aload_n 0, 1) := by decide +kernel
theorem d_Server_init_34 : decode b_Server_init 34 = .ok (.iconst 4, 1) := by decide +kernel
theorem d_Server_init_35 : decode b_Server_init 35 = .ok (.newarray .int, 2) := by decide +kernel
theorem d_Server_init_37 : decode b_Server_init 37 = .ok (.putfield 29, 3) := by decide +kernel
theorem d_Server_init_40 : decode b_Server_init 40 = .ok (.aload_n 0, 1) := by decide +kernel
theorem d_Server_init_41 : decode b_Server_init 41 = .ok (.iconst 4, 1) := by decide +kernel
theorem d_Server_init_42 : decode b_Server_init 42 = .ok (.anewarray 9, 3) := by decide +kernel
theorem d_Server_init_45 : decode b_Server_init 45 = .ok (.putfield 33, 3) := by decide +kernel
theorem d_Server_init_48 : decode b_Server_init 48 = .ok (.aload_n 0, 1) := by decide +kernel
theorem d_Server_init_49 : decode b_Server_init 49 = .ok (.iconst 0, 1) := by decide +kernel
theorem d_Server_init_50 : decode b_Server_init 50 = .ok (.putfield 37, 3) := by decide +kernel
theorem d_Server_init_53 : decode b_Server_init 53 = .ok (.aload_n 0, 1) := by decide +kernel
theorem d_Server_init_54 : decode b_Server_init 54 = .ok (.iconst 0, 1) := by decide +kernel
theorem d_Server_init_55 : decode b_Server_init 55 = .ok (.putfield 41, 3) := by decide +kernel
theorem d_Server_init_58 : decode b_Server_init 58 = .ok (.aload_n 0, 1) := by decide +kernel
theorem d_Server_init_59 : decode b_Server_init 59 = .ok (.iconst 0, 1) := by decide +kernel
theorem d_Server_init_60 : decode b_Server_init 60 = .ok (.putfield 44, 3) := by decide +kernel
theorem d_Server_init_63 : decode b_Server_init 63 = .ok (.aload_n 0, 1) := by decide +kernel
theorem d_Server_init_64 : decode b_Server_init 64 = .ok (.iconst 0, 1) := by decide +kernel
theorem d_Server_init_65 : decode b_Server_init 65 = .ok (.putfield 47, 3) := by decide +kernel
theorem d_Server_init_68 : decode b_Server_init 68 = .ok (.aload_n 0, 1) := by decide +kernel
theorem d_Server_init_69 : decode b_Server_init 69 = .ok (.aload_n 1, 1) := by decide +kernel
theorem d_Server_init_70 : decode b_Server_init 70 = .ok (.putfield 50, 3) := by decide +kernel
theorem d_Server_init_73 : decode b_Server_init 73 = .ok (.aload_n 0, 1) := by decide +kernel
theorem d_Server_init_74 : decode b_Server_init 74 = .ok (.aload_n 2, 1) := by decide +kernel
theorem d_Server_init_75 : decode b_Server_init 75 = .ok (.putfield 54, 3) := by decide +kernel
theorem d_Server_init_78 : decode b_Server_init 78 = .ok (.aload_n 0, 1) := by decide +kernel
theorem d_Server_init_79 : decode b_Server_init 79 = .ok (.aload_n 3, 1) := by decide +kernel
theorem d_Server_init_80 : decode b_Server_init 80 = .ok (.putfield 58, 3) := by decide +kernel
theorem d_Server_init_83 : decode b_Server_init 83 = .ok (.iconst 0, 1) := by decide +kernel
theorem d_Server_init_84 : decode b_Server_init 84 = .ok (.istore 4, 2) := by decide +kernel
theorem d_Server_init_86 : decode b_Server_init 86 = .ok (.iload 4, 2) := by decide +kernel
theorem d_Server_init_88 : decode b_Server_init 88 = .ok (.aload_n 0, 1) := by decide +kernel
theorem d_Server_init_89 : decode b_Server_init 89 = .ok (.getfield 33, 3) := by decide +kernel
theorem d_Server_init_92 : decode b_Server_init 92 = .ok (.arraylength, 1) := by decide +kernel
theorem d_Server_init_93 : decode b_Server_init 93 = .ok (.if_icmp .ge (25), 3) := by decide +kernel
theorem d_Server_init_96 : decode b_Server_init 96 = .ok (.aload_n 0, 1) := by decide +kernel
theorem d_Server_init_97 : decode b_Server_init 97 = .ok (.getfield 33, 3) := by decide +kernel
theorem d_Server_init_100 : decode b_Server_init 100 = .ok (.iload 4, 2) := by decide +kernel
theorem d_Server_init_102 : decode b_Server_init 102 = .ok (.new 9, 3) := by decide +kernel
theorem d_Server_init_105 : decode b_Server_init 105 = .ok (.dup, 1) := by decide +kernel
theorem d_Server_init_106 : decode b_Server_init 106 = .ok (.bipush 20, 2) := by decide +kernel
theorem d_Server_init_108 : decode b_Server_init 108 = .ok (.invokespecial 11, 3) := by decide +kernel
theorem d_Server_init_111 : decode b_Server_init 111 = .ok (.aastore, 1) := by decide +kernel
theorem d_Server_init_112 : decode b_Server_init 112 = .ok (.iinc 4 (1), 3) := by decide +kernel
theorem d_Server_init_115 : decode b_Server_init 115 = .ok (.goto (-29), 3) := by decide +kernel
theorem d_Server_init_118 : decode b_Server_init 118 = .ok (.return_, 1) := by decide +kernel
theorem d_Server_receive_0 : decode b_Server_receive 0 = .ok (.aload_n 1, 1) := by decide +kernel
theorem d_Server_receive_1 : decode b_Server_receive 1 = .ok (.aload_n 0, 1) := by decide +kernel
theorem d_Server_receive_2 : decode b_Server_receive 2 = .ok (.getfield 14, 3) := by decide +kernel
theorem d_Server_receive_5 : decode b_Server_receive 5 = .ok (.invokestatic 62, 3) := by decide +kernel
theorem d_Server_receive_8 : decode b_Server_receive 8 = .ok (.ifCond .eq (15), 3) := by decide +kernel
theorem d_Server_receive_11 : decode b_Server_receive 11 = .ok (.aload_n 0, 1) := by decide +kernel
theorem d_Server_receive_12 : decode b_Server_receive 12 = .ok (.getfield 14, 3) := by decide +kernel
theorem d_Server_receive_15 : decode b_Server_receive 15 = .ok (.getfield 68, 3) := by decide +kernel
theorem d_Server_receive_18 : decode b_Server_receive 18 = .ok (.bipush 12, 2) := by decide +kernel
theorem d_Server_receive_20 : decode b_Server_receive 20 = .ok (.if_icmp .ge (6), 3) := by decide +kernel
theorem d_Server_receive_23 : decode b_Server_receive 23 = .ok (.bipush (-2), 2) := by decide +kernel
theorem d_Server_receive_25 : decode b_Server_receive 25 = .ok (.ireturn, 1) := by decide +kernel
theorem d_Server_receive_26 : decode b_Server_receive 26 = .ok (.aload_n 0, 1) := by decide +kernel
theorem d_Server_receive_27 : decode b_Server_receive 27 = .ok (.getfield 14, 3) := by decide +kernel
theorem d_Server_receive_30 : decode b_Server_receive 30 = .ok (.iconst 4, 1) := by decide +kernel
theorem d_Server_receive_31 : decode b_Server_receive 31 = .ok (.invokevirtual 71, 3) := by decide +kernel
theorem d_Server_receive_34 : decode b_Server_receive 34 = .ok (.ifCond .eq (6), 3) := by decide +kernel
theorem d_Server_receive_37 : decode b_Server_receive 37 = .ok (.bipush (-3), 2) := by decide +kernel
theorem d_Server_receive_39 : decode b_Server_receive 39 = .ok (.ireturn, 1) := by decide +kernel
theorem d_Server_receive_40 : decode b_Server_receive 40 = .ok (.aload_n 0, 1) := by decide +kernel
theorem d_Server_receive_41 : decode b_Server_receive 41 = .ok (.getfield 14, 3) := by decide +kernel
theorem d_Server_receive_44 : decode b_Server_receive 44 = .ok (.iconst 0, 1) := by decide +kernel
theorem d_Server_receive_45 : decode b_Server_receive 45 = .ok (.invokevirtual 71, 3) := by decide +kernel
theorem d_Server_receive_48 : decode b_Server_receive 48 = .ok (.istore_n 2, 1) := by decide +kernel
theorem d_Server_receive_49 : decode b_Server_receive 49 = .ok (.iconst 0, 1) := by decide +kernel
theorem d_Server_receive_50 : decode b_Server_receive 50 = .ok (.istore_n 3, 1) := by decide +kernel
theorem d_Server_receive_51 : decode b_Server_receive 51 = .ok (.iload_n 3, 1) := by decide +kernel
theorem d_Server_receive_52 : decode b_Server_receive 52 = .ok (.aload_n 0, 1) := by decide +kernel
theorem d_Server_receive_53 : decode b_Server_receive 53 = .ok (.getfield 37, 3) := by decide +kernel
theorem d_Server_receive_56 : decode b_Server_receive 56 = .ok (.if_icmp .ge (35), 3) := by decide +kernel
theorem d_Server_receive_59 : decode b_Server_receive 59 = .ok (.aload_n 0, 1) := by decide +kernel
theorem d_Server_receive_60 : decode b_Server_receive 60 = .ok (.getfield 29, 3) := by decide +kernel
theorem d_Server_receive_63 : decode b_Server_receive 63 = .ok (.iload_n 3, 1) := by decide +kernel
theorem d_Server_receive_64 : decode b_Server_receive 64 = .ok (.iaload, 1) := by decide +kernel
theorem d_Server_receive_65 : decode b_Server_receive 65 = .ok (.iload_n 2, 1) := by decide +kernel
theorem d_Server_receive_66 : decode b_Server_receive 66 = .ok (.if_icmp .ne (19), 3) := by decide +kernel
theorem d_Server_receive_69 : decode b_Server_receive 69 = .ok (.aload_n 0, 1) := by decide +kernel
theorem d_Server_receive_70 : decode b_Server_receive 70 = .ok (.getfield 50, 3) := by decide +kernel
theorem d_Server_receive_73 : decode b_Server_receive 73 = .ok (.aload_n 0, 1) := by decide +kernel
theorem d_Server_receive_74 : decode b_Server_receive 74 = .ok (.getfield 33, 3) := by decide +kernel
theorem d_Server_receive_77 : decode b_Server_receive 77 = .ok (.iload_n 3, 1) := by decide +kernel
theorem d_Server_receive_78 : decode b_Server_receive 78 = .ok (.aaload, 1) := by decide +kernel
theorem d_Server_receive_79 : decode b_Server_receive 79 = .ok (.iconst 0, 1) := by decide +kernel
theorem d_Server_receive_80 : decode b_Server_receive 80 = .ok (.invokevirtual 75, 3) := by decide +kernel
theorem d_Server_receive_83 : decode b_Server_receive 83 = .ok (.iconst 1, 1) := by decide +kernel
theorem d_Server_receive_84 : decode b_Server_receive 84 = .ok (.ireturn, 1) := by decide +kernel
theorem d_Server_receive_85 : decode b_Server_receive 85 = .ok (.iinc 3 (1), 3) := by decide +kernel
theorem d_Server_receive_88 : decode b_Server_receive 88 = .ok (.goto (-37), 3) := by decide +kernel
theorem d_Server_receive_91 : decode b_Server_receive 91 = .ok (.aload_n 0, 1) := by decide +kernel
theorem d_Server_receive_92 : decode b_Server_receive 92 = .ok (.iload_n 2, 1) := by decide +kernel
theorem d_Server_receive_93 : decode b_Server_receive 93 = .ok (.aload_n 0, 1) := by decide +kernel
theorem d_Server_receive_94 : decode b_Server_receive 94 = .ok (.getfield 14, 3) := by decide +kernel
theorem d_Server_receive_97 : decode b_Server_receive 97 = .ok (.bipush 8, 2) := by decide +kernel
theorem d_Server_receive_99 : decode b_Server_receive 99 = .ok (.invokevirtual 71, 3) := by decide +kernel
theorem d_Server_receive_102 : decode b_Server_receive 102 = .ok (.invokevirtual 81, 3) := by decide +kernel
theorem d_Server_receive_105 : decode b_Server_receive 105 = .ok (.ireturn, 1) := by decide +kernel
theorem d_Server_answer_0 : decode b_Server_answer 0 = .ok (.iload_n 2, 1) := by decide +kernel
theorem d_Server_answer_1 : decode b_Server_answer 1 = .ok (.ifCond .lt (8), 3) := by decide +kernel
theorem d_Server_answer_4 : decode b_Server_answer 4 = .ok (.iload_n 2, 1) := by decide +kernel
theorem d_Server_answer_5 : decode b_Server_answer 5 = .ok (.iconst 3, 1) := by decide +kernel
theorem d_Server_answer_6 : decode b_Server_answer 6 = .ok (.if_icmp .le (12), 3) := by decide +kernel
theorem d_Server_answer_9 : decode b_Server_answer 9 = .ok (.aload_n 0, 1) := by decide +kernel
theorem d_Server_answer_10 : decode b_Server_answer 10 = .ok (.iload_n 1, 1) := by decide +kernel
theorem d_Server_answer_11 : decode b_Server_answer 11 = .ok (.iconst 1, 1) := by decide +kernel
theorem d_Server_answer_12 : decode b_Server_answer 12 = .ok (.iconst 0, 1) := by decide +kernel
theorem d_Server_answer_13 : decode b_Server_answer 13 = .ok (.invokevirtual 85, 3) := by decide +kernel
theorem d_Server_answer_16 : decode b_Server_answer 16 = .ok (.iconst 2, 1) := by decide +kernel
theorem d_Server_answer_17 : decode b_Server_answer 17 = .ok (.ireturn, 1) := by decide +kernel
theorem d_Server_answer_18 : decode b_Server_answer 18 = .ok (.aload_n 0, 1) := by decide +kernel
theorem d_Server_answer_19 : decode b_Server_answer 19 = .ok (.getfield 25, 3) := by decide +kernel
theorem d_Server_answer_22 : decode b_Server_answer 22 = .ok (.bipush 12, 2) := by decide +kernel
theorem d_Server_answer_24 : decode b_Server_answer 24 = .ok (.invokevirtual 89, 3) := by decide +kernel
theorem d_Server_answer_27 : decode b_Server_answer 27 = .ok (.aload_n 0, 1) := by decide +kernel
theorem d_Server_answer_28 : decode b_Server_answer 28 = .ok (.getfield 54, 3) := by decide +kernel
theorem d_Server_answer_31 : decode b_Server_answer 31 = .ok (.aload_n 0, 1) := by decide +kernel
theorem d_Server_answer_32 : decode b_Server_answer 32 = .ok (.getfield 25, 3) := by decide +kernel
theorem d_Server_answer_35 : decode b_Server_answer 35 = .ok (.aload_n 0, 1) := by decide +kernel
theorem d_Server_answer_36 : decode b_Server_answer 36 = .ok (.getfield 58, 3) := by decide +kernel
theorem d_Server_answer_39 : decode b_Server_answer 39 = .ok (.invokevirtual 92, 3) := by decide +kernel
theorem d_Server_answer_42 : decode b_Server_answer 42 = .ok (.ifCond .ne (12), 3) := by decide +kernel
theorem d_Server_answer_45 : decode b_Server_answer 45 = .ok (.aload_n 0, 1) := by decide +kernel
theorem d_Server_answer_46 : decode b_Server_answer 46 = .ok (.iload_n 1, 1) := by decide +kernel
theorem d_Server_answer_47 : decode b_Server_answer 47 = .ok (.iconst 2, 1) := by decide +kernel
theorem d_Server_answer_48 : decode b_Server_answer 48 = .ok (.iconst 0, 1) := by decide +kernel
theorem d_Server_answer_49 : decode b_Server_answer 49 = .ok (.invokevirtual 85, 3) := by decide +kernel
theorem d_Server_answer_52 : decode b_Server_answer 52 = .ok (.iconst 3, 1) := by decide +kernel
theorem d_Server_answer_53 : decode b_Server_answer 53 = .ok (.ireturn, 1) := by decide +kernel
theorem d_Server_answer_54 : decode b_Server_answer 54 = .ok (.aload_n 0, 1) := by decide +kernel
theorem d_Server_answer_55 : decode b_Server_answer 55 = .ok (.iload_n 1, 1) := by decide +kernel
theorem d_Server_answer_56 : decode b_Server_answer 56 = .ok (.iconst 0, 1) := by decide +kernel
theorem d_Server_answer_57 : decode b_Server_answer 57 = .ok (.aload_n 0, 1) := by decide +kernel
theorem d_Server_answer_58 : decode b_Server_answer 58 = .ok (.iload_n 2, 1) := by decide +kernel
theorem d_Server_answer_59 : decode b_Server_answer 59 = .ok (.aload_n 0, 1) := by decide +kernel
theorem d_Server_answer_60 : decode b_Server_answer 60 = .ok (.getfield 58, 3) := by decide +kernel
theorem d_Server_answer_63 : decode b_Server_answer 63 = .ok (.invokevirtual 98, 3) := by decide +kernel
theorem d_Server_answer_66 : decode b_Server_answer 66 = .ok (.invokevirtual 104, 3) := by decide +kernel
theorem d_Server_answer_69 : decode b_Server_answer 69 = .ok (.invokevirtual 85, 3) := by decide +kernel
theorem d_Server_answer_72 : decode b_Server_answer 72 = .ok (.iconst 0, 1) := by decide +kernel
theorem d_Server_answer_73 : decode b_Server_answer 73 = .ok (.ireturn, 1) := by decide +kernel
theorem d_Server_run_0 : decode b_Server_run 0 = .ok (.aload_n 0, 1) := by decide +kernel
theorem d_Server_run_1 : decode b_Server_run 1 = .ok (.dup, 1) := by decide +kernel
theorem d_Server_run_2 : decode b_Server_run 2 = .ok (.getfield 47, 3) := by decide +kernel
theorem d_Server_run_5 : decode b_Server_run 5 = .ok (.iconst 1, 1) := by decide +kernel
theorem d_Server_run_6 : decode b_Server_run 6 = .ok (.iadd, 1) := by decide +kernel
theorem d_Server_run_7 : decode b_Server_run 7 = .ok (.putfield 47, 3) := by decide +kernel
theorem d_Server_run_10 : decode b_Server_run 10 = .ok (.aload_n 0, 1) := by decide +kernel
theorem d_Server_run_11 : decode b_Server_run 11 = .ok (.getfield 44, 3) := by decide +kernel
theorem d_Server_run_14 : decode b_Server_run 14 = .ok (.istore_n 3, 1) := by decide +kernel
theorem d_Server_run_15 : decode b_Server_run 15 = .ok (.iload_n 1, 1) := by decide +kernel
theorem d_Server_run_16 : decode b_Server_run 16 = .ok (.tableswitch (55) (1) (3) #[(28), (43), (50)], 28) := by decide +kernel
theorem d_Server_run_44 : decode b_Server_run 44 = .ok (.aload_n 0, 1) := by decide +kernel
theorem d_Server_run_45 : decode b_Server_run 45 = .ok (.dup, 1) := by decide +kernel
theorem d_Server_run_46 : decode b_Server_run 46 = .ok (.getfield 44, 3) := by decide +kernel
theorem d_Server_run_49 : decode b_Server_run 49 = .ok (.iload_n 2, 1) := by decide +kernel
theorem d_Server_run_50 : decode b_Server_run 50 = .ok (.iadd, 1) := by decide +kernel
theorem d_Server_run_51 : decode b_Server_run 51 = .ok (.putfield 44, 3) := by decide +kernel
theorem d_Server_run_54 : decode b_Server_run 54 = .ok (.aload_n 0, 1) := by decide +kernel
theorem d_Server_run_55 : decode b_Server_run 55 = .ok (.getfield 44, 3) := by decide +kernel
theorem d_Server_run_58 : decode b_Server_run 58 = .ok (.ireturn, 1) := by decide +kernel
theorem d_Server_run_59 : decode b_Server_run 59 = .ok (.aload_n 0, 1) := by decide +kernel
theorem d_Server_run_60 : decode b_Server_run 60 = .ok (.iload_n 2, 1) := by decide +kernel
theorem d_Server_run_61 : decode b_Server_run 61 = .ok (.putfield 44, 3) := by decide +kernel
theorem d_Server_run_64 : decode b_Server_run 64 = .ok (.iload_n 3, 1) := by decide +kernel
theorem d_Server_run_65 : decode b_Server_run 65 = .ok (.ireturn, 1) := by decide +kernel
theorem d_Server_run_66 : decode b_Server_run 66 = .ok (.aload_n 0, 1) := by decide +kernel
theorem d_Server_run_67 : decode b_Server_run 67 = .ok (.getfield 44, 3) := by decide +kernel
theorem d_Server_run_70 : decode b_Server_run 70 = .ok (.ireturn, 1) := by decide +kernel
theorem d_Server_run_71 : decode b_Server_run 71 = .ok (.iconst 0, 1) := by decide +kernel
theorem d_Server_run_72 : decode b_Server_run 72 = .ok (.ireturn, 1) := by decide +kernel
theorem d_Server_reply_0 : decode b_Server_reply 0 = .ok (.aload_n 0, 1) := by decide +kernel
theorem d_Server_reply_1 : decode b_Server_reply 1 = .ok (.getfield 14, 3) := by decide +kernel
theorem d_Server_reply_4 : decode b_Server_reply 4 = .ok (.invokevirtual 107, 3) := by decide +kernel
theorem d_Server_reply_7 : decode b_Server_reply 7 = .ok (.aload_n 0, 1) := by decide +kernel
theorem d_Server_reply_8 : decode b_Server_reply 8 = .ok (.getfield 14, 3) := by decide +kernel
theorem d_Server_reply_11 : decode b_Server_reply 11 = .ok (.iload_n 1, 1) := by decide +kernel
theorem d_Server_reply_12 : decode b_Server_reply 12 = .ok (.invokevirtual 110, 3) := by decide +kernel
theorem d_Server_reply_15 : decode b_Server_reply 15 = .ok (.aload_n 0, 1) := by decide +kernel
theorem d_Server_reply_16 : decode b_Server_reply 16 = .ok (.getfield 14, 3) := by decide +kernel
theorem d_Server_reply_19 : decode b_Server_reply 19 = .ok (.iconst 1, 1) := by decide +kernel
theorem d_Server_reply_20 : decode b_Server_reply 20 = .ok (.invokevirtual 110, 3) := by decide +kernel
theorem d_Server_reply_23 : decode b_Server_reply 23 = .ok (.aload_n 0, 1) := by decide +kernel
theorem d_Server_reply_24 : decode b_Server_reply 24 = .ok (.getfield 14, 3) := by decide +kernel
theorem d_Server_reply_27 : decode b_Server_reply 27 = .ok (.iload_n 2, 1) := by decide +kernel
theorem d_Server_reply_28 : decode b_Server_reply 28 = .ok (.invokevirtual 110, 3) := by decide +kernel
theorem d_Server_reply_31 : decode b_Server_reply 31 = .ok (.iload_n 2, 1) := by decide +kernel
theorem d_Server_reply_32 : decode b_Server_reply 32 = .ok (.ifCond .ne (11), 3) := by decide +kernel
theorem d_Server_reply_35 : decode b_Server_reply 35 = .ok (.aload_n 0, 1) := by decide +kernel
theorem d_Server_reply_36 : decode b_Server_reply 36 = .ok (.getfield 14, 3) := by decide +kernel
theorem d_Server_reply_39 : decode b_Server_reply 39 = .ok (.iload_n 3, 1) := by decide +kernel
theorem d_Server_reply_40 : decode b_Server_reply 40 = .ok (.invokevirtual 110, 3) := by decide +kernel
theorem d_Server_reply_43 : decode b_Server_reply 43 = .ok (.aload_n 0, 1) := by decide +kernel
theorem d_Server_reply_44 : decode b_Server_reply 44 = .ok (.invokevirtual 113, 3) := by decide +kernel
theorem d_Server_reply_47 : decode b_Server_reply 47 = .ok (.istore 4, 2) := by decide +kernel
theorem d_Server_reply_49 : decode b_Server_reply 49 = .ok (.aload_n 0, 1) := by decide +kernel
theorem d_Server_reply_50 : decode b_Server_reply 50 = .ok (.getfield 29, 3) := by decide +kernel
theorem d_Server_reply_53 : decode b_Server_reply 53 = .ok (.iload 4, 2) := by decide +kernel
theorem d_Server_reply_55 : decode b_Server_reply 55 = .ok (.iload_n 1, 1) := by decide +kernel
theorem d_Server_reply_56 : decode b_Server_reply 56 = .ok (.iastore, 1) := by decide +kernel
theorem d_Server_reply_57 : decode b_Server_reply 57 = .ok (.aload_n 0, 1) := by decide +kernel
theorem d_Server_reply_58 : decode b_Server_reply 58 = .ok (.getfield 14, 3) := by decide +kernel
theorem d_Server_reply_61 : decode b_Server_reply 61 = .ok (.aload_n 0, 1) := by decide +kernel
theorem d_Server_reply_62 : decode b_Server_reply 62 = .ok (.getfield 33, 3) := by decide +kernel
theorem d_Server_reply_65 : decode b_Server_reply 65 = .ok (.iload 4, 2) := by decide +kernel
theorem d_Server_reply_67 : decode b_Server_reply 67 = .ok (.aaload, 1) := by decide +kernel
theorem d_Server_reply_68 : decode b_Server_reply 68 = .ok (.invokestatic 116, 3) := by decide +kernel
theorem d_Server_reply_71 : decode b_Server_reply 71 = .ok (.aload_n 0, 1) := by decide +kernel
theorem d_Server_reply_72 : decode b_Server_reply 72 = .ok (.getfield 50, 3) := by decide +kernel
theorem d_Server_reply_75 : decode b_Server_reply 75 = .ok (.aload_n 0, 1) := by decide +kernel
theorem d_Server_reply_76 : decode b_Server_reply 76 = .ok (.getfield 33, 3) := by decide +kernel
theorem d_Server_reply_79 : decode b_Server_reply 79 = .ok (.iload 4, 2) := by decide +kernel
theorem d_Server_reply_81 : decode b_Server_reply 81 = .ok (.aaload, 1) := by decide +kernel
theorem d_Server_reply_82 : decode b_Server_reply 82 = .ok (.iconst 0, 1) := by decide +kernel
theorem d_Server_reply_83 : decode b_Server_reply 83 = .ok (.invokevirtual 75, 3) := by decide +kernel
theorem d_Server_reply_86 : decode b_Server_reply 86 = .ok (.return_, 1) := by decide +kernel
theorem d_Server_slotForNew_0 : decode b_Server_slotForNew 0 = .ok (.aload_n 0, 1) := by decide +kernel
theorem d_Server_slotForNew_1 : decode b_Server_slotForNew 1 = .ok (.getfield 37, 3) := by decide +kernel
theorem d_Server_slotForNew_4 : decode b_Server_slotForNew 4 = .ok (.iconst 4, 1) := by decide +kernel
theorem d_Server_slotForNew_5 : decode b_Server_slotForNew 5 = .ok (.if_icmp .ge (20), 3) := by decide +kernel
theorem d_Server_slotForNew_8 : decode b_Server_slotForNew 8 = .ok (.aload_n 0, 1) := by decide +kernel
theorem d_Server_slotForNew_9 : decode b_Server_slotForNew 9 = .ok (.dup, 1) := by decide +kernel
theorem d_Server_slotForNew_10 : decode b_Server_slotForNew 10 = .ok (.getfield 37, 3) := by decide +kernel
theorem d_Server_slotForNew_13 : decode b_Server_slotForNew 13 = .ok (.iconst 1, 1) := by decide +kernel
theorem d_Server_slotForNew_14 : decode b_Server_slotForNew 14 = .ok (.iadd, 1) := by decide +kernel
theorem d_Server_slotForNew_15 : decode b_Server_slotForNew 15 = .ok (.putfield 37, 3) := by decide +kernel
theorem d_Server_slotForNew_18 : decode b_Server_slotForNew 18 = .ok (.aload_n 0, 1) := by decide +kernel
theorem d_Server_slotForNew_19 : decode b_Server_slotForNew 19 = .ok (.getfield 37, 3) := by decide +kernel
theorem d_Server_slotForNew_22 : decode b_Server_slotForNew 22 = .ok (.iconst 1, 1) := by decide +kernel
theorem d_Server_slotForNew_23 : decode b_Server_slotForNew 23 = .ok (.isub, 1) := by decide +kernel
theorem d_Server_slotForNew_24 : decode b_Server_slotForNew 24 = .ok (.ireturn, 1) := by decide +kernel
theorem d_Server_slotForNew_25 : decode b_Server_slotForNew 25 = .ok (.aload_n 0, 1) := by decide +kernel
theorem d_Server_slotForNew_26 : decode b_Server_slotForNew 26 = .ok (.getfield 41, 3) := by decide +kernel
theorem d_Server_slotForNew_29 : decode b_Server_slotForNew 29 = .ok (.istore_n 1, 1) := by decide +kernel
theorem d_Server_slotForNew_30 : decode b_Server_slotForNew 30 = .ok (.aload_n 0, 1) := by decide +kernel
theorem d_Server_slotForNew_31 : decode b_Server_slotForNew 31 = .ok (.aload_n 0, 1) := by decide +kernel
theorem d_Server_slotForNew_32 : decode b_Server_slotForNew 32 = .ok (.getfield 41, 3) := by decide +kernel
theorem d_Server_slotForNew_35 : decode b_Server_slotForNew 35 = .ok (.iconst 1, 1) := by decide +kernel
theorem d_Server_slotForNew_36 : decode b_Server_slotForNew 36 = .ok (.iadd, 1) := by decide +kernel
theorem d_Server_slotForNew_37 : decode b_Server_slotForNew 37 = .ok (.iconst 4, 1) := by decide +kernel
theorem d_Server_slotForNew_38 : decode b_Server_slotForNew 38 = .ok (.irem, 1) := by decide +kernel
theorem d_Server_slotForNew_39 : decode b_Server_slotForNew 39 = .ok (.putfield 41, 3) := by decide +kernel
theorem d_Server_slotForNew_42 : decode b_Server_slotForNew 42 = .ok (.iload_n 1, 1) := by decide +kernel
theorem d_Server_slotForNew_43 : decode b_Server_slotForNew 43 = .ok (.ireturn, 1) := by decide +kernel
theorem d_TaggedFormat_init_0 : decode b_TaggedFormat_init 0 = .ok (.aload_n 0, 1) := by decide +kernel
theorem d_TaggedFormat_init_1 : decode b_TaggedFormat_init 1 = .ok (.aload_n 1, 1) := by decide +kernel
theorem d_TaggedFormat_init_2 : decode b_TaggedFormat_init 2 = .ok (.invokespecial 3, 3) := by decide +kernel
theorem d_TaggedFormat_init_5 : decode b_TaggedFormat_init 5 = .ok (.return_, 1) := by decide +kernel
theorem d_TaggedFormat_write_0 : decode b_TaggedFormat_write 0 = .ok (.iconst 0, 1) := by decide +kernel
theorem d_TaggedFormat_write_1 : decode b_TaggedFormat_write 1 = .ok (.istore_n 3, 1) := by decide +kernel
theorem d_TaggedFormat_write_2 : decode b_TaggedFormat_write 2 = .ok (.iload_n 3, 1) := by decide +kernel
theorem d_TaggedFormat_write_3 : decode b_TaggedFormat_write 3 = .ok (.aload_n 0, 1) := by decide +kernel
theorem d_TaggedFormat_write_4 : decode b_TaggedFormat_write 4 = .ok (.getfield 9, 3) := by decide +kernel
theorem d_TaggedFormat_write_7 : decode b_TaggedFormat_write 7 = .ok (.getfield 15, 3) := by decide +kernel
theorem d_TaggedFormat_write_10 : decode b_TaggedFormat_write 10 = .ok (.if_icmp .ge (84), 3) := by decide +kernel
theorem d_TaggedFormat_write_13 : decode b_TaggedFormat_write 13 = .ok (.aload_n 1, 1) := by decide +kernel
theorem d_TaggedFormat_write_14 : decode b_TaggedFormat_write 14 = .ok (.iload_n 3, 1) := by decide +kernel
theorem d_TaggedFormat_write_15 : decode b_TaggedFormat_write 15 = .ok (.invokevirtual 21, 3) := by decide +kernel
theorem d_TaggedFormat_write_18 : decode b_TaggedFormat_write 18 = .ok (.istore 4, 2) := by decide +kernel
theorem d_TaggedFormat_write_20 : decode b_TaggedFormat_write 20 = .ok (.iconst 0, 1) := by decide +kernel
theorem d_TaggedFormat_write_21 : decode b_TaggedFormat_write 21 = .ok (.istore 5, 2) := by decide +kernel
theorem d_TaggedFormat_write_23 : decode b_TaggedFormat_write 23 = .ok (.iload 5, 2) := by decide +kernel
theorem d_TaggedFormat_write_25 : decode b_TaggedFormat_write 25 = .ok (.iload 4, 2) := by decide +kernel
theorem d_TaggedFormat_write_27 : decode b_TaggedFormat_write 27 = .ok (.if_icmp .ge (61), 3) := by decide +kernel
theorem d_TaggedFormat_write_30 : decode b_TaggedFormat_write 30 = .ok (.aload_n 1, 1) := by decide +kernel
theorem d_TaggedFormat_write_31 : decode b_TaggedFormat_write 31 = .ok (.iload_n 3, 1) := by decide +kernel
theorem d_TaggedFormat_write_32 : decode b_TaggedFormat_write 32 = .ok (.iload 5, 2) := by decide +kernel
theorem d_TaggedFormat_write_34 : decode b_TaggedFormat_write 34 = .ok (.invokevirtual 27, 3) := by decide +kernel
theorem d_TaggedFormat_write_37 : decode b_TaggedFormat_write 37 = .ok (.istore 6, 2) := by decide +kernel
theorem d_TaggedFormat_write_39 : decode b_TaggedFormat_write 39 = .ok (.iload 6, 2) := by decide +kernel
theorem d_TaggedFormat_write_41 : decode b_TaggedFormat_write 41 = .ok (.ifCond .ne (14), 3) := by decide +kernel
theorem d_TaggedFormat_write_44 : decode b_TaggedFormat_write 44 = .ok (.aload_n 0, 1) := by decide +kernel
theorem d_TaggedFormat_write_45 : decode b_TaggedFormat_write 45 = .ok (.getfield 9, 3) := by decide +kernel
theorem d_TaggedFormat_write_48 : decode b_TaggedFormat_write 48 = .ok (.iload_n 3, 1) := by decide +kernel
theorem d_TaggedFormat_write_49 : decode b_TaggedFormat_write 49 = .ok (.invokevirtual 31, 3) := by decide +kernel
theorem d_TaggedFormat_write_52 : decode b_TaggedFormat_write 52 = .ok (.ifCond .eq (30), 3) := by decide +kernel
theorem d_TaggedFormat_write_55 : decode b_TaggedFormat_write 55 = .ok (.aload_n 0, 1) := by decide +kernel
theorem d_TaggedFormat_write_56 : decode b_TaggedFormat_write 56 = .ok (.getfield 9, 3) := by decide +kernel
theorem d_TaggedFormat_write_59 : decode b_TaggedFormat_write 59 = .ok (.iload_n 3, 1) := by decide +kernel
theorem d_TaggedFormat_write_60 : decode b_TaggedFormat_write 60 = .ok (.invokevirtual 35, 3) := by decide +kernel
theorem d_TaggedFormat_write_63 : decode b_TaggedFormat_write 63 = .ok (.i2l, 1) := by decide +kernel
theorem d_TaggedFormat_write_64 : decode b_TaggedFormat_write 64 = .ok (.aload_n 2, 1) := by decide +kernel
theorem d_TaggedFormat_write_65 : decode b_TaggedFormat_write 65 = .ok (.invokestatic 38, 3) := by decide +kernel
theorem d_TaggedFormat_write_68 : decode b_TaggedFormat_write 68 = .ok (.aload_n 0, 1) := by decide +kernel
theorem d_TaggedFormat_write_69 : decode b_TaggedFormat_write 69 = .ok (.getfield 9, 3) := by decide +kernel
theorem d_TaggedFormat_write_72 : decode b_TaggedFormat_write 72 = .ok (.iload_n 3, 1) := by decide +kernel
theorem d_TaggedFormat_write_73 : decode b_TaggedFormat_write 73 = .ok (.invokevirtual 42, 3) := by decide +kernel
theorem d_TaggedFormat_write_76 : decode b_TaggedFormat_write 76 = .ok (.iload 6, 2) := by decide +kernel
theorem d_TaggedFormat_write_78 : decode b_TaggedFormat_write 78 = .ok (.aload_n 2, 1) := by decide +kernel
theorem d_TaggedFormat_write_79 : decode b_TaggedFormat_write 79 = .ok (.invokestatic 45, 3) := by decide +kernel
theorem d_TaggedFormat_write_82 : decode b_TaggedFormat_write 82 = .ok (.iinc 5 (1), 3) := by decide +kernel
theorem d_TaggedFormat_write_85 : decode b_TaggedFormat_write 85 = .ok (.goto (-62), 3) := by decide +kernel
theorem d_TaggedFormat_write_88 : decode b_TaggedFormat_write 88 = .ok (.iinc 3 (1), 3) := by decide +kernel
theorem d_TaggedFormat_write_91 : decode b_TaggedFormat_write 91 = .ok (.goto (-89), 3) := by decide +kernel
theorem d_TaggedFormat_write_94 : decode b_TaggedFormat_write 94 = .ok (.return_, 1) := by decide +kernel
theorem d_TaggedFormat_writeInt_0 : decode b_TaggedFormat_writeInt 0 = .ok (.iload_n 0, 1) := by decide +kernel
theorem d_TaggedFormat_writeInt_1 : decode b_TaggedFormat_writeInt 1 = .ok (.lookupswitch (66) #[(1, 38), (2, 27)], 27) := by decide +kernel
theorem d_TaggedFormat_writeInt_28 : decode b_TaggedFormat_writeInt 28 = .ok (.aload_n 2, 1) := by decide +kernel
theorem d_TaggedFormat_writeInt_29 : decode b_TaggedFormat_writeInt 29 = .ok (.iload_n 1, 1) := by decide +kernel
theorem d_TaggedFormat_writeInt_30 : decode b_TaggedFormat_writeInt 30 = .ok (.invokestatic 49, 3) := by decide +kernel
theorem d_TaggedFormat_writeInt_33 : decode b_TaggedFormat_writeInt 33 = .ok (.invokevirtual 54, 3) := by decide +kernel
theorem d_TaggedFormat_writeInt_36 : decode b_TaggedFormat_writeInt 36 = .ok (.goto (41), 3) := by decide +kernel
theorem d_TaggedFormat_writeInt_39 : decode b_TaggedFormat_writeInt 39 = .ok (.iload_n 1, 1) := by decide +kernel
theorem d_TaggedFormat_writeInt_40 : decode b_TaggedFormat_writeInt 40 = .ok (.ifCond .lt (12), 3) := by decide +kernel
theorem d_TaggedFormat_writeInt_43 : decode b_TaggedFormat_writeInt 43 = .ok (.ldc2_w 58, 3) := by decide +kernel
theorem d_TaggedFormat_writeInt_46 : decode b_TaggedFormat_writeInt 46 = .ok (.iload_n 1, 1) := by decide +kernel
theorem d_TaggedFormat_writeInt_47 : decode b_TaggedFormat_writeInt 47 = .ok (.i2l, 1) := by decide +kernel
theorem d_TaggedFormat_writeInt_48 : decode b_TaggedFormat_writeInt 48 = .ok (.lmul, 1) := by decide +kernel
theorem d_TaggedFormat_writeInt_49 : decode b_TaggedFormat_writeInt 49 = .ok (.goto (11), 3) := by decide +kernel
theorem d_TaggedFormat_writeInt_52 : decode b_TaggedFormat_writeInt 52 = .ok (.ldc2_w 60, 3) := by decide +kernel
theorem d_TaggedFormat_writeInt_55 : decode b_TaggedFormat_writeInt 55 = .ok (.iload_n 1, 1) := by decide +kernel
theorem d_TaggedFormat_writeInt_56 : decode b_TaggedFormat_writeInt 56 = .ok (.i2l, 1) := by decide +kernel
theorem d_TaggedFormat_writeInt_57 : decode b_TaggedFormat_writeInt 57 = .ok (.lmul, 1) := by decide +kernel
theorem d_TaggedFormat_writeInt_58 : decode b_TaggedFormat_writeInt 58 = .ok (.lconst 1, 1) := by decide +kernel
theorem d_TaggedFormat_writeInt_59 : decode b_TaggedFormat_writeInt 59 = .ok (.lsub, 1) := by decide +kernel
theorem d_TaggedFormat_writeInt_60 : decode b_TaggedFormat_writeInt 60 = .ok (.aload_n 2, 1) := by decide +kernel
theorem d_TaggedFormat_writeInt_61 : decode b_TaggedFormat_writeInt 61 = .ok (.invokestatic 38, 3) := by decide +kernel
theorem d_TaggedFormat_writeInt_64 : decode b_TaggedFormat_writeInt 64 = .ok (.goto (13), 3) := by decide +kernel
theorem d_TaggedFormat_writeInt_67 : decode b_TaggedFormat_writeInt 67 = .ok (.iload_n 1, 1) := by decide +kernel
theorem d_TaggedFormat_writeInt_68 : decode b_TaggedFormat_writeInt 68 = .ok (.i2l, 1) := by decide +kernel
theorem d_TaggedFormat_writeInt_69 : decode b_TaggedFormat_writeInt 69 = .ok (.ldc2_w 62, 3) := by decide +kernel
theorem d_TaggedFormat_writeInt_72 : decode b_TaggedFormat_writeInt 72 = .ok (.land, 1) := by decide +kernel
theorem d_TaggedFormat_writeInt_73 : decode b_TaggedFormat_writeInt 73 = .ok (.aload_n 2, 1) := by decide +kernel
theorem d_TaggedFormat_writeInt_74 : decode b_TaggedFormat_writeInt 74 = .ok (.invokestatic 38, 3) := by decide +kernel
theorem d_TaggedFormat_writeInt_77 : decode b_TaggedFormat_writeInt 77 = .ok (.return_, 1) := by decide +kernel
theorem d_TaggedFormat_writeVarint_0 : decode b_TaggedFormat_writeVarint 0 = .ok (.lload_n 0, 1) := by decide +kernel
theorem d_TaggedFormat_writeVarint_1 : decode b_TaggedFormat_writeVarint 1 = .ok (.lstore_n 3, 1) := by decide +kernel
theorem d_TaggedFormat_writeVarint_2 : decode b_TaggedFormat_writeVarint 2 = .ok (.iconst 1, 1) := by decide +kernel
theorem d_TaggedFormat_writeVarint_3 : decode b_TaggedFormat_writeVarint 3 = .ok (.istore 5, 2) := by decide +kernel
theorem d_TaggedFormat_writeVarint_5 : decode b_TaggedFormat_writeVarint 5 = .ok (.iload 5, 2) := by decide +kernel
theorem d_TaggedFormat_writeVarint_7 : decode b_TaggedFormat_writeVarint 7 = .ok (.bipush 10, 2) := by decide +kernel
theorem d_TaggedFormat_writeVarint_9 : decode b_TaggedFormat_writeVarint 9 = .ok (.if_icmp .ge (38), 3) := by decide +kernel
theorem d_TaggedFormat_writeVarint_12 : decode b_TaggedFormat_writeVarint 12 = .ok (.lload_n 3, 1) := by decide +kernel
theorem d_TaggedFormat_writeVarint_13 : decode b_TaggedFormat_writeVarint 13 = .ok (.bipush 7, 2) := by decide +kernel
theorem d_TaggedFormat_writeVarint_15 : decode b_TaggedFormat_writeVarint 15 = .ok (.lushr, 1) := by decide +kernel
theorem d_TaggedFormat_writeVarint_16 : decode b_TaggedFormat_writeVarint 16 = .ok (.lconst 0, 1) := by decide +kernel
theorem d_TaggedFormat_writeVarint_17 : decode b_TaggedFormat_writeVarint 17 = .ok (.lcmp, 1) := by decide +kernel
theorem d_TaggedFormat_writeVarint_18 : decode b_TaggedFormat_writeVarint 18 = .ok (.ifCond .eq (29), 3) := by decide +kernel
theorem d_TaggedFormat_writeVarint_21 : decode b_TaggedFormat_writeVarint 21 = .ok (.aload_n 2, 1) := by decide +kernel
theorem d_TaggedFormat_writeVarint_22 : decode b_TaggedFormat_writeVarint 22 = .ok (.lload_n 3, 1) := by decide +kernel
theorem d_TaggedFormat_writeVarint_23 : decode b_TaggedFormat_writeVarint 23 = .ok (.ldc2_w 66, 3) := by decide +kernel
theorem d_TaggedFormat_writeVarint_26 : decode b_TaggedFormat_writeVarint 26 = .ok (.land, 1) := by decide +kernel
theorem d_TaggedFormat_writeVarint_27 : decode b_TaggedFormat_writeVarint 27 = .ok (.l2i, 1) := by decide +kernel
theorem d_TaggedFormat_writeVarint_28 : decode b_TaggedFormat_writeVarint 28 = .ok (.sipush 128, 3) := by decide +kernel
theorem d_TaggedFormat_writeVarint_31 : decode b_TaggedFormat_writeVarint 31 = .ok (.iadd, 1) := by decide +kernel
theorem d_TaggedFormat_writeVarint_32 : decode b_TaggedFormat_writeVarint 32 = .ok (.invokevirtual 68, 3) := by decide +kernel
theorem d_TaggedFormat_writeVarint_35 : decode b_TaggedFormat_writeVarint 35 = .ok (.pop, 1) := by decide +kernel
theorem d_TaggedFormat_writeVarint_36 : decode b_TaggedFormat_writeVarint 36 = .ok (.lload_n 3, 1) := by decide +kernel
theorem d_TaggedFormat_writeVarint_37 : decode b_TaggedFormat_writeVarint 37 = .ok (.bipush 7, 2) := by decide +kernel
theorem d_TaggedFormat_writeVarint_39 : decode b_TaggedFormat_writeVarint 39 = .ok (.lushr, 1) := by decide +kernel
theorem d_TaggedFormat_writeVarint_40 : decode b_TaggedFormat_writeVarint 40 = .ok (.lstore_n 3, 1) := by decide +kernel
theorem d_TaggedFormat_writeVarint_41 : decode b_TaggedFormat_writeVarint 41 = .ok (.iinc 5 (1), 3) := by decide +kernel
theorem d_TaggedFormat_writeVarint_44 : decode b_TaggedFormat_writeVarint 44 = .ok (.goto (-39), 3) := by decide +kernel
theorem d_TaggedFormat_writeVarint_47 : decode b_TaggedFormat_writeVarint 47 = .ok (.aload_n 2, 1) := by decide +kernel
theorem d_TaggedFormat_writeVarint_48 : decode b_TaggedFormat_writeVarint 48 = .ok (.lload_n 3, 1) := by decide +kernel
theorem d_TaggedFormat_writeVarint_49 : decode b_TaggedFormat_writeVarint 49 = .ok (.l2i, 1) := by decide +kernel
theorem d_TaggedFormat_writeVarint_50 : decode b_TaggedFormat_writeVarint 50 = .ok (.invokevirtual 68, 3) := by decide +kernel
theorem d_TaggedFormat_writeVarint_53 : decode b_TaggedFormat_writeVarint 53 = .ok (.pop, 1) := by decide +kernel
theorem d_TaggedFormat_writeVarint_54 : decode b_TaggedFormat_writeVarint 54 = .ok (.return_, 1) := by decide +kernel
theorem d_TaggedFormat_read_0 : decode b_TaggedFormat_read 0 = .ok (.aload_n 2, 1) := by decide +kernel
theorem d_TaggedFormat_read_1 : decode b_TaggedFormat_read 1 = .ok (.invokevirtual 71, 3) := by decide +kernel
theorem d_TaggedFormat_read_4 : decode b_TaggedFormat_read 4 = .ok (.aload_n 1, 1) := by decide +kernel
theorem d_TaggedFormat_read_5 : decode b_TaggedFormat_read 5 = .ok (.invokevirtual 75, 3) := by decide +kernel
theorem d_TaggedFormat_read_8 : decode b_TaggedFormat_read 8 = .ok (.istore_n 3, 1) := by decide +kernel
theorem d_TaggedFormat_read_9 : decode b_TaggedFormat_read 9 = .ok (.iconst 0, 1) := by decide +kernel
theorem d_TaggedFormat_read_10 : decode b_TaggedFormat_read 10 = .ok (.istore 4, 2) := by decide +kernel
theorem d_TaggedFormat_read_12 : decode b_TaggedFormat_read 12 = .ok (.iload 4, 2) := by decide +kernel
theorem d_TaggedFormat_read_14 : decode b_TaggedFormat_read 14 = .ok (.iload_n 3, 1) := by decide +kernel
theorem d_TaggedFormat_read_15 : decode b_TaggedFormat_read 15 = .ok (.if_icmp .ge (27), 3) := by decide +kernel
theorem d_TaggedFormat_read_18 : decode b_TaggedFormat_read 18 = .ok (.aload_n 1, 1) := by decide +kernel
theorem d_TaggedFormat_read_19 : decode b_TaggedFormat_read 19 = .ok (.invokevirtual 75, 3) := by decide +kernel
theorem d_TaggedFormat_read_22 : decode b_TaggedFormat_read 22 = .ok (.ifCond .le (20), 3) := by decide +kernel
theorem d_TaggedFormat_read_25 : decode b_TaggedFormat_read 25 = .ok (.aload_n 0, 1) := by decide +kernel
theorem d_TaggedFormat_read_26 : decode b_TaggedFormat_read 26 = .ok (.aload_n 1, 1) := by decide +kernel
theorem d_TaggedFormat_read_27 : decode b_TaggedFormat_read 27 = .ok (.aload_n 2, 1) := by decide +kernel
theorem d_TaggedFormat_read_28 : decode b_TaggedFormat_read 28 = .ok (.invokevirtual 79, 3) := by decide +kernel
theorem d_TaggedFormat_read_31 : decode b_TaggedFormat_read 31 = .ok (.ifCond .ne (5), 3) := by decide +kernel
theorem d_TaggedFormat_read_34 : decode b_TaggedFormat_read 34 = .ok (.iconst 0, 1) := by decide +kernel
theorem d_TaggedFormat_read_35 : decode b_TaggedFormat_read 35 = .ok (.ireturn, 1) := by decide +kernel
theorem d_TaggedFormat_read_36 : decode b_TaggedFormat_read 36 = .ok (.iinc 4 (1), 3) := by decide +kernel
theorem d_TaggedFormat_read_39 : decode b_TaggedFormat_read 39 = .ok (.goto (-27), 3) := by decide +kernel
theorem d_TaggedFormat_read_42 : decode b_TaggedFormat_read 42 = .ok (.aload_n 1, 1) := by decide +kernel
theorem d_TaggedFormat_read_43 : decode b_TaggedFormat_read 43 = .ok (.invokevirtual 75, 3) := by decide +kernel
theorem d_TaggedFormat_read_46 : decode b_TaggedFormat_read 46 = .ok (.ifCond .ne (7), 3) := by decide +kernel
theorem d_TaggedFormat_read_49 : decode b_TaggedFormat_read 49 = .ok (.iconst 1, 1) := by decide +kernel
theorem d_TaggedFormat_read_50 : decode b_TaggedFormat_read 50 = .ok (.goto (4), 3) := by decide +kernel
theorem d_TaggedFormat_read_53 : decode b_TaggedFormat_read 53 = .ok (.iconst 0, 1) := by decide +kernel
theorem d_TaggedFormat_read_54 : decode b_TaggedFormat_read 54 = .ok (.ireturn, 1) := by decide +kernel
theorem d_TaggedFormat_readEntry_0 : decode b_TaggedFormat_readEntry 0 = .ok (.aload_n 1, 1) := by decide +kernel
theorem d_TaggedFormat_readEntry_1 : decode b_TaggedFormat_readEntry 1 = .ok (.invokevirtual 83, 3) := by decide +kernel
theorem d_TaggedFormat_readEntry_4 : decode b_TaggedFormat_readEntry 4 = .ok (.lstore_n 3, 1) := by decide +kernel
theorem d_TaggedFormat_readEntry_5 : decode b_TaggedFormat_readEntry 5 = .ok (.aload_n 1, 1) := by decide +kernel
theorem d_TaggedFormat_readEntry_6 : decode b_TaggedFormat_readEntry 6 = .ok (.getfield 87, 3) := by decide +kernel
theorem d_TaggedFormat_readEntry_9 : decode b_TaggedFormat_readEntry 9 = .ok (.ifCond .ne (19), 3) := by decide +kernel
theorem d_TaggedFormat_readEntry_12 : decode b_TaggedFormat_readEntry 12 = .ok (.lload_n 3, 1) := by decide +kernel
theorem d_TaggedFormat_readEntry_13 : decode b_TaggedFormat_readEntry 13 = .ok (.ldc2_w 91, 3) := by decide +kernel
theorem d_TaggedFormat_readEntry_16 : decode b_TaggedFormat_readEntry 16 = .ok (.lcmp, 1) := by decide +kernel
theorem d_TaggedFormat_readEntry_17 : decode b_TaggedFormat_readEntry 17 = .ok (.ifCond .lt (11), 3) := by decide +kernel
theorem d_TaggedFormat_readEntry_20 : decode b_TaggedFormat_readEntry 20 = .ok (.lload_n 3, 1) := by decide +kernel
theorem d_TaggedFormat_readEntry_21 : decode b_TaggedFormat_readEntry 21 = .ok (.ldc2_w 62, 3) := by decide +kernel
theorem d_TaggedFormat_readEntry_24 : decode b_TaggedFormat_readEntry 24 = .ok (.lcmp, 1) := by decide +kernel
theorem d_TaggedFormat_readEntry_25 : decode b_TaggedFormat_readEntry 25 = .ok (.ifCond .le (5), 3) := by decide +kernel
theorem d_TaggedFormat_readEntry_28 : decode b_TaggedFormat_readEntry 28 = .ok (.iconst 0, 1) := by decide +kernel
theorem d_TaggedFormat_readEntry_29 : decode b_TaggedFormat_readEntry 29 = .ok (.ireturn, 1) := by decide +kernel
theorem d_TaggedFormat_readEntry_30 : decode b_TaggedFormat_readEntry 30 = .ok (.aload_n 1, 1) := by decide +kernel
theorem d_TaggedFormat_readEntry_31 : decode b_TaggedFormat_readEntry 31 = .ok (.lload_n 3, 1) := by decide +kernel
theorem d_TaggedFormat_readEntry_32 : decode b_TaggedFormat_readEntry 32 = .ok (.ldc2_w 93, 3) := by decide +kernel
theorem d_TaggedFormat_readEntry_35 : decode b_TaggedFormat_readEntry 35 = .ok (.land, 1) := by decide +kernel
theorem d_TaggedFormat_readEntry_36 : decode b_TaggedFormat_readEntry 36 = .ok (.l2i, 1) := by decide +kernel
theorem d_TaggedFormat_readEntry_37 : decode b_TaggedFormat_readEntry 37 = .ok (.invokestatic 95, 3) := by decide +kernel
theorem d_TaggedFormat_readEntry_40 : decode b_TaggedFormat_readEntry 40 = .ok (.lstore 5, 2) := by decide +kernel
theorem d_TaggedFormat_readEntry_42 : decode b_TaggedFormat_readEntry 42 = .ok (.aload_n 1, 1) := by decide +kernel
theorem d_TaggedFormat_readEntry_43 : decode b_TaggedFormat_readEntry 43 = .ok (.getfield 87, 3) := by decide +kernel
theorem d_TaggedFormat_readEntry_46 : decode b_TaggedFormat_readEntry 46 = .ok (.ifCond .eq (5), 3) := by decide +kernel
theorem d_TaggedFormat_readEntry_49 : decode b_TaggedFormat_readEntry 49 = .ok (.iconst 0, 1) := by decide +kernel
theorem d_TaggedFormat_readEntry_50 : decode b_TaggedFormat_readEntry 50 = .ok (.ireturn, 1) := by decide +kernel
theorem d_TaggedFormat_readEntry_51 : decode b_TaggedFormat_readEntry 51 = .ok (.aload_n 0, 1) := by decide +kernel
theorem d_TaggedFormat_readEntry_52 : decode b_TaggedFormat_readEntry 52 = .ok (.getfield 9, 3) := by decide +kernel
theorem d_TaggedFormat_readEntry_55 : decode b_TaggedFormat_readEntry 55 = .ok (.lload_n 3, 1) := by decide +kernel
theorem d_TaggedFormat_readEntry_56 : decode b_TaggedFormat_readEntry 56 = .ok (.iconst 3, 1) := by decide +kernel
theorem d_TaggedFormat_readEntry_57 : decode b_TaggedFormat_readEntry 57 = .ok (.lushr, 1) := by decide +kernel
theorem d_TaggedFormat_readEntry_58 : decode b_TaggedFormat_readEntry 58 = .ok (.l2i, 1) := by decide +kernel
theorem d_TaggedFormat_readEntry_59 : decode b_TaggedFormat_readEntry 59 = .ok (.invokevirtual 99, 3) := by decide +kernel
theorem d_TaggedFormat_readEntry_62 : decode b_TaggedFormat_readEntry 62 = .ok (.istore 7, 2) := by decide +kernel
theorem d_TaggedFormat_readEntry_64 : decode b_TaggedFormat_readEntry 64 = .ok (.iload 7, 2) := by decide +kernel
theorem d_TaggedFormat_readEntry_66 : decode b_TaggedFormat_readEntry 66 = .ok (.iconst (-1), 1) := by decide +kernel
theorem d_TaggedFormat_readEntry_67 : decode b_TaggedFormat_readEntry 67 = .ok (.if_icmp .eq (18), 3) := by decide +kernel
theorem d_TaggedFormat_readEntry_70 : decode b_TaggedFormat_readEntry 70 = .ok (.aload_n 0, 1) := by decide +kernel
theorem d_TaggedFormat_readEntry_71 : decode b_TaggedFormat_readEntry 71 = .ok (.getfield 9, 3) := by decide +kernel
theorem d_TaggedFormat_readEntry_74 : decode b_TaggedFormat_readEntry 74 = .ok (.iload 7, 2) := by decide +kernel
theorem d_TaggedFormat_readEntry_76 : decode b_TaggedFormat_readEntry 76 = .ok (.invokevirtual 35, 3) := by decide +kernel
theorem d_TaggedFormat_readEntry_79 : decode b_TaggedFormat_readEntry 79 = .ok (.i2l, 1) := by decide +kernel
theorem d_TaggedFormat_readEntry_80 : decode b_TaggedFormat_readEntry 80 = .ok (.lload_n 3, 1) := by decide +kernel
theorem d_TaggedFormat_readEntry_81 : decode b_TaggedFormat_readEntry 81 = .ok (.lcmp, 1) := by decide +kernel
theorem d_TaggedFormat_readEntry_82 : decode b_TaggedFormat_readEntry 82 = .ok (.ifCond .eq (5), 3) := by decide +kernel
theorem d_TaggedFormat_readEntry_85 : decode b_TaggedFormat_readEntry 85 = .ok (.iconst 1, 1) := by decide +kernel
theorem d_TaggedFormat_readEntry_86 : decode b_TaggedFormat_readEntry 86 = .ok (.ireturn, 1) := by decide +kernel
theorem d_TaggedFormat_readEntry_87 : decode b_TaggedFormat_readEntry 87 = .ok (.aload_n 2, 1) := by decide +kernel
theorem d_TaggedFormat_readEntry_88 : decode b_TaggedFormat_readEntry 88 = .ok (.iload 7, 2) := by decide +kernel
theorem d_TaggedFormat_readEntry_90 : decode b_TaggedFormat_readEntry 90 = .ok (.aload_n 0, 1) := by decide +kernel
theorem d_TaggedFormat_readEntry_91 : decode b_TaggedFormat_readEntry 91 = .ok (.getfield 9, 3) := by decide +kernel
theorem d_TaggedFormat_readEntry_94 : decode b_TaggedFormat_readEntry 94 = .ok (.iload 7, 2) := by decide +kernel
theorem d_TaggedFormat_readEntry_96 : decode b_TaggedFormat_readEntry 96 = .ok (.invokevirtual 42, 3) := by decide +kernel
theorem d_TaggedFormat_readEntry_99 : decode b_TaggedFormat_readEntry 99 = .ok (.lload 5, 2) := by decide +kernel
theorem d_TaggedFormat_readEntry_101 : decode b_TaggedFormat_readEntry 101 = .ok (.invokestatic 102, 3) := by decide +kernel
theorem d_TaggedFormat_readEntry_104 : decode b_TaggedFormat_readEntry 104 = .ok (.invokevirtual 106, 3) := by decide +kernel
theorem d_TaggedFormat_readEntry_107 : decode b_TaggedFormat_readEntry 107 = .ok (.ireturn, 1) := by decide +kernel
