theorem d_Md_put_0 : decode b_Md_put 0 = .ok (.iload_n 1, 1) := by decide +kernel
theorem d_Md_put_1 : decode b_Md_put 1 = .ok (.ifCond .lt (30), 3) := by decide +kernel
theorem d_Md_put_4 : decode b_Md_put 4 = .ok (.iload_n 1, 1) := by decide +kernel
theorem d_Md_put_5 : decode b_Md_put 5 = .ok (.aload_n 0, 1) := by decide +kernel
theorem d_Md_put_6 : decode b_Md_put 6 = .ok (.getfield 75, 3) := by decide +kernel
theorem d_Md_put_9 : decode b_Md_put 9 = .ok (.if_icmp .ge (22), 3) := by decide +kernel
theorem d_Md_put_12 : decode b_Md_put 12 = .ok (.aload_n 0, 1) := by decide +kernel
theorem d_Md_put_13 : decode b_Md_put 13 = .ok (.getfield 13, 3) := by decide +kernel
theorem d_Md_put_16 : decode b_Md_put 16 = .ok (.iload_n 1, 1) := by decide +kernel
theorem d_Md_put_17 : decode b_Md_put 17 = .ok (.iaload, 1) := by decide +kernel
theorem d_Md_put_18 : decode b_Md_put 18 = .ok (.iconst 3, 1) := by decide +kernel
theorem d_Md_put_19 : decode b_Md_put 19 = .ok (.if_icmp .ne (14), 3) := by decide +kernel
theorem d_Md_put_22 : decode b_Md_put 22 = .ok (.iload_n 2, 1) := by decide +kernel
theorem d_Md_put_23 : decode b_Md_put 23 = .ok (.ifCond .eq (10), 3) := by decide +kernel
theorem d_Md_put_26 : decode b_Md_put 26 = .ok (.iload_n 2, 1) := by decide +kernel
theorem d_Md_put_27 : decode b_Md_put 27 = .ok (.iconst 1, 1) := by decide +kernel
theorem d_Md_put_28 : decode b_Md_put 28 = .ok (.if_icmp .eq (5), 3) := by decide +kernel
theorem d_Md_put_31 : decode b_Md_put 31 = .ok (.iconst 0, 1) := by decide +kernel
theorem d_Md_put_32 : decode b_Md_put 32 = .ok (.ireturn, 1) := by decide +kernel
theorem d_Md_put_33 : decode b_Md_put 33 = .ok (.aload_n 0, 1) := by decide +kernel
theorem d_Md_put_34 : decode b_Md_put 34 = .ok (.iload_n 1, 1) := by decide +kernel
theorem d_Md_put_35 : decode b_Md_put 35 = .ok (.iload_n 2, 1) := by decide +kernel
theorem d_Md_put_36 : decode b_Md_put 36 = .ok (.invokevirtual 83, 3) := by decide +kernel
theorem d_Md_put_39 : decode b_Md_put 39 = .ok (.ireturn, 1) := by decide +kernel
theorem d_Md_reset_0 : decode b_Md_reset 0 = .ok (.iconst 0, 1) := by decide +kernel
theorem d_Md_reset_1 : decode b_Md_reset 1 = .ok (.istore_n 1, 1) := by decide +kernel
theorem d_Md_reset_2 : decode b_Md_reset 2 = .ok (.iload_n 1, 1) := by decide +kernel
theorem d_Md_reset_3 : decode b_Md_reset 3 = .ok (.aload_n 0, 1) := by decide +kernel
theorem d_Md_reset_4 : decode b_Md_reset 4 = .ok (.getfield 75, 3) := by decide +kernel
theorem d_Md_reset_7 : decode b_Md_reset 7 = .ok (.if_icmp .ge (14), 3) := by decide +kernel
theorem d_Md_reset_10 : decode b_Md_reset 10 = .ok (.aload_n 0, 1) := by decide +kernel
theorem d_Md_reset_11 : decode b_Md_reset 11 = .ok (.iload_n 1, 1) := by decide +kernel
theorem d_Md_reset_12 : decode b_Md_reset 12 = .ok (.invokevirtual 79, 3) := by decide +kernel
theorem d_Md_reset_15 : decode b_Md_reset 15 = .ok (.iinc 1 (1), 3) := by decide +kernel
theorem d_Md_reset_18 : decode b_Md_reset 18 = .ok (.goto (-16), 3) := by decide +kernel
theorem d_Md_reset_21 : decode b_Md_reset 21 = .ok (.return_, 1) := by decide +kernel
theorem d_Md_digest_0 : decode b_Md_digest 0 = .ok (.iconst 0, 1) := by decide +kernel
theorem d_Md_digest_1 : decode b_Md_digest 1 = .ok (.istore_n 1, 1) := by decide +kernel
theorem d_Md_digest_2 : decode b_Md_digest 2 = .ok (.iconst 0, 1) := by decide +kernel
theorem d_Md_digest_3 : decode b_Md_digest 3 = .ok (.istore_n 2, 1) := by decide +kernel
theorem d_Md_digest_4 : decode b_Md_digest 4 = .ok (.iload_n 2, 1) := by decide +kernel
theorem d_Md_digest_5 : decode b_Md_digest 5 = .ok (.aload_n 0, 1) := by decide +kernel
theorem d_Md_digest_6 : decode b_Md_digest 6 = .ok (.getfield 75, 3) := by decide +kernel
theorem d_Md_digest_9 : decode b_Md_digest 9 = .ok (.if_icmp .ge (75), 3) := by decide +kernel
theorem d_Md_digest_12 : decode b_Md_digest 12 = .ok (.aload_n 0, 1) := by decide +kernel
theorem d_Md_digest_13 : decode b_Md_digest 13 = .ok (.getfield 16, 3) := by decide +kernel
theorem d_Md_digest_16 : decode b_Md_digest 16 = .ok (.iload_n 2, 1) := by decide +kernel
theorem d_Md_digest_17 : decode b_Md_digest 17 = .ok (.baload, 1) := by decide +kernel
theorem d_Md_digest_18 : decode b_Md_digest 18 = .ok (.ifCond .eq (19), 3) := by decide +kernel
theorem d_Md_digest_21 : decode b_Md_digest 21 = .ok (.bipush 31, 2) := by decide +kernel
theorem d_Md_digest_23 : decode b_Md_digest 23 = .ok (.iload_n 1, 1) := by decide +kernel
theorem d_Md_digest_24 : decode b_Md_digest 24 = .ok (.imul, 1) := by decide +kernel
theorem d_Md_digest_25 : decode b_Md_digest 25 = .ok (.aload_n 0, 1) := by decide +kernel
theorem d_Md_digest_26 : decode b_Md_digest 26 = .ok (.getfield 20, 3) := by decide +kernel
theorem d_Md_digest_29 : decode b_Md_digest 29 = .ok (.iconst 4, 1) := by decide +kernel
theorem d_Md_digest_30 : decode b_Md_digest 30 = .ok (.iload_n 2, 1) := by decide +kernel
theorem d_Md_digest_31 : decode b_Md_digest 31 = .ok (.iadd, 1) := by decide +kernel
theorem d_Md_digest_32 : decode b_Md_digest 32 = .ok (.iaload, 1) := by decide +kernel
theorem d_Md_digest_33 : decode b_Md_digest 33 = .ok (.iadd, 1) := by decide +kernel
theorem d_Md_digest_34 : decode b_Md_digest 34 = .ok (.goto (4), 3) := by decide +kernel
theorem d_Md_digest_37 : decode b_Md_digest 37 = .ok (.iload_n 1, 1) := by decide +kernel
theorem d_Md_digest_38 : decode b_Md_digest 38 = .ok (.istore_n 1, 1) := by decide +kernel
theorem d_Md_digest_39 : decode b_Md_digest 39 = .ok (.iconst 0, 1) := by decide +kernel
theorem d_Md_digest_40 : decode b_Md_digest 40 = .ok (.istore_n 3, 1) := by decide +kernel
theorem d_Md_digest_41 : decode b_Md_digest 41 = .ok (.iload_n 3, 1) := by decide +kernel
theorem d_Md_digest_42 : decode b_Md_digest 42 = .ok (.aload_n 0, 1) := by decide +kernel
theorem d_Md_digest_43 : decode b_Md_digest 43 = .ok (.getfield 20, 3) := by decide +kernel
theorem d_Md_digest_46 : decode b_Md_digest 46 = .ok (.iconst 4, 1) := by decide +kernel
theorem d_Md_digest_47 : decode b_Md_digest 47 = .ok (.iload_n 2, 1) := by decide +kernel
theorem d_Md_digest_48 : decode b_Md_digest 48 = .ok (.iadd, 1) := by decide +kernel
theorem d_Md_digest_49 : decode b_Md_digest 49 = .ok (.iaload, 1) := by decide +kernel
theorem d_Md_digest_50 : decode b_Md_digest 50 = .ok (.if_icmp .ge (28), 3) := by decide +kernel
theorem d_Md_digest_53 : decode b_Md_digest 53 = .ok (.bipush 31, 2) := by decide +kernel
theorem d_Md_digest_55 : decode b_Md_digest 55 = .ok (.iload_n 1, 1) := by decide +kernel
theorem d_Md_digest_56 : decode b_Md_digest 56 = .ok (.imul, 1) := by decide +kernel
theorem d_Md_digest_57 : decode b_Md_digest 57 = .ok (.aload_n 0, 1) := by decide +kernel
theorem d_Md_digest_58 : decode b_Md_digest 58 = .ok (.getfield 23, 3) := by decide +kernel
theorem d_Md_digest_61 : decode b_Md_digest 61 = .ok (.bipush 16, 2) := by decide +kernel
theorem d_Md_digest_63 : decode b_Md_digest 63 = .ok (.iconst 4, 1) := by decide +kernel
theorem d_Md_digest_64 : decode b_Md_digest 64 = .ok (.iload_n 2, 1) := by decide +kernel
theorem d_Md_digest_65 : decode b_Md_digest 65 = .ok (.imul, 1) := by decide +kernel
theorem d_Md_digest_66 : decode b_Md_digest 66 = .ok (.iadd, 1) := by decide +kernel
theorem d_Md_digest_67 : decode b_Md_digest 67 = .ok (.iload_n 3, 1) := by decide +kernel
theorem d_Md_digest_68 : decode b_Md_digest 68 = .ok (.iadd, 1) := by decide +kernel
theorem d_Md_digest_69 : decode b_Md_digest 69 = .ok (.iaload, 1) := by decide +kernel
theorem d_Md_digest_70 : decode b_Md_digest 70 = .ok (.iadd, 1) := by decide +kernel
theorem d_Md_digest_71 : decode b_Md_digest 71 = .ok (.istore_n 1, 1) := by decide +kernel
theorem d_Md_digest_72 : decode b_Md_digest 72 = .ok (.iinc 3 (1), 3) := by decide +kernel
theorem d_Md_digest_75 : decode b_Md_digest 75 = .ok (.goto (-34), 3) := by decide +kernel
theorem d_Md_digest_78 : decode b_Md_digest 78 = .ok (.iinc 2 (1), 3) := by decide +kernel
theorem d_Md_digest_81 : decode b_Md_digest 81 = .ok (.goto (-77), 3) := by decide +kernel
theorem d_Md_digest_84 : decode b_Md_digest 84 = .ok (.iload_n 1, 1) := by decide +kernel
theorem d_Md_digest_85 : decode b_Md_digest 85 = .ok (.ireturn, 1) := by decide +kernel
theorem d_Md_write_0 : decode b_Md_write 0 = .ok (.aload_n 0, 1) := by decide +kernel
theorem d_Md_write_1 : decode b_Md_write 1 = .ok (.getfield 26, 3) := by decide +kernel
theorem d_Md_write_4 : decode b_Md_write 4 = .ok (.aload_n 0, 1) := by decide +kernel
theorem d_Md_write_5 : decode b_Md_write 5 = .ok (.getfield 87, 3) := by decide +kernel
theorem d_Md_write_8 : decode b_Md_write 8 = .ok (.iload_n 1, 1) := by decide +kernel
theorem d_Md_write_9 : decode b_Md_write 9 = .ok (.iastore, 1) := by decide +kernel
theorem d_Md_write_10 : decode b_Md_write 10 = .ok (.aload_n 0, 1) := by decide +kernel
theorem d_Md_write_11 : decode b_Md_write 11 = .ok (.dup, 1) := by decide +kernel
theorem d_Md_write_12 : decode b_Md_write 12 = .ok (.getfield 87, 3) := by decide +kernel
theorem d_Md_write_15 : decode b_Md_write 15 = .ok (.iconst 1, 1) := by decide +kernel
theorem d_Md_write_16 : decode b_Md_write 16 = .ok (.iadd, 1) := by decide +kernel
theorem d_Md_write_17 : decode b_Md_write 17 = .ok (.putfield 87, 3) := by decide +kernel
theorem d_Md_write_20 : decode b_Md_write 20 = .ok (.return_, 1) := by decide +kernel
theorem d_Md_writeWord_0 : decode b_Md_writeWord 0 = .ok (.iconst 3, 1) := by decide +kernel
theorem d_Md_writeWord_1 : decode b_Md_writeWord 1 = .ok (.istore_n 2, 1) := by decide +kernel
theorem d_Md_writeWord_2 : decode b_Md_writeWord 2 = .ok (.iload_n 2, 1) := by decide +kernel
theorem d_Md_writeWord_3 : decode b_Md_writeWord 3 = .ok (.ifCond .lt (23), 3) := by decide +kernel
theorem d_Md_writeWord_6 : decode b_Md_writeWord 6 = .ok (.aload_n 0, 1) := by decide +kernel
theorem d_Md_writeWord_7 : decode b_Md_writeWord 7 = .ok (.iload_n 1, 1) := by decide +kernel
theorem d_Md_writeWord_8 : decode b_Md_writeWord 8 = .ok (.bipush 8, 2) := by decide +kernel
theorem d_Md_writeWord_10 : decode b_Md_writeWord 10 = .ok (.iload_n 2, 1) := by decide +kernel
theorem d_Md_writeWord_11 : decode b_Md_writeWord 11 = .ok (.imul, 1) := by decide +kernel
theorem d_Md_writeWord_12 : decode b_Md_writeWord 12 = .ok (.ishr, 1) := by decide +kernel
theorem d_Md_writeWord_13 : decode b_Md_writeWord 13 = .ok (.sipush 255, 3) := by decide +kernel
theorem d_Md_writeWord_16 : decode b_Md_writeWord 16 = .ok (.iand, 1) := by decide +kernel
theorem d_Md_writeWord_17 : decode b_Md_writeWord 17 = .ok (.invokevirtual 90, 3) := by decide +kernel
theorem d_Md_writeWord_20 : decode b_Md_writeWord 20 = .ok (.iinc 2 (-1), 3) := by decide +kernel
theorem d_Md_writeWord_23 : decode b_Md_writeWord 23 = .ok (.goto (-21), 3) := by decide +kernel
theorem d_Md_writeWord_26 : decode b_Md_writeWord 26 = .ok (.return_, 1) := by decide +kernel
theorem d_Md_writeVarint_0 : decode b_Md_writeVarint 0 = .ok (.lload_n 1, 1) := by decide +kernel
theorem d_Md_writeVarint_1 : decode b_Md_writeVarint 1 = .ok (.lstore_n 3, 1) := by decide +kernel
theorem d_Md_writeVarint_2 : decode b_Md_writeVarint 2 = .ok (.lload_n 3, 1) := by decide +kernel
theorem d_Md_writeVarint_3 : decode b_Md_writeVarint 3 = .ok (.ldc2_w 93, 3) := by decide +kernel
theorem d_Md_writeVarint_6 : decode b_Md_writeVarint 6 = .ok (.lcmp, 1) := by decide +kernel
theorem d_Md_writeVarint_7 : decode b_Md_writeVarint 7 = .ok (.ifCond .lt (26), 3) := by decide +kernel
theorem d_Md_writeVarint_10 : decode b_Md_writeVarint 10 = .ok (.aload_n 0, 1) := by decide +kernel
theorem d_Md_writeVarint_11 : decode b_Md_writeVarint 11 = .ok (.lload_n 3, 1) := by decide +kernel
theorem d_Md_writeVarint_12 : decode b_Md_writeVarint 12 = .ok (.ldc2_w 93, 3) := by decide +kernel
theorem d_Md_writeVarint_15 : decode b_Md_writeVarint 15 = .ok (.lrem, 1) := by decide +kernel
theorem d_Md_writeVarint_16 : decode b_Md_writeVarint 16 = .ok (.ldc2_w 93, 3) := by decide +kernel
theorem d_Md_writeVarint_19 : decode b_Md_writeVarint 19 = .ok (.ladd, 1) := by decide +kernel
theorem d_Md_writeVarint_20 : decode b_Md_writeVarint 20 = .ok (.l2i, 1) := by decide +kernel
theorem d_Md_writeVarint_21 : decode b_Md_writeVarint 21 = .ok (.invokevirtual 90, 3) := by decide +kernel
theorem d_Md_writeVarint_24 : decode b_Md_writeVarint 24 = .ok (.lload_n 3, 1) := by decide +kernel
theorem d_Md_writeVarint_25 : decode b_Md_writeVarint 25 = .ok (.ldc2_w 93, 3) := by decide +kernel
theorem d_Md_writeVarint_28 : decode b_Md_writeVarint 28 = .ok (.ldiv, 1) := by decide +kernel
theorem d_Md_writeVarint_29 : decode b_Md_writeVarint 29 = .ok (.lstore_n 3, 1) := by decide +kernel
theorem d_Md_writeVarint_30 : decode b_Md_writeVarint 30 = .ok (.goto (-28), 3) := by decide +kernel
theorem d_Md_writeVarint_33 : decode b_Md_writeVarint 33 = .ok (.aload_n 0, 1) := by decide +kernel
theorem d_Md_writeVarint_34 : decode b_Md_writeVarint 34 = .ok (.lload_n 3, 1) := by decide +kernel
theorem d_Md_writeVarint_35 : decode b_Md_writeVarint 35 = .ok (.l2i, 1) := by decide +kernel
theorem d_Md_writeVarint_36 : decode b_Md_writeVarint 36 = .ok (.invokevirtual 90, 3) := by decide +kernel
theorem d_Md_writeVarint_39 : decode b_Md_writeVarint 39 = .ok (.return_, 1) := by decide +kernel
theorem d_Md_writeTagged_0 : decode b_Md_writeTagged 0 = .ok (.aload_n 0, 1) := by decide +kernel
theorem d_Md_writeTagged_1 : decode b_Md_writeTagged 1 = .ok (.ldc2_w 95, 3) := by decide +kernel
theorem d_Md_writeTagged_4 : decode b_Md_writeTagged 4 = .ok (.aload_n 0, 1) := by decide +kernel
theorem d_Md_writeTagged_5 : decode b_Md_writeTagged 5 = .ok (.getfield 7, 3) := by decide +kernel
theorem d_Md_writeTagged_8 : decode b_Md_writeTagged 8 = .ok (.iload_n 1, 1) := by decide +kernel
theorem d_Md_writeTagged_9 : decode b_Md_writeTagged 9 = .ok (.iaload, 1) := by decide +kernel
theorem d_Md_writeTagged_10 : decode b_Md_writeTagged 10 = .ok (.i2l, 1) := by decide +kernel
theorem d_Md_writeTagged_11 : decode b_Md_writeTagged 11 = .ok (.lmul, 1) := by decide +kernel
theorem d_Md_writeTagged_12 : decode b_Md_writeTagged 12 = .ok (.aload_n 0, 1) := by decide +kernel
theorem d_Md_writeTagged_13 : decode b_Md_writeTagged 13 = .ok (.getfield 13, 3) := by decide +kernel
theorem d_Md_writeTagged_16 : decode b_Md_writeTagged 16 = .ok (.iload_n 1, 1) := by decide +kernel
theorem d_Md_writeTagged_17 : decode b_Md_writeTagged 17 = .ok (.iaload, 1) := by decide +kernel
theorem d_Md_writeTagged_18 : decode b_Md_writeTagged 18 = .ok (.iconst 2, 1) := by decide +kernel
theorem d_Md_writeTagged_19 : decode b_Md_writeTagged 19 = .ok (.if_icmp .ne (9), 3) := by decide +kernel
theorem d_Md_writeTagged_22 : decode b_Md_writeTagged 22 = .ok (.ldc2_w 97, 3) := by decide +kernel
theorem d_Md_writeTagged_25 : decode b_Md_writeTagged 25 = .ok (.goto (4), 3) := by decide +kernel
theorem d_Md_writeTagged_28 : decode b_Md_writeTagged 28 = .ok (.lconst 0, 1) := by decide +kernel
theorem d_Md_writeTagged_29 : decode b_Md_writeTagged 29 = .ok (.ladd, 1) := by decide +kernel
theorem d_Md_writeTagged_30 : decode b_Md_writeTagged 30 = .ok (.invokevirtual 99, 3) := by decide +kernel
theorem d_Md_writeTagged_33 : decode b_Md_writeTagged 33 = .ok (.aload_n 0, 1) := by decide +kernel
theorem d_Md_writeTagged_34 : decode b_Md_writeTagged 34 = .ok (.getfield 13, 3) := by decide +kernel
theorem d_Md_writeTagged_37 : decode b_Md_writeTagged 37 = .ok (.iload_n 1, 1) := by decide +kernel
theorem d_Md_writeTagged_38 : decode b_Md_writeTagged 38 = .ok (.iaload, 1) := by decide +kernel
theorem d_Md_writeTagged_39 : decode b_Md_writeTagged 39 = .ok (.ifCond .ne (25), 3) := by decide +kernel
theorem d_Md_writeTagged_42 : decode b_Md_writeTagged 42 = .ok (.aload_n 0, 1) := by decide +kernel
theorem d_Md_writeTagged_43 : decode b_Md_writeTagged 43 = .ok (.iload_n 2, 1) := by decide +kernel
theorem d_Md_writeTagged_44 : decode b_Md_writeTagged 44 = .ok (.ifCond .ge (12), 3) := by decide +kernel
theorem d_Md_writeTagged_47 : decode b_Md_writeTagged 47 = .ok (.iload_n 2, 1) := by decide +kernel
theorem d_Md_writeTagged_48 : decode b_Md_writeTagged 48 = .ok (.i2l, 1) := by decide +kernel
theorem d_Md_writeTagged_49 : decode b_Md_writeTagged 49 = .ok (.ldc2_w 103, 3) := by decide +kernel
theorem d_Md_writeTagged_52 : decode b_Md_writeTagged 52 = .ok (.ladd, 1) := by decide +kernel
theorem d_Md_writeTagged_53 : decode b_Md_writeTagged 53 = .ok (.goto (5), 3) := by decide +kernel
theorem d_Md_writeTagged_56 : decode b_Md_writeTagged 56 = .ok (.iload_n 2, 1) := by decide +kernel
theorem d_Md_writeTagged_57 : decode b_Md_writeTagged 57 = .ok (.i2l, 1) := by decide +kernel
theorem d_Md_writeTagged_58 : decode b_Md_writeTagged 58 = .ok (.invokevirtual 99, 3) := by decide +kernel
theorem d_Md_writeTagged_61 : decode b_Md_writeTagged 61 = .ok (.goto (86), 3) := by decide +kernel
theorem d_Md_writeTagged_64 : decode b_Md_writeTagged 64 = .ok (.aload_n 0, 1) := by decide +kernel
theorem d_Md_writeTagged_65 : decode b_Md_writeTagged 65 = .ok (.getfield 13, 3) := by decide +kernel
theorem d_Md_writeTagged_68 : decode b_Md_writeTagged 68 = .ok (.iload_n 1, 1) := by decide +kernel
theorem d_Md_writeTagged_69 : decode b_Md_writeTagged 69 = .ok (.iaload, 1) := by decide +kernel
theorem d_Md_writeTagged_70 : decode b_Md_writeTagged 70 = .ok (.iconst 1, 1) := by decide +kernel
theorem d_Md_writeTagged_71 : decode b_Md_writeTagged 71 = .ok (.if_icmp .ne (31), 3) := by decide +kernel
theorem d_Md_writeTagged_74 : decode b_Md_writeTagged 74 = .ok (.aload_n 0, 1) := by decide +kernel
theorem d_Md_writeTagged_75 : decode b_Md_writeTagged 75 = .ok (.iload_n 2, 1) := by decide +kernel
theorem d_Md_writeTagged_76 : decode b_Md_writeTagged 76 = .ok (.ifCond .ge (14), 3) := by decide +kernel
theorem d_Md_writeTagged_79 : decode b_Md_writeTagged 79 = .ok (.ldc2_w 105, 3) := by decide +kernel
theorem d_Md_writeTagged_82 : decode b_Md_writeTagged 82 = .ok (.iload_n 2, 1) := by decide +kernel
theorem d_Md_writeTagged_83 : decode b_Md_writeTagged 83 = .ok (.i2l, 1) := by decide +kernel
theorem d_Md_writeTagged_84 : decode b_Md_writeTagged 84 = .ok (.lmul, 1) := by decide +kernel
theorem d_Md_writeTagged_85 : decode b_Md_writeTagged 85 = .ok (.lconst 1, 1) := by decide +kernel
theorem d_Md_writeTagged_86 : decode b_Md_writeTagged 86 = .ok (.lsub, 1) := by decide +kernel
theorem d_Md_writeTagged_87 : decode b_Md_writeTagged 87 = .ok (.goto (9), 3) := by decide +kernel
theorem d_Md_writeTagged_90 : decode b_Md_writeTagged 90 = .ok (.ldc2_w 107, 3) := by decide +kernel
theorem d_Md_writeTagged_93 : decode b_Md_writeTagged 93 = .ok (.iload_n 2, 1) := by decide +kernel
theorem d_Md_writeTagged_94 : decode b_Md_writeTagged 94 = .ok (.i2l, 1) := by decide +kernel
theorem d_Md_writeTagged_95 : decode b_Md_writeTagged 95 = .ok (.lmul, 1) := by decide +kernel
theorem d_Md_writeTagged_96 : decode b_Md_writeTagged 96 = .ok (.invokevirtual 99, 3) := by decide +kernel
theorem d_Md_writeTagged_99 : decode b_Md_writeTagged 99 = .ok (.goto (48), 3) := by decide +kernel
theorem d_Md_writeTagged_102 : decode b_Md_writeTagged 102 = .ok (.aload_n 0, 1) := by decide +kernel
theorem d_Md_writeTagged_103 : decode b_Md_writeTagged 103 = .ok (.getfield 13, 3) := by decide +kernel
theorem d_Md_writeTagged_106 : decode b_Md_writeTagged 106 = .ok (.iload_n 1, 1) := by decide +kernel
theorem d_Md_writeTagged_107 : decode b_Md_writeTagged 107 = .ok (.iaload, 1) := by decide +kernel
theorem d_Md_writeTagged_108 : decode b_Md_writeTagged 108 = .ok (.iconst 2, 1) := by decide +kernel
theorem d_Md_writeTagged_109 : decode b_Md_writeTagged 109 = .ok (.if_icmp .ne (33), 3) := by decide +kernel
theorem d_Md_writeTagged_112 : decode b_Md_writeTagged 112 = .ok (.iconst 0, 1) := by decide +kernel
theorem d_Md_writeTagged_113 : decode b_Md_writeTagged 113 = .ok (.istore_n 3, 1) := by decide +kernel
theorem d_Md_writeTagged_114 : decode b_Md_writeTagged 114 = .ok (.iload_n 3, 1) := by decide +kernel
theorem d_Md_writeTagged_115 : decode b_Md_writeTagged 115 = .ok (.iconst 4, 1) := by decide +kernel
theorem d_Md_writeTagged_116 : decode b_Md_writeTagged 116 = .ok (.if_icmp .ge (23), 3) := by decide +kernel
theorem d_Md_writeTagged_119 : decode b_Md_writeTagged 119 = .ok (.aload_n 0, 1) := by decide +kernel
theorem d_Md_writeTagged_120 : decode b_Md_writeTagged 120 = .ok (.iload_n 2, 1) := by decide +kernel
theorem d_Md_writeTagged_121 : decode b_Md_writeTagged 121 = .ok (.bipush 8, 2) := by decide +kernel
theorem d_Md_writeTagged_123 : decode b_Md_writeTagged 123 = .ok (.iload_n 3, 1) := by decide +kernel
theorem d_Md_writeTagged_124 : decode b_Md_writeTagged 124 = .ok (.imul, 1) := by decide +kernel
theorem d_Md_writeTagged_125 : decode b_Md_writeTagged 125 = .ok (.ishr, 1) := by decide +kernel
theorem d_Md_writeTagged_126 : decode b_Md_writeTagged 126 = .ok (.sipush 255, 3) := by decide +kernel
theorem d_Md_writeTagged_129 : decode b_Md_writeTagged 129 = .ok (.iand, 1) := by decide +kernel
theorem d_Md_writeTagged_130 : decode b_Md_writeTagged 130 = .ok (.invokevirtual 90, 3) := by decide +kernel
theorem d_Md_writeTagged_133 : decode b_Md_writeTagged 133 = .ok (.iinc 3 (1), 3) := by decide +kernel
theorem d_Md_writeTagged_136 : decode b_Md_writeTagged 136 = .ok (.goto (-22), 3) := by decide +kernel
theorem d_Md_writeTagged_139 : decode b_Md_writeTagged 139 = .ok (.goto (8), 3) := by decide +kernel
theorem d_Md_writeTagged_142 : decode b_Md_writeTagged 142 = .ok (.aload_n 0, 1) := by decide +kernel
theorem d_Md_writeTagged_143 : decode b_Md_writeTagged 143 = .ok (.iload_n 2, 1) := by decide +kernel
theorem d_Md_writeTagged_144 : decode b_Md_writeTagged 144 = .ok (.invokevirtual 90, 3) := by decide +kernel
theorem d_Md_writeTagged_147 : decode b_Md_writeTagged 147 = .ok (.return_, 1) := by decide +kernel
theorem d_Md_writeDraft_0 : decode b_Md_writeDraft 0 = .ok (.iconst 0, 1) := by decide +kernel
theorem d_Md_writeDraft_1 : decode b_Md_writeDraft 1 = .ok (.istore_n 1, 1) := by decide +kernel
theorem d_Md_writeDraft_2 : decode b_Md_writeDraft 2 = .ok (.iload_n 1, 1) := by decide +kernel
theorem d_Md_writeDraft_3 : decode b_Md_writeDraft 3 = .ok (.aload_n 0, 1) := by decide +kernel
theorem d_Md_writeDraft_4 : decode b_Md_writeDraft 4 = .ok (.getfield 75, 3) := by decide +kernel
theorem d_Md_writeDraft_7 : decode b_Md_writeDraft 7 = .ok (.if_icmp .ge (98), 3) := by decide +kernel
theorem d_Md_writeDraft_10 : decode b_Md_writeDraft 10 = .ok (.aload_n 0, 1) := by decide +kernel
theorem d_Md_writeDraft_11 : decode b_Md_writeDraft 11 = .ok (.getfield 71, 3) := by decide +kernel
theorem d_Md_writeDraft_14 : decode b_Md_writeDraft 14 = .ok (.ifCond .eq (22), 3) := by decide +kernel
theorem d_Md_writeDraft_17 : decode b_Md_writeDraft 17 = .ok (.aload_n 0, 1) := by decide +kernel
theorem d_Md_writeDraft_18 : decode b_Md_writeDraft 18 = .ok (.getfield 16, 3) := by decide +kernel
theorem d_Md_writeDraft_21 : decode b_Md_writeDraft 21 = .ok (.iload_n 1, 1) := by decide +kernel
theorem d_Md_writeDraft_22 : decode b_Md_writeDraft 22 = .ok (.baload, 1) := by decide +kernel
theorem d_Md_writeDraft_23 : decode b_Md_writeDraft 23 = .ok (.ifCond .eq (13), 3) := by decide +kernel
theorem d_Md_writeDraft_26 : decode b_Md_writeDraft 26 = .ok (.aload_n 0, 1) := by decide +kernel
theorem d_Md_writeDraft_27 : decode b_Md_writeDraft 27 = .ok (.aload_n 0, 1) := by decide +kernel
theorem d_Md_writeDraft_28 : decode b_Md_writeDraft 28 = .ok (.getfield 20, 3) := by decide +kernel
theorem d_Md_writeDraft_31 : decode b_Md_writeDraft 31 = .ok (.iload_n 1, 1) := by decide +kernel
theorem d_Md_writeDraft_32 : decode b_Md_writeDraft 32 = .ok (.iaload, 1) := by decide +kernel
theorem d_Md_writeDraft_33 : decode b_Md_writeDraft 33 = .ok (.invokevirtual 109, 3) := by decide +kernel
theorem d_Md_writeDraft_36 : decode b_Md_writeDraft 36 = .ok (.iconst 0, 1) := by decide +kernel
theorem d_Md_writeDraft_37 : decode b_Md_writeDraft 37 = .ok (.istore_n 2, 1) := by decide +kernel
theorem d_Md_writeDraft_38 : decode b_Md_writeDraft 38 = .ok (.iload_n 2, 1) := by decide +kernel
theorem d_Md_writeDraft_39 : decode b_Md_writeDraft 39 = .ok (.aload_n 0, 1) := by decide +kernel
theorem d_Md_writeDraft_40 : decode b_Md_writeDraft 40 = .ok (.getfield 20, 3) := by decide +kernel
theorem d_Md_writeDraft_43 : decode b_Md_writeDraft 43 = .ok (.iload_n 1, 1) := by decide +kernel
theorem d_Md_writeDraft_44 : decode b_Md_writeDraft 44 = .ok (.iaload, 1) := by decide +kernel
theorem d_Md_writeDraft_45 : decode b_Md_writeDraft 45 = .ok (.if_icmp .ge (54), 3) := by decide +kernel
theorem d_Md_writeDraft_48 : decode b_Md_writeDraft 48 = .ok (.aload_n 0, 1) := by decide +kernel
theorem d_Md_writeDraft_49 : decode b_Md_writeDraft 49 = .ok (.getfield 23, 3) := by decide +kernel
theorem d_Md_writeDraft_52 : decode b_Md_writeDraft 52 = .ok (.iconst 4, 1) := by decide +kernel
theorem d_Md_writeDraft_53 : decode b_Md_writeDraft 53 = .ok (.iload_n 1, 1) := by decide +kernel
theorem d_Md_writeDraft_54 : decode b_Md_writeDraft 54 = .ok (.imul, 1) := by decide +kernel
theorem d_Md_writeDraft_55 : decode b_Md_writeDraft 55 = .ok (.iload_n 2, 1) := by decide +kernel
theorem d_Md_writeDraft_56 : decode b_Md_writeDraft 56 = .ok (.iadd, 1) := by decide +kernel
theorem d_Md_writeDraft_57 : decode b_Md_writeDraft 57 = .ok (.iaload, 1) := by decide +kernel
theorem d_Md_writeDraft_58 : decode b_Md_writeDraft 58 = .ok (.istore_n 3, 1) := by decide +kernel
theorem d_Md_writeDraft_59 : decode b_Md_writeDraft 59 = .ok (.aload_n 0, 1) := by decide +kernel
theorem d_Md_writeDraft_60 : decode b_Md_writeDraft 60 = .ok (.getfield 71, 3) := by decide +kernel
theorem d_Md_writeDraft_63 : decode b_Md_writeDraft 63 = .ok (.ifCond .eq (11), 3) := by decide +kernel
theorem d_Md_writeDraft_66 : decode b_Md_writeDraft 66 = .ok (.aload_n 0, 1) := by decide +kernel
theorem d_Md_writeDraft_67 : decode b_Md_writeDraft 67 = .ok (.iload_n 3, 1) := by decide +kernel
theorem d_Md_writeDraft_68 : decode b_Md_writeDraft 68 = .ok (.invokevirtual 109, 3) := by decide +kernel
theorem d_Md_writeDraft_71 : decode b_Md_writeDraft 71 = .ok (.goto (22), 3) := by decide +kernel
theorem d_Md_writeDraft_74 : decode b_Md_writeDraft 74 = .ok (.aload_n 0, 1) := by decide +kernel
theorem d_Md_writeDraft_75 : decode b_Md_writeDraft 75 = .ok (.getfield 16, 3) := by decide +kernel
theorem d_Md_writeDraft_78 : decode b_Md_writeDraft 78 = .ok (.iload_n 1, 1) := by decide +kernel
theorem d_Md_writeDraft_79 : decode b_Md_writeDraft 79 = .ok (.baload, 1) := by decide +kernel
theorem d_Md_writeDraft_80 : decode b_Md_writeDraft 80 = .ok (.ifCond .ne (7), 3) := by decide +kernel
theorem d_Md_writeDraft_83 : decode b_Md_writeDraft 83 = .ok (.iload_n 3, 1) := by decide +kernel
theorem d_Md_writeDraft_84 : decode b_Md_writeDraft 84 = .ok (.ifCond .eq (9), 3) := by decide +kernel
theorem d_Md_writeDraft_87 : decode b_Md_writeDraft 87 = .ok (.aload_n 0, 1) := by decide +kernel
theorem d_Md_writeDraft_88 : decode b_Md_writeDraft 88 = .ok (.iload_n 1, 1) := by decide +kernel
theorem d_Md_writeDraft_89 : decode b_Md_writeDraft 89 = .ok (.iload_n 3, 1) := by decide +kernel
theorem d_Md_writeDraft_90 : decode b_Md_writeDraft 90 = .ok (.invokevirtual 112, 3) := by decide +kernel
theorem d_Md_writeDraft_93 : decode b_Md_writeDraft 93 = .ok (.iinc 2 (1), 3) := by decide +kernel
theorem d_Md_writeDraft_96 : decode b_Md_writeDraft 96 = .ok (.goto (-58), 3) := by decide +kernel
theorem d_Md_writeDraft_99 : decode b_Md_writeDraft 99 = .ok (.iinc 1 (1), 3) := by decide +kernel
theorem d_Md_writeDraft_102 : decode b_Md_writeDraft 102 = .ok (.goto (-100), 3) := by decide +kernel
theorem d_Md_writeDraft_105 : decode b_Md_writeDraft 105 = .ok (.return_, 1) := by decide +kernel
theorem d_Md_fragment_0 : decode b_Md_fragment 0 = .ok (.aload_n 0, 1) := by decide +kernel
theorem d_Md_fragment_1 : decode b_Md_fragment 1 = .ok (.iconst 0, 1) := by decide +kernel
theorem d_Md_fragment_2 : decode b_Md_fragment 2 = .ok (.putfield 116, 3) := by decide +kernel
theorem d_Md_fragment_5 : decode b_Md_fragment 5 = .ok (.aload_n 0, 1) := by decide +kernel
theorem d_Md_fragment_6 : decode b_Md_fragment 6 = .ok (.getfield 87, 3) := by decide +kernel
theorem d_Md_fragment_9 : decode b_Md_fragment 9 = .ok (.istore_n 1, 1) := by decide +kernel
theorem d_Md_fragment_10 : decode b_Md_fragment 10 = .ok (.iconst 0, 1) := by decide +kernel
theorem d_Md_fragment_11 : decode b_Md_fragment 11 = .ok (.istore_n 2, 1) := by decide +kernel
theorem d_Md_fragment_12 : decode b_Md_fragment 12 = .ok (.iload_n 2, 1) := by decide +kernel
theorem d_Md_fragment_13 : decode b_Md_fragment 13 = .ok (.aload_n 0, 1) := by decide +kernel
theorem d_Md_fragment_14 : decode b_Md_fragment 14 = .ok (.getfield 87, 3) := by decide +kernel
theorem d_Md_fragment_17 : decode b_Md_fragment 17 = .ok (.if_icmp .ge (126), 3) := by decide +kernel
theorem d_Md_fragment_20 : decode b_Md_fragment 20 = .ok (.iload_n 2, 1) := by decide +kernel
theorem d_Md_fragment_21 : decode b_Md_fragment 21 = .ok (.bipush 16, 2) := by decide +kernel
theorem d_Md_fragment_23 : decode b_Md_fragment 23 = .ok (.irem, 1) := by decide +kernel
theorem d_Md_fragment_24 : decode b_Md_fragment 24 = .ok (.ifCond .ne (88), 3) := by decide +kernel
theorem d_Md_fragment_27 : decode b_Md_fragment 27 = .ok (.iload_n 1, 1) := by decide +kernel
theorem d_Md_fragment_28 : decode b_Md_fragment 28 = .ok (.bipush 16, 2) := by decide +kernel
theorem d_Md_fragment_30 : decode b_Md_fragment 30 = .ok (.if_icmp .ge (7), 3) := by decide +kernel
theorem d_Md_fragment_33 : decode b_Md_fragment 33 = .ok (.iload_n 1, 1) := by decide +kernel
theorem d_Md_fragment_34 : decode b_Md_fragment 34 = .ok (.goto (5), 3) := by decide +kernel
theorem d_Md_fragment_37 : decode b_Md_fragment 37 = .ok (.bipush 16, 2) := by decide +kernel
theorem d_Md_fragment_39 : decode b_Md_fragment 39 = .ok (.istore_n 3, 1) := by decide +kernel
theorem d_Md_fragment_40 : decode b_Md_fragment 40 = .ok (.aload_n 0, 1) := by decide +kernel
theorem d_Md_fragment_41 : decode b_Md_fragment 41 = .ok (.getfield 29, 3) := by decide +kernel
theorem d_Md_fragment_44 : decode b_Md_fragment 44 = .ok (.aload_n 0, 1) := by decide +kernel
theorem d_Md_fragment_45 : decode b_Md_fragment 45 = .ok (.getfield 116, 3) := by decide +kernel
theorem d_Md_fragment_48 : decode b_Md_fragment 48 = .ok (.iload_n 1, 1) := by decide +kernel
theorem d_Md_fragment_49 : decode b_Md_fragment 49 = .ok (.bipush 16, 2) := by decide +kernel
theorem d_Md_fragment_51 : decode b_Md_fragment 51 = .ok (.if_icmp .gt (9), 3) := by decide +kernel
theorem d_Md_fragment_54 : decode b_Md_fragment 54 = .ok (.sipush 128, 3) := by decide +kernel
theorem d_Md_fragment_57 : decode b_Md_fragment 57 = .ok (.goto (4), 3) := by decide +kernel
theorem d_Md_fragment_60 : decode b_Md_fragment 60 = .ok (.iconst 0, 1) := by decide +kernel
theorem d_Md_fragment_61 : decode b_Md_fragment 61 = .ok (.iastore, 1) := by decide +kernel
theorem d_Md_fragment_62 : decode b_Md_fragment 62 = .ok (.aload_n 0, 1) := by decide +kernel
theorem d_Md_fragment_63 : decode b_Md_fragment 63 = .ok (.getfield 29, 3) := by decide +kernel
theorem d_Md_fragment_66 : decode b_Md_fragment 66 = .ok (.aload_n 0, 1) := by decide +kernel
theorem d_Md_fragment_67 : decode b_Md_fragment 67 = .ok (.getfield 116, 3) := by decide +kernel
theorem d_Md_fragment_70 : decode b_Md_fragment 70 = .ok (.iconst 1, 1) := by decide +kernel
theorem d_Md_fragment_71 : decode b_Md_fragment 71 = .ok (.iadd, 1) := by decide +kernel
theorem d_Md_fragment_72 : decode b_Md_fragment 72 = .ok (.iconst 0, 1) := by decide +kernel
theorem d_Md_fragment_73 : decode b_Md_fragment 73 = .ok (.iastore, 1) := by decide +kernel
theorem d_Md_fragment_74 : decode b_Md_fragment 74 = .ok (.aload_n 0, 1) := by decide +kernel
theorem d_Md_fragment_75 : decode b_Md_fragment 75 = .ok (.getfield 29, 3) := by decide +kernel
theorem d_Md_fragment_78 : decode b_Md_fragment 78 = .ok (.aload_n 0, 1) := by decide +kernel
theorem d_Md_fragment_79 : decode b_Md_fragment 79 = .ok (.getfield 116, 3) := by decide +kernel
theorem d_Md_fragment_82 : decode b_Md_fragment 82 = .ok (.iconst 2, 1) := by decide +kernel
theorem d_Md_fragment_83 : decode b_Md_fragment 83 = .ok (.iadd, 1) := by decide +kernel
theorem d_Md_fragment_84 : decode b_Md_fragment 84 = .ok (.iconst 0, 1) := by decide +kernel
theorem d_Md_fragment_85 : decode b_Md_fragment 85 = .ok (.iastore, 1) := by decide +kernel
theorem d_Md_fragment_86 : decode b_Md_fragment 86 = .ok (.aload_n 0, 1) := by decide +kernel
theorem d_Md_fragment_87 : decode b_Md_fragment 87 = .ok (.getfield 29, 3) := by decide +kernel
theorem d_Md_fragment_90 : decode b_Md_fragment 90 = .ok (.aload_n 0, 1) := by decide +kernel
theorem d_Md_fragment_91 : decode b_Md_fragment 91 = .ok (.getfield 116, 3) := by decide +kernel
theorem d_Md_fragment_94 : decode b_Md_fragment 94 = .ok (.iconst 3, 1) := by decide +kernel
theorem d_Md_fragment_95 : decode b_Md_fragment 95 = .ok (.iadd, 1) := by decide +kernel
theorem d_Md_fragment_96 : decode b_Md_fragment 96 = .ok (.iload_n 3, 1) := by decide +kernel
theorem d_Md_fragment_97 : decode b_Md_fragment 97 = .ok (.iastore, 1) := by decide +kernel
theorem d_Md_fragment_98 : decode b_Md_fragment 98 = .ok (.aload_n 0, 1) := by decide +kernel
theorem d_Md_fragment_99 : decode b_Md_fragment 99 = .ok (.aload_n 0, 1) := by decide +kernel
theorem d_Md_fragment_100 : decode b_Md_fragment 100 = .ok (.getfield 116, 3) := by decide +kernel
theorem d_Md_fragment_103 : decode b_Md_fragment 103 = .ok (.iconst 4, 1) := by decide +kernel
theorem d_Md_fragment_104 : decode b_Md_fragment 104 = .ok (.iadd, 1) := by decide +kernel
theorem d_Md_fragment_105 : decode b_Md_fragment 105 = .ok (.putfield 116, 3) := by decide +kernel
theorem d_Md_fragment_108 : decode b_Md_fragment 108 = .ok (.iload_n 1, 1) := by decide +kernel
theorem d_Md_fragment_109 : decode b_Md_fragment 109 = .ok (.iload_n 3, 1) := by decide +kernel
theorem d_Md_fragment_110 : decode b_Md_fragment 110 = .ok (.isub, 1) := by decide +kernel
theorem d_Md_fragment_111 : decode b_Md_fragment 111 = .ok (.istore_n 1, 1) := by decide +kernel
theorem d_Md_fragment_112 : decode b_Md_fragment 112 = .ok (.aload_n 0, 1) := by decide +kernel
theorem d_Md_fragment_113 : decode b_Md_fragment 113 = .ok (.getfield 29, 3) := by decide +kernel
theorem d_Md_fragment_116 : decode b_Md_fragment 116 = .ok (.aload_n 0, 1) := by decide +kernel
theorem d_Md_fragment_117 : decode b_Md_fragment 117 = .ok (.getfield 116, 3) := by decide +kernel
theorem d_Md_fragment_120 : decode b_Md_fragment 120 = .ok (.aload_n 0, 1) := by decide +kernel
theorem d_Md_fragment_121 : decode b_Md_fragment 121 = .ok (.getfield 26, 3) := by decide +kernel
theorem d_Md_fragment_124 : decode b_Md_fragment 124 = .ok (.iload_n 2, 1) := by decide +kernel
theorem d_Md_fragment_125 : decode b_Md_fragment 125 = .ok (.iaload, 1) := by decide +kernel
theorem d_Md_fragment_126 : decode b_Md_fragment 126 = .ok (.iastore, 1) := by decide +kernel
theorem d_Md_fragment_127 : decode b_Md_fragment 127 = .ok (.aload_n 0, 1) := by decide +kernel
theorem d_Md_fragment_128 : decode b_Md_fragment 128 = .ok (.dup, 1) := by decide +kernel
theorem d_Md_fragment_129 : decode b_Md_fragment 129 = .ok (.getfield 116, 3) := by decide +kernel
theorem d_Md_fragment_132 : decode b_Md_fragment 132 = .ok (.iconst 1, 1) := by decide +kernel
theorem d_Md_fragment_133 : decode b_Md_fragment 133 = .ok (.iadd, 1) := by decide +kernel
theorem d_Md_fragment_134 : decode b_Md_fragment 134 = .ok (.putfield 116, 3) := by decide +kernel
theorem d_Md_fragment_137 : decode b_Md_fragment 137 = .ok (.iinc 2 (1), 3) := by decide +kernel
theorem d_Md_fragment_140 : decode b_Md_fragment 140 = .ok (.goto (-128), 3) := by decide +kernel
theorem d_Md_fragment_143 : decode b_Md_fragment 143 = .ok (.return_, 1) := by decide +kernel
theorem d_Md_send_0 : decode b_Md_send 0 = .ok (.aload_n 0, 1) := by decide +kernel
theorem d_Md_send_1 : decode b_Md_send 1 = .ok (.getfield 119, 3) := by decide +kernel
theorem d_Md_send_4 : decode b_Md_send 4 = .ok (.bipush 16, 2) := by decide +kernel
theorem d_Md_send_6 : decode b_Md_send 6 = .ok (.if_icmp .ne (4), 3) := by decide +kernel
theorem d_Md_send_9 : decode b_Md_send 9 = .ok (.return_, 1) := by decide +kernel
theorem d_Md_send_10 : decode b_Md_send 10 = .ok (.iconst 0, 1) := by decide +kernel
theorem d_Md_send_11 : decode b_Md_send 11 = .ok (.istore_n 2, 1) := by decide +kernel
theorem d_Md_send_12 : decode b_Md_send 12 = .ok (.iload_n 2, 1) := by decide +kernel
theorem d_Md_send_13 : decode b_Md_send 13 = .ok (.aload_n 0, 1) := by decide +kernel
theorem d_Md_send_14 : decode b_Md_send 14 = .ok (.getfield 116, 3) := by decide +kernel
theorem d_Md_send_17 : decode b_Md_send 17 = .ok (.if_icmp .ge (30), 3) := by decide +kernel
theorem d_Md_send_20 : decode b_Md_send 20 = .ok (.aload_n 0, 1) := by decide +kernel
theorem d_Md_send_21 : decode b_Md_send 21 = .ok (.getfield 32, 3) := by decide +kernel
theorem d_Md_send_24 : decode b_Md_send 24 = .ok (.sipush 160, 3) := by decide +kernel
theorem d_Md_send_27 : decode b_Md_send 27 = .ok (.aload_n 0, 1) := by decide +kernel
theorem d_Md_send_28 : decode b_Md_send 28 = .ok (.getfield 119, 3) := by decide +kernel
theorem d_Md_send_31 : decode b_Md_send 31 = .ok (.imul, 1) := by decide +kernel
theorem d_Md_send_32 : decode b_Md_send 32 = .ok (.iload_n 2, 1) := by decide +kernel
theorem d_Md_send_33 : decode b_Md_send 33 = .ok (.iadd, 1) := by decide +kernel
theorem d_Md_send_34 : decode b_Md_send 34 = .ok (.aload_n 0, 1) := by decide +kernel
theorem d_Md_send_35 : decode b_Md_send 35 = .ok (.getfield 29, 3) := by decide +kernel
theorem d_Md_send_38 : decode b_Md_send 38 = .ok (.iload_n 2, 1) := by decide +kernel
theorem d_Md_send_39 : decode b_Md_send 39 = .ok (.iaload, 1) := by decide +kernel
theorem d_Md_send_40 : decode b_Md_send 40 = .ok (.iastore, 1) := by decide +kernel
theorem d_Md_send_41 : decode b_Md_send 41 = .ok (.iinc 2 (1), 3) := by decide +kernel
theorem d_Md_send_44 : decode b_Md_send 44 = .ok (.goto (-32), 3) := by decide +kernel
theorem d_Md_send_47 : decode b_Md_send 47 = .ok (.aload_n 0, 1) := by decide +kernel
theorem d_Md_send_48 : decode b_Md_send 48 = .ok (.getfield 35, 3) := by decide +kernel
theorem d_Md_send_51 : decode b_Md_send 51 = .ok (.aload_n 0, 1) := by decide +kernel
theorem d_Md_send_52 : decode b_Md_send 52 = .ok (.getfield 119, 3) := by decide +kernel
theorem d_Md_send_55 : decode b_Md_send 55 = .ok (.aload_n 0, 1) := by decide +kernel
theorem d_Md_send_56 : decode b_Md_send 56 = .ok (.getfield 116, 3) := by decide +kernel
theorem d_Md_send_59 : decode b_Md_send 59 = .ok (.iastore, 1) := by decide +kernel
theorem d_Md_send_60 : decode b_Md_send 60 = .ok (.aload_n 0, 1) := by decide +kernel
theorem d_Md_send_61 : decode b_Md_send 61 = .ok (.getfield 38, 3) := by decide +kernel
theorem d_Md_send_64 : decode b_Md_send 64 = .ok (.aload_n 0, 1) := by decide +kernel
theorem d_Md_send_65 : decode b_Md_send 65 = .ok (.getfield 119, 3) := by decide +kernel
theorem d_Md_send_68 : decode b_Md_send 68 = .ok (.iload_n 1, 1) := by decide +kernel
theorem d_Md_send_69 : decode b_Md_send 69 = .ok (.bastore, 1) := by decide +kernel
theorem d_Md_send_70 : decode b_Md_send 70 = .ok (.aload_n 0, 1) := by decide +kernel
theorem d_Md_send_71 : decode b_Md_send 71 = .ok (.dup, 1) := by decide +kernel
theorem d_Md_send_72 : decode b_Md_send 72 = .ok (.getfield 119, 3) := by decide +kernel
theorem d_Md_send_75 : decode b_Md_send 75 = .ok (.iconst 1, 1) := by decide +kernel
theorem d_Md_send_76 : decode b_Md_send 76 = .ok (.iadd, 1) := by decide +kernel
theorem d_Md_send_77 : decode b_Md_send 77 = .ok (.putfield 119, 3) := by decide +kernel
theorem d_Md_send_80 : decode b_Md_send 80 = .ok (.return_, 1) := by decide +kernel
theorem d_Md_isMessage_0 : decode b_Md_isMessage 0 = .ok (.iload_n 1, 1) := by decide +kernel
theorem d_Md_isMessage_1 : decode b_Md_isMessage 1 = .ok (.ifCond .lt (15), 3) := by decide +kernel
theorem d_Md_isMessage_4 : decode b_Md_isMessage 4 = .ok (.iload_n 1, 1) := by decide +kernel
theorem d_Md_isMessage_5 : decode b_Md_isMessage 5 = .ok (.aload_n 0, 1) := by decide +kernel
theorem d_Md_isMessage_6 : decode b_Md_isMessage 6 = .ok (.getfield 119, 3) := by decide +kernel
theorem d_Md_isMessage_9 : decode b_Md_isMessage 9 = .ok (.if_icmp .ge (7), 3) := by decide +kernel
theorem d_Md_isMessage_12 : decode b_Md_isMessage 12 = .ok (.iconst 1, 1) := by decide +kernel
theorem d_Md_isMessage_13 : decode b_Md_isMessage 13 = .ok (.goto (4), 3) := by decide +kernel
theorem d_Md_isMessage_16 : decode b_Md_isMessage 16 = .ok (.iconst 0, 1) := by decide +kernel
theorem d_Md_isMessage_17 : decode b_Md_isMessage 17 = .ok (.ireturn, 1) := by decide +kernel
theorem d_Md_load_0 : decode b_Md_load 0 = .ok (.aload_n 0, 1) := by decide +kernel
theorem d_Md_load_1 : decode b_Md_load 1 = .ok (.aload_n 0, 1) := by decide +kernel
theorem d_Md_load_2 : decode b_Md_load 2 = .ok (.getfield 35, 3) := by decide +kernel
theorem d_Md_load_5 : decode b_Md_load 5 = .ok (.iload_n 1, 1) := by decide +kernel
theorem d_Md_load_6 : decode b_Md_load 6 = .ok (.iaload, 1) := by decide +kernel
theorem d_Md_load_7 : decode b_Md_load 7 = .ok (.putfield 116, 3) := by decide +kernel
theorem d_Md_load_10 : decode b_Md_load 10 = .ok (.iconst 0, 1) := by decide +kernel
theorem d_Md_load_11 : decode b_Md_load 11 = .ok (.istore_n 2, 1) := by decide +kernel
theorem d_Md_load_12 : decode b_Md_load 12 = .ok (.iload_n 2, 1) := by decide +kernel
theorem d_Md_load_13 : decode b_Md_load 13 = .ok (.aload_n 0, 1) := by decide +kernel
theorem d_Md_load_14 : decode b_Md_load 14 = .ok (.getfield 116, 3) := by decide +kernel
theorem d_Md_load_17 : decode b_Md_load 17 = .ok (.if_icmp .ge (27), 3) := by decide +kernel
theorem d_Md_load_20 : decode b_Md_load 20 = .ok (.aload_n 0, 1) := by decide +kernel
theorem d_Md_load_21 : decode b_Md_load 21 = .ok (.getfield 29, 3) := by decide +kernel
theorem d_Md_load_24 : decode b_Md_load 24 = .ok (.iload_n 2, 1) := by decide +kernel
theorem d_Md_load_25 : decode b_Md_load 25 = .ok (.aload_n 0, 1) := by decide +kernel
theorem d_Md_load_26 : decode b_Md_load 26 = .ok (.getfield 32, 3) := by decide +kernel
theorem d_Md_load_29 : decode b_Md_load 29 = .ok (.sipush 160, 3) := by decide +kernel
theorem d_Md_load_32 : decode b_Md_load 32 = .ok (.iload_n 1, 1) := by decide +kernel
theorem d_Md_load_33 : decode b_Md_load 33 = .ok (.imul, 1) := by decide +kernel
theorem d_Md_load_34 : decode b_Md_load 34 = .ok (.iload_n 2, 1) := by decide +kernel
theorem d_Md_load_35 : decode b_Md_load 35 = .ok (.iadd, 1) := by decide +kernel
theorem d_Md_load_36 : decode b_Md_load 36 = .ok (.iaload, 1) := by decide +kernel
theorem d_Md_load_37 : decode b_Md_load 37 = .ok (.iastore, 1) := by decide +kernel
theorem d_Md_load_38 : decode b_Md_load 38 = .ok (.iinc 2 (1), 3) := by decide +kernel
theorem d_Md_load_41 : decode b_Md_load 41 = .ok (.goto (-29), 3) := by decide +kernel
theorem d_Md_load_44 : decode b_Md_load 44 = .ok (.return_, 1) := by decide +kernel
theorem d_Md_lose_0 : decode b_Md_lose 0 = .ok (.aload_n 0, 1) := by decide +kernel
theorem d_Md_lose_1 : decode b_Md_lose 1 = .ok (.iload_n 1, 1) := by decide +kernel
theorem d_Md_lose_2 : decode b_Md_lose 2 = .ok (.invokevirtual 122, 3) := by decide +kernel
theorem d_Md_lose_5 : decode b_Md_lose 5 = .ok (.ifCond .ne (5), 3) := by decide +kernel
theorem d_Md_lose_8 : decode b_Md_lose 8 = .ok (.iconst 0, 1) := by decide +kernel
theorem d_Md_lose_9 : decode b_Md_lose 9 = .ok (.ireturn, 1) := by decide +kernel
theorem d_Md_lose_10 : decode b_Md_lose 10 = .ok (.aload_n 0, 1) := by decide +kernel
theorem d_Md_lose_11 : decode b_Md_lose 11 = .ok (.dup, 1) := by decide +kernel
theorem d_Md_lose_12 : decode b_Md_lose 12 = .ok (.getfield 119, 3) := by decide +kernel
theorem d_Md_lose_15 : decode b_Md_lose 15 = .ok (.iconst 1, 1) := by decide +kernel
theorem d_Md_lose_16 : decode b_Md_lose 16 = .ok (.isub, 1) := by decide +kernel
theorem d_Md_lose_17 : decode b_Md_lose 17 = .ok (.putfield 119, 3) := by decide +kernel
theorem d_Md_lose_20 : decode b_Md_lose 20 = .ok (.iload_n 1, 1) := by decide +kernel
theorem d_Md_lose_21 : decode b_Md_lose 21 = .ok (.istore_n 2, 1) := by decide +kernel
theorem d_Md_lose_22 : decode b_Md_lose 22 = .ok (.iload_n 2, 1) := by decide +kernel
theorem d_Md_lose_23 : decode b_Md_lose 23 = .ok (.aload_n 0, 1) := by decide +kernel
theorem d_Md_lose_24 : decode b_Md_lose 24 = .ok (.getfield 119, 3) := by decide +kernel
theorem d_Md_lose_27 : decode b_Md_lose 27 = .ok (.if_icmp .ge (80), 3) := by decide +kernel
theorem d_Md_lose_30 : decode b_Md_lose 30 = .ok (.iconst 0, 1) := by decide +kernel
theorem d_Md_lose_31 : decode b_Md_lose 31 = .ok (.istore_n 3, 1) := by decide +kernel
theorem d_Md_lose_32 : decode b_Md_lose 32 = .ok (.iload_n 3, 1) := by decide +kernel
theorem d_Md_lose_33 : decode b_Md_lose 33 = .ok (.sipush 160, 3) := by decide +kernel
theorem d_Md_lose_36 : decode b_Md_lose 36 = .ok (.if_icmp .ge (37), 3) := by decide +kernel
theorem d_Md_lose_39 : decode b_Md_lose 39 = .ok (.aload_n 0, 1) := by decide +kernel
theorem d_Md_lose_40 : decode b_Md_lose 40 = .ok (.getfield 32, 3) := by decide +kernel
theorem d_Md_lose_43 : decode b_Md_lose 43 = .ok (.sipush 160, 3) := by decide +kernel
theorem d_Md_lose_46 : decode b_Md_lose 46 = .ok (.iload_n 2, 1) := by decide +kernel
theorem d_Md_lose_47 : decode b_Md_lose 47 = .ok (.imul, 1) := by decide +kernel
theorem d_Md_lose_48 : decode b_Md_lose 48 = .ok (.iload_n 3, 1) := by decide +kernel
theorem d_Md_lose_49 : decode b_Md_lose 49 = .ok (.iadd, 1) := by decide +kernel
theorem d_Md_lose_50 : decode b_Md_lose 50 = .ok (.aload_n 0, 1) := by decide +kernel
theorem d_Md_lose_51 : decode b_Md_lose 51 = .ok (.getfield 32, 3) := by decide +kernel
theorem d_Md_lose_54 : decode b_Md_lose 54 = .ok (.sipush 160, 3) := by decide +kernel
theorem d_Md_lose_57 : decode b_Md_lose 57 = .ok (.iload_n 2, 1) := by decide +kernel
theorem d_Md_lose_58 : decode b_Md_lose 58 = .ok (.imul, 1) := by decide +kernel
theorem d_Md_lose_59 : decode b_Md_lose 59 = .ok (.sipush 160, 3) := by decide +kernel
theorem d_Md_lose_62 : decode b_Md_lose 62 = .ok (.iadd, 1) := by decide +kernel
theorem d_Md_lose_63 : decode b_Md_lose 63 = .ok (.iload_n 3, 1) := by decide +kernel
theorem d_Md_lose_64 : decode b_Md_lose 64 = .ok (.iadd, 1) := by decide +kernel
theorem d_Md_lose_65 : decode b_Md_lose 65 = .ok (.iaload, 1) := by decide +kernel
theorem d_Md_lose_66 : decode b_Md_lose 66 = .ok (.iastore, 1) := by decide +kernel
theorem d_Md_lose_67 : decode b_Md_lose 67 = .ok (.iinc 3 (1), 3) := by decide +kernel
theorem d_Md_lose_70 : decode b_Md_lose 70 = .ok (.goto (-38), 3) := by decide +kernel
theorem d_Md_lose_73 : decode b_Md_lose 73 = .ok (.aload_n 0, 1) := by decide +kernel
theorem d_Md_lose_74 : decode b_Md_lose 74 = .ok (.getfield 35, 3) := by decide +kernel
theorem d_Md_lose_77 : decode b_Md_lose 77 = .ok (.iload_n 2, 1) := by decide +kernel
theorem d_Md_lose_78 : decode b_Md_lose 78 = .ok (.aload_n 0, 1) := by decide +kernel
theorem d_Md_lose_79 : decode b_Md_lose 79 = .ok (.getfield 35, 3) := by decide +kernel
theorem d_Md_lose_82 : decode b_Md_lose 82 = .ok (.iload_n 2, 1) := by decide +kernel
theorem d_Md_lose_83 : decode b_Md_lose 83 = .ok (.iconst 1, 1) := by decide +kernel
theorem d_Md_lose_84 : decode b_Md_lose 84 = .ok (.iadd, 1) := by decide +kernel
theorem d_Md_lose_85 : decode b_Md_lose 85 = .ok (.iaload, 1) := by decide +kernel
theorem d_Md_lose_86 : decode b_Md_lose 86 = .ok (.iastore, 1) := by decide +kernel
theorem d_Md_lose_87 : decode b_Md_lose 87 = .ok (.aload_n 0, 1) := by decide +kernel
theorem d_Md_lose_88 : decode b_Md_lose 88 = .ok (.getfield 38, 3) := by decide +kernel
theorem d_Md_lose_91 : decode b_Md_lose 91 = .ok (.iload_n 2, 1) := by decide +kernel
theorem d_Md_lose_92 : decode b_Md_lose 92 = .ok (.aload_n 0, 1) := by decide +kernel
theorem d_Md_lose_93 : decode b_Md_lose 93 = .ok (.getfield 38, 3) := by decide +kernel
theorem d_Md_lose_96 : decode b_Md_lose 96 = .ok (.iload_n 2, 1) := by decide +kernel
theorem d_Md_lose_97 : decode b_Md_lose 97 = .ok (.iconst 1, 1) := by decide +kernel
theorem d_Md_lose_98 : decode b_Md_lose 98 = .ok (.iadd, 1) := by decide +kernel
theorem d_Md_lose_99 : decode b_Md_lose 99 = .ok (.baload, 1) := by decide +kernel
theorem d_Md_lose_100 : decode b_Md_lose 100 = .ok (.bastore, 1) := by decide +kernel
theorem d_Md_lose_101 : decode b_Md_lose 101 = .ok (.iinc 2 (1), 3) := by decide +kernel
theorem d_Md_lose_104 : decode b_Md_lose 104 = .ok (.goto (-82), 3) := by decide +kernel
theorem d_Md_lose_107 : decode b_Md_lose 107 = .ok (.iconst 1, 1) := by decide +kernel
theorem d_Md_lose_108 : decode b_Md_lose 108 = .ok (.ireturn, 1) := by decide +kernel
theorem d_Md_copy_0 : decode b_Md_copy 0 = .ok (.aload_n 0, 1) := by decide +kernel
theorem d_Md_copy_1 : decode b_Md_copy 1 = .ok (.iload_n 1, 1) := by decide +kernel
theorem d_Md_copy_2 : decode b_Md_copy 2 = .ok (.invokevirtual 122, 3) := by decide +kernel
theorem d_Md_copy_5 : decode b_Md_copy 5 = .ok (.ifCond .eq (12), 3) := by decide +kernel
theorem d_Md_copy_8 : decode b_Md_copy 8 = .ok (.aload_n 0, 1) := by decide +kernel
theorem d_Md_copy_9 : decode b_Md_copy 9 = .ok (.getfield 119, 3) := by decide +kernel
theorem d_Md_copy_12 : decode b_Md_copy 12 = .ok (.bipush 16, 2) := by decide +kernel
theorem d_Md_copy_14 : decode b_Md_copy 14 = .ok (.if_icmp .ne (5), 3) := by decide +kernel
theorem d_Md_copy_17 : decode b_Md_copy 17 = .ok (.iconst 0, 1) := by decide +kernel
theorem d_Md_copy_18 : decode b_Md_copy 18 = .ok (.ireturn, 1) := by decide +kernel
theorem d_Md_copy_19 : decode b_Md_copy 19 = .ok (.aload_n 0, 1) := by decide +kernel
theorem d_Md_copy_20 : decode b_Md_copy 20 = .ok (.iload_n 1, 1) := by decide +kernel
theorem d_Md_copy_21 : decode b_Md_copy 21 = .ok (.invokevirtual 126, 3) := by decide +kernel
theorem d_Md_copy_24 : decode b_Md_copy 24 = .ok (.aload_n 0, 1) := by decide +kernel
theorem d_Md_copy_25 : decode b_Md_copy 25 = .ok (.aload_n 0, 1) := by decide +kernel
theorem d_Md_copy_26 : decode b_Md_copy 26 = .ok (.getfield 38, 3) := by decide +kernel
theorem d_Md_copy_29 : decode b_Md_copy 29 = .ok (.iload_n 1, 1) := by decide +kernel
theorem d_Md_copy_30 : decode b_Md_copy 30 = .ok (.baload, 1) := by decide +kernel
theorem d_Md_copy_31 : decode b_Md_copy 31 = .ok (.invokevirtual 129, 3) := by decide +kernel
theorem d_Md_copy_34 : decode b_Md_copy 34 = .ok (.iconst 1, 1) := by decide +kernel
theorem d_Md_copy_35 : decode b_Md_copy 35 = .ok (.ireturn, 1) := by decide +kernel
theorem d_Md_gather_0 : decode b_Md_gather 0 = .ok (.aload_n 0, 1) := by decide +kernel
theorem d_Md_gather_1 : decode b_Md_gather 1 = .ok (.iconst 0, 1) := by decide +kernel
theorem d_Md_gather_2 : decode b_Md_gather 2 = .ok (.putfield 87, 3) := by decide +kernel
theorem d_Md_gather_5 : decode b_Md_gather 5 = .ok (.iconst 0, 1) := by decide +kernel
theorem d_Md_gather_6 : decode b_Md_gather 6 = .ok (.istore_n 1, 1) := by decide +kernel
theorem d_Md_gather_7 : decode b_Md_gather 7 = .ok (.iconst 0, 1) := by decide +kernel
theorem d_Md_gather_8 : decode b_Md_gather 8 = .ok (.istore_n 2, 1) := by decide +kernel
theorem d_Md_gather_9 : decode b_Md_gather 9 = .ok (.iload_n 2, 1) := by decide +kernel
theorem d_Md_gather_10 : decode b_Md_gather 10 = .ok (.bipush 60, 2) := by decide +kernel
theorem d_Md_gather_12 : decode b_Md_gather 12 = .ok (.if_icmp .ge (155), 3) := by decide +kernel
theorem d_Md_gather_15 : decode b_Md_gather 15 = .ok (.aload_n 0, 1) := by decide +kernel
theorem d_Md_gather_16 : decode b_Md_gather 16 = .ok (.getfield 116, 3) := by decide +kernel
theorem d_Md_gather_19 : decode b_Md_gather 19 = .ok (.iload_n 1, 1) := by decide +kernel
theorem d_Md_gather_20 : decode b_Md_gather 20 = .ok (.isub, 1) := by decide +kernel
theorem d_Md_gather_21 : decode b_Md_gather 21 = .ok (.iconst 4, 1) := by decide +kernel
theorem d_Md_gather_22 : decode b_Md_gather 22 = .ok (.if_icmp .ge (5), 3) := by decide +kernel
theorem d_Md_gather_25 : decode b_Md_gather 25 = .ok (.iconst 0, 1) := by decide +kernel
theorem d_Md_gather_26 : decode b_Md_gather 26 = .ok (.ireturn, 1) := by decide +kernel
theorem d_Md_gather_27 : decode b_Md_gather 27 = .ok (.aload_n 0, 1) := by decide +kernel
theorem d_Md_gather_28 : decode b_Md_gather 28 = .ok (.getfield 29, 3) := by decide +kernel
theorem d_Md_gather_31 : decode b_Md_gather 31 = .ok (.iload_n 1, 1) := by decide +kernel
theorem d_Md_gather_32 : decode b_Md_gather 32 = .ok (.iaload, 1) := by decide +kernel
theorem d_Md_gather_33 : decode b_Md_gather 33 = .ok (.bipush 127, 2) := by decide +kernel
theorem d_Md_gather_35 : decode b_Md_gather 35 = .ok (.iand, 1) := by decide +kernel
theorem d_Md_gather_36 : decode b_Md_gather 36 = .ok (.sipush 256, 3) := by decide +kernel
theorem d_Md_gather_39 : decode b_Md_gather 39 = .ok (.imul, 1) := by decide +kernel
theorem d_Md_gather_40 : decode b_Md_gather 40 = .ok (.aload_n 0, 1) := by decide +kernel
theorem d_Md_gather_41 : decode b_Md_gather 41 = .ok (.getfield 29, 3) := by decide +kernel
theorem d_Md_gather_44 : decode b_Md_gather 44 = .ok (.iload_n 1, 1) := by decide +kernel
theorem d_Md_gather_45 : decode b_Md_gather 45 = .ok (.iconst 1, 1) := by decide +kernel
theorem d_Md_gather_46 : decode b_Md_gather 46 = .ok (.iadd, 1) := by decide +kernel
theorem d_Md_gather_47 : decode b_Md_gather 47 = .ok (.iaload, 1) := by decide +kernel
theorem d_Md_gather_48 : decode b_Md_gather 48 = .ok (.iadd, 1) := by decide +kernel
theorem d_Md_gather_49 : decode b_Md_gather 49 = .ok (.ldc 133, 2) := by decide +kernel
theorem d_Md_gather_51 : decode b_Md_gather 51 = .ok (.imul, 1) := by decide +kernel
theorem d_Md_gather_52 : decode b_Md_gather 52 = .ok (.aload_n 0, 1) := by decide +kernel
theorem d_Md_gather_53 : decode b_Md_gather 53 = .ok (.getfield 29, 3) := by decide +kernel
theorem d_Md_gather_56 : decode b_Md_gather 56 = .ok (.iload_n 1, 1) := by decide +kernel
theorem d_Md_gather_57 : decode b_Md_gather 57 = .ok (.iconst 2, 1) := by decide +kernel
theorem d_Md_gather_58 : decode b_Md_gather 58 = .ok (.iadd, 1) := by decide +kernel
theorem d_Md_gather_59 : decode b_Md_gather 59 = .ok (.iaload, 1) := by decide +kernel
theorem d_Md_gather_60 : decode b_Md_gather 60 = .ok (.sipush 256, 3) := by decide +kernel
theorem d_Md_gather_63 : decode b_Md_gather 63 = .ok (.imul, 1) := by decide +kernel
theorem d_Md_gather_64 : decode b_Md_gather 64 = .ok (.iadd, 1) := by decide +kernel
theorem d_Md_gather_65 : decode b_Md_gather 65 = .ok (.aload_n 0, 1) := by decide +kernel
theorem d_Md_gather_66 : decode b_Md_gather 66 = .ok (.getfield 29, 3) := by decide +kernel
theorem d_Md_gather_69 : decode b_Md_gather 69 = .ok (.iload_n 1, 1) := by decide +kernel
theorem d_Md_gather_70 : decode b_Md_gather 70 = .ok (.iconst 3, 1) := by decide +kernel
theorem d_Md_gather_71 : decode b_Md_gather 71 = .ok (.iadd, 1) := by decide +kernel
theorem d_Md_gather_72 : decode b_Md_gather 72 = .ok (.iaload, 1) := by decide +kernel
theorem d_Md_gather_73 : decode b_Md_gather 73 = .ok (.iadd, 1) := by decide +kernel
theorem d_Md_gather_74 : decode b_Md_gather 74 = .ok (.istore_n 3, 1) := by decide +kernel
theorem d_Md_gather_75 : decode b_Md_gather 75 = .ok (.aload_n 0, 1) := by decide +kernel
theorem d_Md_gather_76 : decode b_Md_gather 76 = .ok (.getfield 29, 3) := by decide +kernel
theorem d_Md_gather_79 : decode b_Md_gather 79 = .ok (.iload_n 1, 1) := by decide +kernel
theorem d_Md_gather_80 : decode b_Md_gather 80 = .ok (.iaload, 1) := by decide +kernel
theorem d_Md_gather_81 : decode b_Md_gather 81 = .ok (.sipush 128, 3) := by decide +kernel
theorem d_Md_gather_84 : decode b_Md_gather 84 = .ok (.if_icmp .lt (7), 3) := by decide +kernel
theorem d_Md_gather_87 : decode b_Md_gather 87 = .ok (.iconst 1, 1) := by decide +kernel
theorem d_Md_gather_88 : decode b_Md_gather 88 = .ok (.goto (4), 3) := by decide +kernel
theorem d_Md_gather_91 : decode b_Md_gather 91 = .ok (.iconst 0, 1) := by decide +kernel
theorem d_Md_gather_92 : decode b_Md_gather 92 = .ok (.istore 4, 2) := by decide +kernel
theorem d_Md_gather_94 : decode b_Md_gather 94 = .ok (.iload_n 1, 1) := by decide +kernel
theorem d_Md_gather_95 : decode b_Md_gather 95 = .ok (.iconst 4, 1) := by decide +kernel
theorem d_Md_gather_96 : decode b_Md_gather 96 = .ok (.iadd, 1) := by decide +kernel
theorem d_Md_gather_97 : decode b_Md_gather 97 = .ok (.istore_n 1, 1) := by decide +kernel
theorem d_Md_gather_98 : decode b_Md_gather 98 = .ok (.iload_n 3, 1) := by decide +kernel
theorem d_Md_gather_99 : decode b_Md_gather 99 = .ok (.aload_n 0, 1) := by decide +kernel
theorem d_Md_gather_100 : decode b_Md_gather 100 = .ok (.getfield 116, 3) := by decide +kernel
theorem d_Md_gather_103 : decode b_Md_gather 103 = .ok (.iload_n 1, 1) := by decide +kernel
theorem d_Md_gather_104 : decode b_Md_gather 104 = .ok (.isub, 1) := by decide +kernel
theorem d_Md_gather_105 : decode b_Md_gather 105 = .ok (.if_icmp .le (5), 3) := by decide +kernel
theorem d_Md_gather_108 : decode b_Md_gather 108 = .ok (.iconst 0, 1) := by decide +kernel
theorem d_Md_gather_109 : decode b_Md_gather 109 = .ok (.ireturn, 1) := by decide +kernel
theorem d_Md_gather_110 : decode b_Md_gather 110 = .ok (.iconst 0, 1) := by decide +kernel
theorem d_Md_gather_111 : decode b_Md_gather 111 = .ok (.istore 5, 2) := by decide +kernel
theorem d_Md_gather_113 : decode b_Md_gather 113 = .ok (.iload 5, 2) := by decide +kernel
theorem d_Md_gather_115 : decode b_Md_gather 115 = .ok (.iload_n 3, 1) := by decide +kernel
theorem d_Md_gather_116 : decode b_Md_gather 116 = .ok (.if_icmp .ge (22), 3) := by decide +kernel
theorem d_Md_gather_119 : decode b_Md_gather 119 = .ok (.aload_n 0, 1) := by decide +kernel
theorem d_Md_gather_120 : decode b_Md_gather 120 = .ok (.aload_n 0, 1) := by decide +kernel
theorem d_Md_gather_121 : decode b_Md_gather 121 = .ok (.getfield 29, 3) := by decide +kernel
theorem d_Md_gather_124 : decode b_Md_gather 124 = .ok (.iload_n 1, 1) := by decide +kernel
theorem d_Md_gather_125 : decode b_Md_gather 125 = .ok (.iload 5, 2) := by decide +kernel
theorem d_Md_gather_127 : decode b_Md_gather 127 = .ok (.iadd, 1) := by decide +kernel
theorem d_Md_gather_128 : decode b_Md_gather 128 = .ok (.iaload, 1) := by decide +kernel
theorem d_Md_gather_129 : decode b_Md_gather 129 = .ok (.invokevirtual 90, 3) := by decide +kernel
theorem d_Md_gather_132 : decode b_Md_gather 132 = .ok (.iinc 5 (1), 3) := by decide +kernel
theorem d_Md_gather_135 : decode b_Md_gather 135 = .ok (.goto (-22), 3) := by decide +kernel
theorem d_Md_gather_138 : decode b_Md_gather 138 = .ok (.iload_n 1, 1) := by decide +kernel
theorem d_Md_gather_139 : decode b_Md_gather 139 = .ok (.iload_n 3, 1) := by decide +kernel
theorem d_Md_gather_140 : decode b_Md_gather 140 = .ok (.iadd, 1) := by decide +kernel
theorem d_Md_gather_141 : decode b_Md_gather 141 = .ok (.istore_n 1, 1) := by decide +kernel
theorem d_Md_gather_142 : decode b_Md_gather 142 = .ok (.iload 4, 2) := by decide +kernel
theorem d_Md_gather_144 : decode b_Md_gather 144 = .ok (.ifCond .eq (17), 3) := by decide +kernel
theorem d_Md_gather_147 : decode b_Md_gather 147 = .ok (.iload_n 1, 1) := by decide +kernel
theorem d_Md_gather_148 : decode b_Md_gather 148 = .ok (.aload_n 0, 1) := by decide +kernel
theorem d_Md_gather_149 : decode b_Md_gather 149 = .ok (.getfield 116, 3) := by decide +kernel
theorem d_Md_gather_152 : decode b_Md_gather 152 = .ok (.if_icmp .ne (7), 3) := by decide +kernel
theorem d_Md_gather_155 : decode b_Md_gather 155 = .ok (.iconst 1, 1) := by decide +kernel
theorem d_Md_gather_156 : decode b_Md_gather 156 = .ok (.goto (4), 3) := by decide +kernel
theorem d_Md_gather_159 : decode b_Md_gather 159 = .ok (.iconst 0, 1) := by decide +kernel
theorem d_Md_gather_160 : decode b_Md_gather 160 = .ok (.ireturn, 1) := by decide +kernel
theorem d_Md_gather_161 : decode b_Md_gather 161 = .ok (.iinc 2 (1), 3) := by decide +kernel
theorem d_Md_gather_164 : decode b_Md_gather 164 = .ok (.goto (-155), 3) := by decide +kernel
theorem d_Md_gather_167 : decode b_Md_gather 167 = .ok (.iconst 0, 1) := by decide +kernel
theorem d_Md_gather_168 : decode b_Md_gather 168 = .ok (.ireturn, 1) := by decide +kernel
