theorem d_Md_word_0 : decode b_Md_word 0 = .ok (.aload_n 0, 1) := by decide +kernel
theorem d_Md_word_1 : decode b_Md_word 1 = .ok (.getfield 26, 3) := by decide +kernel
theorem d_Md_word_4 : decode b_Md_word 4 = .ok (.iload_n 1, 1) := by decide +kernel
theorem d_Md_word_5 : decode b_Md_word 5 = .ok (.iaload, 1) := by decide +kernel
theorem d_Md_word_6 : decode b_Md_word 6 = .ok (.bipush 24, 2) := by decide +kernel
theorem d_Md_word_8 : decode b_Md_word 8 = .ok (.ishl, 1) := by decide +kernel
theorem d_Md_word_9 : decode b_Md_word 9 = .ok (.aload_n 0, 1) := by decide +kernel
theorem d_Md_word_10 : decode b_Md_word 10 = .ok (.getfield 26, 3) := by decide +kernel
theorem d_Md_word_13 : decode b_Md_word 13 = .ok (.iload_n 1, 1) := by decide +kernel
theorem d_Md_word_14 : decode b_Md_word 14 = .ok (.iconst 1, 1) := by decide +kernel
theorem d_Md_word_15 : decode b_Md_word 15 = .ok (.iadd, 1) := by decide +kernel
theorem d_Md_word_16 : decode b_Md_word 16 = .ok (.iaload, 1) := by decide +kernel
theorem d_Md_word_17 : decode b_Md_word 17 = .ok (.bipush 16, 2) := by decide +kernel
theorem d_Md_word_19 : decode b_Md_word 19 = .ok (.ishl, 1) := by decide +kernel
theorem d_Md_word_20 : decode b_Md_word 20 = .ok (.ior, 1) := by decide +kernel
theorem d_Md_word_21 : decode b_Md_word 21 = .ok (.aload_n 0, 1) := by decide +kernel
theorem d_Md_word_22 : decode b_Md_word 22 = .ok (.getfield 26, 3) := by decide +kernel
theorem d_Md_word_25 : decode b_Md_word 25 = .ok (.iload_n 1, 1) := by decide +kernel
theorem d_Md_word_26 : decode b_Md_word 26 = .ok (.iconst 2, 1) := by decide +kernel
theorem d_Md_word_27 : decode b_Md_word 27 = .ok (.iadd, 1) := by decide +kernel
theorem d_Md_word_28 : decode b_Md_word 28 = .ok (.iaload, 1) := by decide +kernel
theorem d_Md_word_29 : decode b_Md_word 29 = .ok (.bipush 8, 2) := by decide +kernel
theorem d_Md_word_31 : decode b_Md_word 31 = .ok (.ishl, 1) := by decide +kernel
theorem d_Md_word_32 : decode b_Md_word 32 = .ok (.ior, 1) := by decide +kernel
theorem d_Md_word_33 : decode b_Md_word 33 = .ok (.aload_n 0, 1) := by decide +kernel
theorem d_Md_word_34 : decode b_Md_word 34 = .ok (.getfield 26, 3) := by decide +kernel
theorem d_Md_word_37 : decode b_Md_word 37 = .ok (.iload_n 1, 1) := by decide +kernel
theorem d_Md_word_38 : decode b_Md_word 38 = .ok (.iconst 3, 1) := by decide +kernel
theorem d_Md_word_39 : decode b_Md_word 39 = .ok (.iadd, 1) := by decide +kernel
theorem d_Md_word_40 : decode b_Md_word 40 = .ok (.iaload, 1) := by decide +kernel
theorem d_Md_word_41 : decode b_Md_word 41 = .ok (.ior, 1) := by decide +kernel
theorem d_Md_word_42 : decode b_Md_word 42 = .ok (.ireturn, 1) := by decide +kernel
theorem d_Md_readVarint_0 : decode b_Md_readVarint 0 = .ok (.iconst (-1), 1) := by decide +kernel
theorem d_Md_readVarint_1 : decode b_Md_readVarint 1 = .ok (.istore_n 1, 1) := by decide +kernel
theorem d_Md_readVarint_2 : decode b_Md_readVarint 2 = .ok (.bipush 9, 2) := by decide +kernel
theorem d_Md_readVarint_4 : decode b_Md_readVarint 4 = .ok (.istore_n 2, 1) := by decide +kernel
theorem d_Md_readVarint_5 : decode b_Md_readVarint 5 = .ok (.iload_n 2, 1) := by decide +kernel
theorem d_Md_readVarint_6 : decode b_Md_readVarint 6 = .ok (.ifCond .lt (50), 3) := by decide +kernel
theorem d_Md_readVarint_9 : decode b_Md_readVarint 9 = .ok (.aload_n 0, 1) := by decide +kernel
theorem d_Md_readVarint_10 : decode b_Md_readVarint 10 = .ok (.getfield 134, 3) := by decide +kernel
theorem d_Md_readVarint_13 : decode b_Md_readVarint 13 = .ok (.iload_n 2, 1) := by decide +kernel
theorem d_Md_readVarint_14 : decode b_Md_readVarint 14 = .ok (.iadd, 1) := by decide +kernel
theorem d_Md_readVarint_15 : decode b_Md_readVarint 15 = .ok (.aload_n 0, 1) := by decide +kernel
theorem d_Md_readVarint_16 : decode b_Md_readVarint 16 = .ok (.getfield 87, 3) := by decide +kernel
theorem d_Md_readVarint_19 : decode b_Md_readVarint 19 = .ok (.if_icmp .ge (29), 3) := by decide +kernel
theorem d_Md_readVarint_22 : decode b_Md_readVarint 22 = .ok (.aload_n 0, 1) := by decide +kernel
theorem d_Md_readVarint_23 : decode b_Md_readVarint 23 = .ok (.getfield 26, 3) := by decide +kernel
theorem d_Md_readVarint_26 : decode b_Md_readVarint 26 = .ok (.aload_n 0, 1) := by decide +kernel
theorem d_Md_readVarint_27 : decode b_Md_readVarint 27 = .ok (.getfield 134, 3) := by decide +kernel
theorem d_Md_readVarint_30 : decode b_Md_readVarint 30 = .ok (.iload_n 2, 1) := by decide +kernel
theorem d_Md_readVarint_31 : decode b_Md_readVarint 31 = .ok (.iadd, 1) := by decide +kernel
theorem d_Md_readVarint_32 : decode b_Md_readVarint 32 = .ok (.iaload, 1) := by decide +kernel
theorem d_Md_readVarint_33 : decode b_Md_readVarint 33 = .ok (.sipush 128, 3) := by decide +kernel
theorem d_Md_readVarint_36 : decode b_Md_readVarint 36 = .ok (.if_icmp .ge (12), 3) := by decide +kernel
theorem d_Md_readVarint_39 : decode b_Md_readVarint 39 = .ok (.aload_n 0, 1) := by decide +kernel
theorem d_Md_readVarint_40 : decode b_Md_readVarint 40 = .ok (.getfield 134, 3) := by decide +kernel
theorem d_Md_readVarint_43 : decode b_Md_readVarint 43 = .ok (.iload_n 2, 1) := by decide +kernel
theorem d_Md_readVarint_44 : decode b_Md_readVarint 44 = .ok (.iadd, 1) := by decide +kernel
theorem d_Md_readVarint_45 : decode b_Md_readVarint 45 = .ok (.goto (4), 3) := by decide +kernel
theorem d_Md_readVarint_48 : decode b_Md_readVarint 48 = .ok (.iload_n 1, 1) := by decide +kernel
theorem d_Md_readVarint_49 : decode b_Md_readVarint 49 = .ok (.istore_n 1, 1) := by decide +kernel
theorem d_Md_readVarint_50 : decode b_Md_readVarint 50 = .ok (.iinc 2 (-1), 3) := by decide +kernel
theorem d_Md_readVarint_53 : decode b_Md_readVarint 53 = .ok (.goto (-48), 3) := by decide +kernel
theorem d_Md_readVarint_56 : decode b_Md_readVarint 56 = .ok (.iload_n 1, 1) := by decide +kernel
theorem d_Md_readVarint_57 : decode b_Md_readVarint 57 = .ok (.ifCond .ge (5), 3) := by decide +kernel
theorem d_Md_readVarint_60 : decode b_Md_readVarint 60 = .ok (.iconst 0, 1) := by decide +kernel
theorem d_Md_readVarint_61 : decode b_Md_readVarint 61 = .ok (.ireturn, 1) := by decide +kernel
theorem d_Md_readVarint_62 : decode b_Md_readVarint 62 = .ok (.aload_n 0, 1) := by decide +kernel
theorem d_Md_readVarint_63 : decode b_Md_readVarint 63 = .ok (.lconst 0, 1) := by decide +kernel
theorem d_Md_readVarint_64 : decode b_Md_readVarint 64 = .ok (.putfield 137, 3) := by decide +kernel
theorem d_Md_readVarint_67 : decode b_Md_readVarint 67 = .ok (.iload_n 1, 1) := by decide +kernel
theorem d_Md_readVarint_68 : decode b_Md_readVarint 68 = .ok (.istore_n 2, 1) := by decide +kernel
theorem d_Md_readVarint_69 : decode b_Md_readVarint 69 = .ok (.iload_n 2, 1) := by decide +kernel
theorem d_Md_readVarint_70 : decode b_Md_readVarint 70 = .ok (.aload_n 0, 1) := by decide +kernel
theorem d_Md_readVarint_71 : decode b_Md_readVarint 71 = .ok (.getfield 134, 3) := by decide +kernel
theorem d_Md_readVarint_74 : decode b_Md_readVarint 74 = .ok (.if_icmp .lt (32), 3) := by decide +kernel
theorem d_Md_readVarint_77 : decode b_Md_readVarint 77 = .ok (.aload_n 0, 1) := by decide +kernel
theorem d_Md_readVarint_78 : decode b_Md_readVarint 78 = .ok (.aload_n 0, 1) := by decide +kernel
theorem d_Md_readVarint_79 : decode b_Md_readVarint 79 = .ok (.getfield 137, 3) := by decide +kernel
theorem d_Md_readVarint_82 : decode b_Md_readVarint 82 = .ok (.ldc2_w 93, 3) := by decide +kernel
theorem d_Md_readVarint_85 : decode b_Md_readVarint 85 = .ok (.lmul, 1) := by decide +kernel
theorem d_Md_readVarint_86 : decode b_Md_readVarint 86 = .ok (.aload_n 0, 1) := by decide +kernel
theorem d_Md_readVarint_87 : decode b_Md_readVarint 87 = .ok (.getfield 26, 3) := by decide +kernel
theorem d_Md_readVarint_90 : decode b_Md_readVarint 90 = .ok (.iload_n 2, 1) := by decide +kernel
theorem d_Md_readVarint_91 : decode b_Md_readVarint 91 = .ok (.iaload, 1) := by decide +kernel
theorem d_Md_readVarint_92 : decode b_Md_readVarint 92 = .ok (.bipush 127, 2) := by decide +kernel
theorem d_Md_readVarint_94 : decode b_Md_readVarint 94 = .ok (.iand, 1) := by decide +kernel
theorem d_Md_readVarint_95 : decode b_Md_readVarint 95 = .ok (.i2l, 1) := by decide +kernel
theorem d_Md_readVarint_96 : decode b_Md_readVarint 96 = .ok (.ladd, 1) := by decide +kernel
theorem d_Md_readVarint_97 : decode b_Md_readVarint 97 = .ok (.putfield 137, 3) := by decide +kernel
theorem d_Md_readVarint_100 : decode b_Md_readVarint 100 = .ok (.iinc 2 (-1), 3) := by decide +kernel
theorem d_Md_readVarint_103 : decode b_Md_readVarint 103 = .ok (.goto (-34), 3) := by decide +kernel
theorem d_Md_readVarint_106 : decode b_Md_readVarint 106 = .ok (.aload_n 0, 1) := by decide +kernel
theorem d_Md_readVarint_107 : decode b_Md_readVarint 107 = .ok (.iload_n 1, 1) := by decide +kernel
theorem d_Md_readVarint_108 : decode b_Md_readVarint 108 = .ok (.iconst 1, 1) := by decide +kernel
theorem d_Md_readVarint_109 : decode b_Md_readVarint 109 = .ok (.iadd, 1) := by decide +kernel
theorem d_Md_readVarint_110 : decode b_Md_readVarint 110 = .ok (.putfield 134, 3) := by decide +kernel
theorem d_Md_readVarint_113 : decode b_Md_readVarint 113 = .ok (.iconst 1, 1) := by decide +kernel
theorem d_Md_readVarint_114 : decode b_Md_readVarint 114 = .ok (.ireturn, 1) := by decide +kernel
theorem d_Md_fieldOf_0 : decode b_Md_fieldOf 0 = .ok (.iconst 0, 1) := by decide +kernel
theorem d_Md_fieldOf_1 : decode b_Md_fieldOf 1 = .ok (.istore_n 3, 1) := by decide +kernel
theorem d_Md_fieldOf_2 : decode b_Md_fieldOf 2 = .ok (.iload_n 3, 1) := by decide +kernel
theorem d_Md_fieldOf_3 : decode b_Md_fieldOf 3 = .ok (.aload_n 0, 1) := by decide +kernel
theorem d_Md_fieldOf_4 : decode b_Md_fieldOf 4 = .ok (.getfield 75, 3) := by decide +kernel
theorem d_Md_fieldOf_7 : decode b_Md_fieldOf 7 = .ok (.if_icmp .ge (40), 3) := by decide +kernel
theorem d_Md_fieldOf_10 : decode b_Md_fieldOf 10 = .ok (.aload_n 0, 1) := by decide +kernel
theorem d_Md_fieldOf_11 : decode b_Md_fieldOf 11 = .ok (.getfield 7, 3) := by decide +kernel
theorem d_Md_fieldOf_14 : decode b_Md_fieldOf 14 = .ok (.iload_n 3, 1) := by decide +kernel
theorem d_Md_fieldOf_15 : decode b_Md_fieldOf 15 = .ok (.iaload, 1) := by decide +kernel
theorem d_Md_fieldOf_16 : decode b_Md_fieldOf 16 = .ok (.iload_n 1, 1) := by decide +kernel
theorem d_Md_fieldOf_17 : decode b_Md_fieldOf 17 = .ok (.if_icmp .ne (24), 3) := by decide +kernel
theorem d_Md_fieldOf_20 : decode b_Md_fieldOf 20 = .ok (.aload_n 0, 1) := by decide +kernel
theorem d_Md_fieldOf_21 : decode b_Md_fieldOf 21 = .ok (.getfield 13, 3) := by decide +kernel
theorem d_Md_fieldOf_24 : decode b_Md_fieldOf 24 = .ok (.iload_n 3, 1) := by decide +kernel
theorem d_Md_fieldOf_25 : decode b_Md_fieldOf 25 = .ok (.iaload, 1) := by decide +kernel
theorem d_Md_fieldOf_26 : decode b_Md_fieldOf 26 = .ok (.iconst 2, 1) := by decide +kernel
theorem d_Md_fieldOf_27 : decode b_Md_fieldOf 27 = .ok (.if_icmp .ne (7), 3) := by decide +kernel
theorem d_Md_fieldOf_30 : decode b_Md_fieldOf 30 = .ok (.iconst 5, 1) := by decide +kernel
theorem d_Md_fieldOf_31 : decode b_Md_fieldOf 31 = .ok (.goto (4), 3) := by decide +kernel
theorem d_Md_fieldOf_34 : decode b_Md_fieldOf 34 = .ok (.iconst 0, 1) := by decide +kernel
theorem d_Md_fieldOf_35 : decode b_Md_fieldOf 35 = .ok (.iload_n 2, 1) := by decide +kernel
theorem d_Md_fieldOf_36 : decode b_Md_fieldOf 36 = .ok (.if_icmp .ne (5), 3) := by decide +kernel
theorem d_Md_fieldOf_39 : decode b_Md_fieldOf 39 = .ok (.iload_n 3, 1) := by decide +kernel
theorem d_Md_fieldOf_40 : decode b_Md_fieldOf 40 = .ok (.ireturn, 1) := by decide +kernel
theorem d_Md_fieldOf_41 : decode b_Md_fieldOf 41 = .ok (.iinc 3 (1), 3) := by decide +kernel
theorem d_Md_fieldOf_44 : decode b_Md_fieldOf 44 = .ok (.goto (-42), 3) := by decide +kernel
theorem d_Md_fieldOf_47 : decode b_Md_fieldOf 47 = .ok (.iconst (-1), 1) := by decide +kernel
theorem d_Md_fieldOf_48 : decode b_Md_fieldOf 48 = .ok (.ireturn, 1) := by decide +kernel
theorem d_Md_meant_0 : decode b_Md_meant 0 = .ok (.aload_n 0, 1) := by decide +kernel
theorem d_Md_meant_1 : decode b_Md_meant 1 = .ok (.getfield 137, 3) := by decide +kernel
theorem d_Md_meant_4 : decode b_Md_meant 4 = .ok (.ldc2_w 141, 3) := by decide +kernel
theorem d_Md_meant_7 : decode b_Md_meant 7 = .ok (.land, 1) := by decide +kernel
theorem d_Md_meant_8 : decode b_Md_meant 8 = .ok (.lstore_n 2, 1) := by decide +kernel
theorem d_Md_meant_9 : decode b_Md_meant 9 = .ok (.iload_n 1, 1) := by decide +kernel
theorem d_Md_meant_10 : decode b_Md_meant 10 = .ok (.iconst 3, 1) := by decide +kernel
theorem d_Md_meant_11 : decode b_Md_meant 11 = .ok (.if_icmp .ne (18), 3) := by decide +kernel
theorem d_Md_meant_14 : decode b_Md_meant 14 = .ok (.aload_n 0, 1) := by decide +kernel
theorem d_Md_meant_15 : decode b_Md_meant 15 = .ok (.getfield 137, 3) := by decide +kernel
theorem d_Md_meant_18 : decode b_Md_meant 18 = .ok (.lconst 0, 1) := by decide +kernel
theorem d_Md_meant_19 : decode b_Md_meant 19 = .ok (.lcmp, 1) := by decide +kernel
theorem d_Md_meant_20 : decode b_Md_meant 20 = .ok (.ifCond .ne (7), 3) := by decide +kernel
theorem d_Md_meant_23 : decode b_Md_meant 23 = .ok (.iconst 0, 1) := by decide +kernel
theorem d_Md_meant_24 : decode b_Md_meant 24 = .ok (.goto (4), 3) := by decide +kernel
theorem d_Md_meant_27 : decode b_Md_meant 27 = .ok (.iconst 1, 1) := by decide +kernel
theorem d_Md_meant_28 : decode b_Md_meant 28 = .ok (.ireturn, 1) := by decide +kernel
theorem d_Md_meant_29 : decode b_Md_meant 29 = .ok (.iload_n 1, 1) := by decide +kernel
theorem d_Md_meant_30 : decode b_Md_meant 30 = .ok (.iconst 1, 1) := by decide +kernel
theorem d_Md_meant_31 : decode b_Md_meant 31 = .ok (.if_icmp .ne (32), 3) := by decide +kernel
theorem d_Md_meant_34 : decode b_Md_meant 34 = .ok (.lload_n 2, 1) := by decide +kernel
theorem d_Md_meant_35 : decode b_Md_meant 35 = .ok (.ldc2_w 107, 3) := by decide +kernel
theorem d_Md_meant_38 : decode b_Md_meant 38 = .ok (.lrem, 1) := by decide +kernel
theorem d_Md_meant_39 : decode b_Md_meant 39 = .ok (.lconst 0, 1) := by decide +kernel
theorem d_Md_meant_40 : decode b_Md_meant 40 = .ok (.lcmp, 1) := by decide +kernel
theorem d_Md_meant_41 : decode b_Md_meant 41 = .ok (.ifCond .ne (12), 3) := by decide +kernel
theorem d_Md_meant_44 : decode b_Md_meant 44 = .ok (.lload_n 2, 1) := by decide +kernel
theorem d_Md_meant_45 : decode b_Md_meant 45 = .ok (.ldc2_w 107, 3) := by decide +kernel
theorem d_Md_meant_48 : decode b_Md_meant 48 = .ok (.ldiv, 1) := by decide +kernel
theorem d_Md_meant_49 : decode b_Md_meant 49 = .ok (.l2i, 1) := by decide +kernel
theorem d_Md_meant_50 : decode b_Md_meant 50 = .ok (.goto (12), 3) := by decide +kernel
theorem d_Md_meant_53 : decode b_Md_meant 53 = .ok (.lload_n 2, 1) := by decide +kernel
theorem d_Md_meant_54 : decode b_Md_meant 54 = .ok (.ldc2_w 107, 3) := by decide +kernel
theorem d_Md_meant_57 : decode b_Md_meant 57 = .ok (.ldiv, 1) := by decide +kernel
theorem d_Md_meant_58 : decode b_Md_meant 58 = .ok (.lneg, 1) := by decide +kernel
theorem d_Md_meant_59 : decode b_Md_meant 59 = .ok (.lconst 1, 1) := by decide +kernel
theorem d_Md_meant_60 : decode b_Md_meant 60 = .ok (.lsub, 1) := by decide +kernel
theorem d_Md_meant_61 : decode b_Md_meant 61 = .ok (.l2i, 1) := by decide +kernel
theorem d_Md_meant_62 : decode b_Md_meant 62 = .ok (.ireturn, 1) := by decide +kernel
theorem d_Md_meant_63 : decode b_Md_meant 63 = .ok (.lload_n 2, 1) := by decide +kernel
theorem d_Md_meant_64 : decode b_Md_meant 64 = .ok (.l2i, 1) := by decide +kernel
theorem d_Md_meant_65 : decode b_Md_meant 65 = .ok (.ireturn, 1) := by decide +kernel
theorem d_Md_readTagged_0 : decode b_Md_readTagged 0 = .ok (.aload_n 0, 1) := by decide +kernel
theorem d_Md_readTagged_1 : decode b_Md_readTagged 1 = .ok (.invokevirtual 143, 3) := by decide +kernel
theorem d_Md_readTagged_4 : decode b_Md_readTagged 4 = .ok (.ifCond .eq (25), 3) := by decide +kernel
theorem d_Md_readTagged_7 : decode b_Md_readTagged 7 = .ok (.aload_n 0, 1) := by decide +kernel
theorem d_Md_readTagged_8 : decode b_Md_readTagged 8 = .ok (.getfield 137, 3) := by decide +kernel
theorem d_Md_readTagged_11 : decode b_Md_readTagged 11 = .ok (.ldc2_w 95, 3) := by decide +kernel
theorem d_Md_readTagged_14 : decode b_Md_readTagged 14 = .ok (.lcmp, 1) := by decide +kernel
theorem d_Md_readTagged_15 : decode b_Md_readTagged 15 = .ok (.ifCond .lt (14), 3) := by decide +kernel
theorem d_Md_readTagged_18 : decode b_Md_readTagged 18 = .ok (.aload_n 0, 1) := by decide +kernel
theorem d_Md_readTagged_19 : decode b_Md_readTagged 19 = .ok (.getfield 137, 3) := by decide +kernel
theorem d_Md_readTagged_22 : decode b_Md_readTagged 22 = .ok (.ldc2_w 141, 3) := by decide +kernel
theorem d_Md_readTagged_25 : decode b_Md_readTagged 25 = .ok (.lcmp, 1) := by decide +kernel
theorem d_Md_readTagged_26 : decode b_Md_readTagged 26 = .ok (.ifCond .le (5), 3) := by decide +kernel
theorem d_Md_readTagged_29 : decode b_Md_readTagged 29 = .ok (.iconst 0, 1) := by decide +kernel
theorem d_Md_readTagged_30 : decode b_Md_readTagged 30 = .ok (.ireturn, 1) := by decide +kernel
theorem d_Md_readTagged_31 : decode b_Md_readTagged 31 = .ok (.aload_n 0, 1) := by decide +kernel
theorem d_Md_readTagged_32 : decode b_Md_readTagged 32 = .ok (.getfield 137, 3) := by decide +kernel
theorem d_Md_readTagged_35 : decode b_Md_readTagged 35 = .ok (.ldc2_w 95, 3) := by decide +kernel
theorem d_Md_readTagged_38 : decode b_Md_readTagged 38 = .ok (.lrem, 1) := by decide +kernel
theorem d_Md_readTagged_39 : decode b_Md_readTagged 39 = .ok (.l2i, 1) := by decide +kernel
theorem d_Md_readTagged_40 : decode b_Md_readTagged 40 = .ok (.istore_n 1, 1) := by decide +kernel
theorem d_Md_readTagged_41 : decode b_Md_readTagged 41 = .ok (.aload_n 0, 1) := by decide +kernel
theorem d_Md_readTagged_42 : decode b_Md_readTagged 42 = .ok (.aload_n 0, 1) := by decide +kernel
theorem d_Md_readTagged_43 : decode b_Md_readTagged 43 = .ok (.getfield 137, 3) := by decide +kernel
theorem d_Md_readTagged_46 : decode b_Md_readTagged 46 = .ok (.ldc2_w 95, 3) := by decide +kernel
theorem d_Md_readTagged_49 : decode b_Md_readTagged 49 = .ok (.ldiv, 1) := by decide +kernel
theorem d_Md_readTagged_50 : decode b_Md_readTagged 50 = .ok (.l2i, 1) := by decide +kernel
theorem d_Md_readTagged_51 : decode b_Md_readTagged 51 = .ok (.iload_n 1, 1) := by decide +kernel
theorem d_Md_readTagged_52 : decode b_Md_readTagged 52 = .ok (.invokevirtual 147, 3) := by decide +kernel
theorem d_Md_readTagged_55 : decode b_Md_readTagged 55 = .ok (.istore_n 2, 1) := by decide +kernel
theorem d_Md_readTagged_56 : decode b_Md_readTagged 56 = .ok (.iload_n 1, 1) := by decide +kernel
theorem d_Md_readTagged_57 : decode b_Md_readTagged 57 = .ok (.ifCond .ne (40), 3) := by decide +kernel
theorem d_Md_readTagged_60 : decode b_Md_readTagged 60 = .ok (.aload_n 0, 1) := by decide +kernel
theorem d_Md_readTagged_61 : decode b_Md_readTagged 61 = .ok (.invokevirtual 143, 3) := by decide +kernel
theorem d_Md_readTagged_64 : decode b_Md_readTagged 64 = .ok (.ifCond .eq (31), 3) := by decide +kernel
theorem d_Md_readTagged_67 : decode b_Md_readTagged 67 = .ok (.iload_n 2, 1) := by decide +kernel
theorem d_Md_readTagged_68 : decode b_Md_readTagged 68 = .ok (.ifCond .lt (23), 3) := by decide +kernel
theorem d_Md_readTagged_71 : decode b_Md_readTagged 71 = .ok (.aload_n 0, 1) := by decide +kernel
theorem d_Md_readTagged_72 : decode b_Md_readTagged 72 = .ok (.iconst 4, 1) := by decide +kernel
theorem d_Md_readTagged_73 : decode b_Md_readTagged 73 = .ok (.iload_n 2, 1) := by decide +kernel
theorem d_Md_readTagged_74 : decode b_Md_readTagged 74 = .ok (.iadd, 1) := by decide +kernel
theorem d_Md_readTagged_75 : decode b_Md_readTagged 75 = .ok (.aload_n 0, 1) := by decide +kernel
theorem d_Md_readTagged_76 : decode b_Md_readTagged 76 = .ok (.aload_n 0, 1) := by decide +kernel
theorem d_Md_readTagged_77 : decode b_Md_readTagged 77 = .ok (.getfield 13, 3) := by decide +kernel
theorem d_Md_readTagged_80 : decode b_Md_readTagged 80 = .ok (.iload_n 2, 1) := by decide +kernel
theorem d_Md_readTagged_81 : decode b_Md_readTagged 81 = .ok (.iaload, 1) := by decide +kernel
theorem d_Md_readTagged_82 : decode b_Md_readTagged 82 = .ok (.invokevirtual 151, 3) := by decide +kernel
theorem d_Md_readTagged_85 : decode b_Md_readTagged 85 = .ok (.invokevirtual 83, 3) := by decide +kernel
theorem d_Md_readTagged_88 : decode b_Md_readTagged 88 = .ok (.ifCond .eq (7), 3) := by decide +kernel
theorem d_Md_readTagged_91 : decode b_Md_readTagged 91 = .ok (.iconst 1, 1) := by decide +kernel
theorem d_Md_readTagged_92 : decode b_Md_readTagged 92 = .ok (.goto (4), 3) := by decide +kernel
theorem d_Md_readTagged_95 : decode b_Md_readTagged 95 = .ok (.iconst 0, 1) := by decide +kernel
theorem d_Md_readTagged_96 : decode b_Md_readTagged 96 = .ok (.ireturn, 1) := by decide +kernel
theorem d_Md_readTagged_97 : decode b_Md_readTagged 97 = .ok (.iload_n 1, 1) := by decide +kernel
theorem d_Md_readTagged_98 : decode b_Md_readTagged 98 = .ok (.iconst 2, 1) := by decide +kernel
theorem d_Md_readTagged_99 : decode b_Md_readTagged 99 = .ok (.if_icmp .ne (12), 3) := by decide +kernel
theorem d_Md_readTagged_102 : decode b_Md_readTagged 102 = .ok (.aload_n 0, 1) := by decide +kernel
theorem d_Md_readTagged_103 : decode b_Md_readTagged 103 = .ok (.invokevirtual 143, 3) := by decide +kernel
theorem d_Md_readTagged_106 : decode b_Md_readTagged 106 = .ok (.ifCond .ne (5), 3) := by decide +kernel
theorem d_Md_readTagged_109 : decode b_Md_readTagged 109 = .ok (.iconst 0, 1) := by decide +kernel
theorem d_Md_readTagged_110 : decode b_Md_readTagged 110 = .ok (.ireturn, 1) := by decide +kernel
theorem d_Md_readTagged_111 : decode b_Md_readTagged 111 = .ok (.iload_n 1, 1) := by decide +kernel
theorem d_Md_readTagged_112 : decode b_Md_readTagged 112 = .ok (.iconst 1, 1) := by decide +kernel
theorem d_Md_readTagged_113 : decode b_Md_readTagged 113 = .ok (.if_icmp .eq (15), 3) := by decide +kernel
theorem d_Md_readTagged_116 : decode b_Md_readTagged 116 = .ok (.iload_n 1, 1) := by decide +kernel
theorem d_Md_readTagged_117 : decode b_Md_readTagged 117 = .ok (.iconst 2, 1) := by decide +kernel
theorem d_Md_readTagged_118 : decode b_Md_readTagged 118 = .ok (.if_icmp .eq (10), 3) := by decide +kernel
theorem d_Md_readTagged_121 : decode b_Md_readTagged 121 = .ok (.iload_n 1, 1) := by decide +kernel
theorem d_Md_readTagged_122 : decode b_Md_readTagged 122 = .ok (.iconst 5, 1) := by decide +kernel
theorem d_Md_readTagged_123 : decode b_Md_readTagged 123 = .ok (.if_icmp .eq (5), 3) := by decide +kernel
theorem d_Md_readTagged_126 : decode b_Md_readTagged 126 = .ok (.iconst 0, 1) := by decide +kernel
theorem d_Md_readTagged_127 : decode b_Md_readTagged 127 = .ok (.ireturn, 1) := by decide +kernel
theorem d_Md_readTagged_128 : decode b_Md_readTagged 128 = .ok (.iload_n 1, 1) := by decide +kernel
theorem d_Md_readTagged_129 : decode b_Md_readTagged 129 = .ok (.iconst 1, 1) := by decide +kernel
theorem d_Md_readTagged_130 : decode b_Md_readTagged 130 = .ok (.if_icmp .ne (9), 3) := by decide +kernel
theorem d_Md_readTagged_133 : decode b_Md_readTagged 133 = .ok (.ldc2_w 95, 3) := by decide +kernel
theorem d_Md_readTagged_136 : decode b_Md_readTagged 136 = .ok (.goto (18), 3) := by decide +kernel
theorem d_Md_readTagged_139 : decode b_Md_readTagged 139 = .ok (.iload_n 1, 1) := by decide +kernel
theorem d_Md_readTagged_140 : decode b_Md_readTagged 140 = .ok (.iconst 5, 1) := by decide +kernel
theorem d_Md_readTagged_141 : decode b_Md_readTagged 141 = .ok (.if_icmp .ne (9), 3) := by decide +kernel
theorem d_Md_readTagged_144 : decode b_Md_readTagged 144 = .ok (.ldc2_w 155, 3) := by decide +kernel
theorem d_Md_readTagged_147 : decode b_Md_readTagged 147 = .ok (.goto (7), 3) := by decide +kernel
theorem d_Md_readTagged_150 : decode b_Md_readTagged 150 = .ok (.aload_n 0, 1) := by decide +kernel
theorem d_Md_readTagged_151 : decode b_Md_readTagged 151 = .ok (.getfield 137, 3) := by decide +kernel
theorem d_Md_readTagged_154 : decode b_Md_readTagged 154 = .ok (.lstore_n 3, 1) := by decide +kernel
theorem d_Md_readTagged_155 : decode b_Md_readTagged 155 = .ok (.lload_n 3, 1) := by decide +kernel
theorem d_Md_readTagged_156 : decode b_Md_readTagged 156 = .ok (.lconst 0, 1) := by decide +kernel
theorem d_Md_readTagged_157 : decode b_Md_readTagged 157 = .ok (.lcmp, 1) := by decide +kernel
theorem d_Md_readTagged_158 : decode b_Md_readTagged 158 = .ok (.ifCond .lt (18), 3) := by decide +kernel
theorem d_Md_readTagged_161 : decode b_Md_readTagged 161 = .ok (.lload_n 3, 1) := by decide +kernel
theorem d_Md_readTagged_162 : decode b_Md_readTagged 162 = .ok (.aload_n 0, 1) := by decide +kernel
theorem d_Md_readTagged_163 : decode b_Md_readTagged 163 = .ok (.getfield 87, 3) := by decide +kernel
theorem d_Md_readTagged_166 : decode b_Md_readTagged 166 = .ok (.aload_n 0, 1) := by decide +kernel
theorem d_Md_readTagged_167 : decode b_Md_readTagged 167 = .ok (.getfield 134, 3) := by decide +kernel
theorem d_Md_readTagged_170 : decode b_Md_readTagged 170 = .ok (.isub, 1) := by decide +kernel
theorem d_Md_readTagged_171 : decode b_Md_readTagged 171 = .ok (.i2l, 1) := by decide +kernel
theorem d_Md_readTagged_172 : decode b_Md_readTagged 172 = .ok (.lcmp, 1) := by decide +kernel
theorem d_Md_readTagged_173 : decode b_Md_readTagged 173 = .ok (.ifCond .le (5), 3) := by decide +kernel
theorem d_Md_readTagged_176 : decode b_Md_readTagged 176 = .ok (.iconst 0, 1) := by decide +kernel
theorem d_Md_readTagged_177 : decode b_Md_readTagged 177 = .ok (.ireturn, 1) := by decide +kernel
theorem d_Md_readTagged_178 : decode b_Md_readTagged 178 = .ok (.lload_n 3, 1) := by decide +kernel
theorem d_Md_readTagged_179 : decode b_Md_readTagged 179 = .ok (.ldc2_w 155, 3) := by decide +kernel
theorem d_Md_readTagged_182 : decode b_Md_readTagged 182 = .ok (.lcmp, 1) := by decide +kernel
theorem d_Md_readTagged_183 : decode b_Md_readTagged 183 = .ok (.ifCond .lt (60), 3) := by decide +kernel
theorem d_Md_readTagged_186 : decode b_Md_readTagged 186 = .ok (.aload_n 0, 1) := by decide +kernel
theorem d_Md_readTagged_187 : decode b_Md_readTagged 187 = .ok (.getfield 26, 3) := by decide +kernel
theorem d_Md_readTagged_190 : decode b_Md_readTagged 190 = .ok (.aload_n 0, 1) := by decide +kernel
theorem d_Md_readTagged_191 : decode b_Md_readTagged 191 = .ok (.getfield 134, 3) := by decide +kernel
theorem d_Md_readTagged_194 : decode b_Md_readTagged 194 = .ok (.iconst 3, 1) := by decide +kernel
theorem d_Md_readTagged_195 : decode b_Md_readTagged 195 = .ok (.iadd, 1) := by decide +kernel
theorem d_Md_readTagged_196 : decode b_Md_readTagged 196 = .ok (.iaload, 1) := by decide +kernel
theorem d_Md_readTagged_197 : decode b_Md_readTagged 197 = .ok (.bipush 24, 2) := by decide +kernel
theorem d_Md_readTagged_199 : decode b_Md_readTagged 199 = .ok (.ishl, 1) := by decide +kernel
theorem d_Md_readTagged_200 : decode b_Md_readTagged 200 = .ok (.aload_n 0, 1) := by decide +kernel
theorem d_Md_readTagged_201 : decode b_Md_readTagged 201 = .ok (.getfield 26, 3) := by decide +kernel
theorem d_Md_readTagged_204 : decode b_Md_readTagged 204 = .ok (.aload_n 0, 1) := by decide +kernel
theorem d_Md_readTagged_205 : decode b_Md_readTagged 205 = .ok (.getfield 134, 3) := by decide +kernel
theorem d_Md_readTagged_208 : decode b_Md_readTagged 208 = .ok (.iconst 2, 1) := by decide +kernel
theorem d_Md_readTagged_209 : decode b_Md_readTagged 209 = .ok (.iadd, 1) := by decide +kernel
theorem d_Md_readTagged_210 : decode b_Md_readTagged 210 = .ok (.iaload, 1) := by decide +kernel
theorem d_Md_readTagged_211 : decode b_Md_readTagged 211 = .ok (.bipush 16, 2) := by decide +kernel
theorem d_Md_readTagged_213 : decode b_Md_readTagged 213 = .ok (.ishl, 1) := by decide +kernel
theorem d_Md_readTagged_214 : decode b_Md_readTagged 214 = .ok (.ior, 1) := by decide +kernel
theorem d_Md_readTagged_215 : decode b_Md_readTagged 215 = .ok (.aload_n 0, 1) := by decide +kernel
theorem d_Md_readTagged_216 : decode b_Md_readTagged 216 = .ok (.getfield 26, 3) := by decide +kernel
theorem d_Md_readTagged_219 : decode b_Md_readTagged 219 = .ok (.aload_n 0, 1) := by decide +kernel
theorem d_Md_readTagged_220 : decode b_Md_readTagged 220 = .ok (.getfield 134, 3) := by decide +kernel
theorem d_Md_readTagged_223 : decode b_Md_readTagged 223 = .ok (.iconst 1, 1) := by decide +kernel
theorem d_Md_readTagged_224 : decode b_Md_readTagged 224 = .ok (.iadd, 1) := by decide +kernel
theorem d_Md_readTagged_225 : decode b_Md_readTagged 225 = .ok (.iaload, 1) := by decide +kernel
theorem d_Md_readTagged_226 : decode b_Md_readTagged 226 = .ok (.bipush 8, 2) := by decide +kernel
theorem d_Md_readTagged_228 : decode b_Md_readTagged 228 = .ok (.ishl, 1) := by decide +kernel
theorem d_Md_readTagged_229 : decode b_Md_readTagged 229 = .ok (.ior, 1) := by decide +kernel
theorem d_Md_readTagged_230 : decode b_Md_readTagged 230 = .ok (.aload_n 0, 1) := by decide +kernel
theorem d_Md_readTagged_231 : decode b_Md_readTagged 231 = .ok (.getfield 26, 3) := by decide +kernel
theorem d_Md_readTagged_234 : decode b_Md_readTagged 234 = .ok (.aload_n 0, 1) := by decide +kernel
theorem d_Md_readTagged_235 : decode b_Md_readTagged 235 = .ok (.getfield 134, 3) := by decide +kernel
theorem d_Md_readTagged_238 : decode b_Md_readTagged 238 = .ok (.iaload, 1) := by decide +kernel
theorem d_Md_readTagged_239 : decode b_Md_readTagged 239 = .ok (.ior, 1) := by decide +kernel
theorem d_Md_readTagged_240 : decode b_Md_readTagged 240 = .ok (.goto (4), 3) := by decide +kernel
theorem d_Md_readTagged_243 : decode b_Md_readTagged 243 = .ok (.iconst 0, 1) := by decide +kernel
theorem d_Md_readTagged_244 : decode b_Md_readTagged 244 = .ok (.istore 5, 2) := by decide +kernel
theorem d_Md_readTagged_246 : decode b_Md_readTagged 246 = .ok (.aload_n 0, 1) := by decide +kernel
theorem d_Md_readTagged_247 : decode b_Md_readTagged 247 = .ok (.aload_n 0, 1) := by decide +kernel
theorem d_Md_readTagged_248 : decode b_Md_readTagged 248 = .ok (.getfield 134, 3) := by decide +kernel
theorem d_Md_readTagged_251 : decode b_Md_readTagged 251 = .ok (.lload_n 3, 1) := by decide +kernel
theorem d_Md_readTagged_252 : decode b_Md_readTagged 252 = .ok (.l2i, 1) := by decide +kernel
theorem d_Md_readTagged_253 : decode b_Md_readTagged 253 = .ok (.iadd, 1) := by decide +kernel
theorem d_Md_readTagged_254 : decode b_Md_readTagged 254 = .ok (.putfield 134, 3) := by decide +kernel
theorem d_Md_readTagged_257 : decode b_Md_readTagged 257 = .ok (.iload_n 2, 1) := by decide +kernel
theorem d_Md_readTagged_258 : decode b_Md_readTagged 258 = .ok (.ifCond .lt (15), 3) := by decide +kernel
theorem d_Md_readTagged_261 : decode b_Md_readTagged 261 = .ok (.aload_n 0, 1) := by decide +kernel
theorem d_Md_readTagged_262 : decode b_Md_readTagged 262 = .ok (.iconst 4, 1) := by decide +kernel
theorem d_Md_readTagged_263 : decode b_Md_readTagged 263 = .ok (.iload_n 2, 1) := by decide +kernel
theorem d_Md_readTagged_264 : decode b_Md_readTagged 264 = .ok (.iadd, 1) := by decide +kernel
theorem d_Md_readTagged_265 : decode b_Md_readTagged 265 = .ok (.iload 5, 2) := by decide +kernel
theorem d_Md_readTagged_267 : decode b_Md_readTagged 267 = .ok (.invokevirtual 83, 3) := by decide +kernel
theorem d_Md_readTagged_270 : decode b_Md_readTagged 270 = .ok (.ifCond .eq (7), 3) := by decide +kernel
theorem d_Md_readTagged_273 : decode b_Md_readTagged 273 = .ok (.iconst 1, 1) := by decide +kernel
theorem d_Md_readTagged_274 : decode b_Md_readTagged 274 = .ok (.goto (4), 3) := by decide +kernel
theorem d_Md_readTagged_277 : decode b_Md_readTagged 277 = .ok (.iconst 0, 1) := by decide +kernel
theorem d_Md_readTagged_278 : decode b_Md_readTagged 278 = .ok (.ireturn, 1) := by decide +kernel
theorem d_Md_readTaggedBody_0 : decode b_Md_readTaggedBody 0 = .ok (.aload_n 0, 1) := by decide +kernel
theorem d_Md_readTaggedBody_1 : decode b_Md_readTaggedBody 1 = .ok (.getfield 134, 3) := by decide +kernel
theorem d_Md_readTaggedBody_4 : decode b_Md_readTaggedBody 4 = .ok (.aload_n 0, 1) := by decide +kernel
theorem d_Md_readTaggedBody_5 : decode b_Md_readTaggedBody 5 = .ok (.getfield 87, 3) := by decide +kernel
theorem d_Md_readTaggedBody_8 : decode b_Md_readTaggedBody 8 = .ok (.if_icmp .ge (12), 3) := by decide +kernel
theorem d_Md_readTaggedBody_11 : decode b_Md_readTaggedBody 11 = .ok (.aload_n 0, 1) := by decide +kernel
theorem d_Md_readTaggedBody_12 : decode b_Md_readTaggedBody 12 = .ok (.invokevirtual 157, 3) := by decide +kernel
theorem d_Md_readTaggedBody_15 : decode b_Md_readTaggedBody 15 = .ok (.ifCond .ne (-15), 3) := by decide +kernel
theorem d_Md_readTaggedBody_18 : decode b_Md_readTaggedBody 18 = .ok (.iconst 0, 1) := by decide +kernel
theorem d_Md_readTaggedBody_19 : decode b_Md_readTaggedBody 19 = .ok (.ireturn, 1) := by decide +kernel
theorem d_Md_readTaggedBody_20 : decode b_Md_readTaggedBody 20 = .ok (.iconst 1, 1) := by decide +kernel
theorem d_Md_readTaggedBody_21 : decode b_Md_readTaggedBody 21 = .ok (.ireturn, 1) := by decide +kernel
theorem d_Md_readWords_0 : decode b_Md_readWords 0 = .ok (.iconst 0, 1) := by decide +kernel
theorem d_Md_readWords_1 : decode b_Md_readWords 1 = .ok (.istore_n 1, 1) := by decide +kernel
theorem d_Md_readWords_2 : decode b_Md_readWords 2 = .ok (.iload_n 1, 1) := by decide +kernel
theorem d_Md_readWords_3 : decode b_Md_readWords 3 = .ok (.aload_n 0, 1) := by decide +kernel
theorem d_Md_readWords_4 : decode b_Md_readWords 4 = .ok (.getfield 75, 3) := by decide +kernel
theorem d_Md_readWords_7 : decode b_Md_readWords 7 = .ok (.if_icmp .ge (156), 3) := by decide +kernel
theorem d_Md_readWords_10 : decode b_Md_readWords 10 = .ok (.iconst 1, 1) := by decide +kernel
theorem d_Md_readWords_11 : decode b_Md_readWords 11 = .ok (.istore_n 2, 1) := by decide +kernel
theorem d_Md_readWords_12 : decode b_Md_readWords 12 = .ok (.aload_n 0, 1) := by decide +kernel
theorem d_Md_readWords_13 : decode b_Md_readWords 13 = .ok (.getfield 16, 3) := by decide +kernel
theorem d_Md_readWords_16 : decode b_Md_readWords 16 = .ok (.iload_n 1, 1) := by decide +kernel
theorem d_Md_readWords_17 : decode b_Md_readWords 17 = .ok (.baload, 1) := by decide +kernel
theorem d_Md_readWords_18 : decode b_Md_readWords 18 = .ok (.ifCond .eq (39), 3) := by decide +kernel
theorem d_Md_readWords_21 : decode b_Md_readWords 21 = .ok (.aload_n 0, 1) := by decide +kernel
theorem d_Md_readWords_22 : decode b_Md_readWords 22 = .ok (.getfield 87, 3) := by decide +kernel
theorem d_Md_readWords_25 : decode b_Md_readWords 25 = .ok (.aload_n 0, 1) := by decide +kernel
theorem d_Md_readWords_26 : decode b_Md_readWords 26 = .ok (.getfield 134, 3) := by decide +kernel
theorem d_Md_readWords_29 : decode b_Md_readWords 29 = .ok (.isub, 1) := by decide +kernel
theorem d_Md_readWords_30 : decode b_Md_readWords 30 = .ok (.iconst 4, 1) := by decide +kernel
theorem d_Md_readWords_31 : decode b_Md_readWords 31 = .ok (.if_icmp .ge (7), 3) := by decide +kernel
theorem d_Md_readWords_34 : decode b_Md_readWords 34 = .ok (.iconst (-1), 1) := by decide +kernel
theorem d_Md_readWords_35 : decode b_Md_readWords 35 = .ok (.goto (11), 3) := by decide +kernel
theorem d_Md_readWords_38 : decode b_Md_readWords 38 = .ok (.aload_n 0, 1) := by decide +kernel
theorem d_Md_readWords_39 : decode b_Md_readWords 39 = .ok (.aload_n 0, 1) := by decide +kernel
theorem d_Md_readWords_40 : decode b_Md_readWords 40 = .ok (.getfield 134, 3) := by decide +kernel
theorem d_Md_readWords_43 : decode b_Md_readWords 43 = .ok (.invokevirtual 160, 3) := by decide +kernel
theorem d_Md_readWords_46 : decode b_Md_readWords 46 = .ok (.istore_n 2, 1) := by decide +kernel
theorem d_Md_readWords_47 : decode b_Md_readWords 47 = .ok (.aload_n 0, 1) := by decide +kernel
theorem d_Md_readWords_48 : decode b_Md_readWords 48 = .ok (.aload_n 0, 1) := by decide +kernel
theorem d_Md_readWords_49 : decode b_Md_readWords 49 = .ok (.getfield 134, 3) := by decide +kernel
theorem d_Md_readWords_52 : decode b_Md_readWords 52 = .ok (.iconst 4, 1) := by decide +kernel
theorem d_Md_readWords_53 : decode b_Md_readWords 53 = .ok (.iadd, 1) := by decide +kernel
theorem d_Md_readWords_54 : decode b_Md_readWords 54 = .ok (.putfield 134, 3) := by decide +kernel
theorem d_Md_readWords_57 : decode b_Md_readWords 57 = .ok (.iload_n 2, 1) := by decide +kernel
theorem d_Md_readWords_58 : decode b_Md_readWords 58 = .ok (.ifCond .lt (8), 3) := by decide +kernel
theorem d_Md_readWords_61 : decode b_Md_readWords 61 = .ok (.iload_n 2, 1) := by decide +kernel
theorem d_Md_readWords_62 : decode b_Md_readWords 62 = .ok (.iconst 4, 1) := by decide +kernel
theorem d_Md_readWords_63 : decode b_Md_readWords 63 = .ok (.if_icmp .le (5), 3) := by decide +kernel
theorem d_Md_readWords_66 : decode b_Md_readWords 66 = .ok (.iconst 0, 1) := by decide +kernel
theorem d_Md_readWords_67 : decode b_Md_readWords 67 = .ok (.ireturn, 1) := by decide +kernel
theorem d_Md_readWords_68 : decode b_Md_readWords 68 = .ok (.iconst 0, 1) := by decide +kernel
theorem d_Md_readWords_69 : decode b_Md_readWords 69 = .ok (.istore_n 3, 1) := by decide +kernel
theorem d_Md_readWords_70 : decode b_Md_readWords 70 = .ok (.iload_n 3, 1) := by decide +kernel
theorem d_Md_readWords_71 : decode b_Md_readWords 71 = .ok (.iload_n 2, 1) := by decide +kernel
theorem d_Md_readWords_72 : decode b_Md_readWords 72 = .ok (.if_icmp .ge (85), 3) := by decide +kernel
theorem d_Md_readWords_75 : decode b_Md_readWords 75 = .ok (.aload_n 0, 1) := by decide +kernel
theorem d_Md_readWords_76 : decode b_Md_readWords 76 = .ok (.getfield 87, 3) := by decide +kernel
theorem d_Md_readWords_79 : decode b_Md_readWords 79 = .ok (.aload_n 0, 1) := by decide +kernel
theorem d_Md_readWords_80 : decode b_Md_readWords 80 = .ok (.getfield 134, 3) := by decide +kernel
theorem d_Md_readWords_83 : decode b_Md_readWords 83 = .ok (.isub, 1) := by decide +kernel
theorem d_Md_readWords_84 : decode b_Md_readWords 84 = .ok (.iconst 4, 1) := by decide +kernel
theorem d_Md_readWords_85 : decode b_Md_readWords 85 = .ok (.if_icmp .ge (5), 3) := by decide +kernel
theorem d_Md_readWords_88 : decode b_Md_readWords 88 = .ok (.iconst 0, 1) := by decide +kernel
theorem d_Md_readWords_89 : decode b_Md_readWords 89 = .ok (.ireturn, 1) := by decide +kernel
theorem d_Md_readWords_90 : decode b_Md_readWords 90 = .ok (.aload_n 0, 1) := by decide +kernel
theorem d_Md_readWords_91 : decode b_Md_readWords 91 = .ok (.aload_n 0, 1) := by decide +kernel
theorem d_Md_readWords_92 : decode b_Md_readWords 92 = .ok (.getfield 134, 3) := by decide +kernel
theorem d_Md_readWords_95 : decode b_Md_readWords 95 = .ok (.invokevirtual 160, 3) := by decide +kernel
theorem d_Md_readWords_98 : decode b_Md_readWords 98 = .ok (.istore 4, 2) := by decide +kernel
theorem d_Md_readWords_100 : decode b_Md_readWords 100 = .ok (.aload_n 0, 1) := by decide +kernel
theorem d_Md_readWords_101 : decode b_Md_readWords 101 = .ok (.aload_n 0, 1) := by decide +kernel
theorem d_Md_readWords_102 : decode b_Md_readWords 102 = .ok (.getfield 134, 3) := by decide +kernel
theorem d_Md_readWords_105 : decode b_Md_readWords 105 = .ok (.iconst 4, 1) := by decide +kernel
theorem d_Md_readWords_106 : decode b_Md_readWords 106 = .ok (.iadd, 1) := by decide +kernel
theorem d_Md_readWords_107 : decode b_Md_readWords 107 = .ok (.putfield 134, 3) := by decide +kernel
theorem d_Md_readWords_110 : decode b_Md_readWords 110 = .ok (.aload_n 0, 1) := by decide +kernel
theorem d_Md_readWords_111 : decode b_Md_readWords 111 = .ok (.getfield 13, 3) := by decide +kernel
theorem d_Md_readWords_114 : decode b_Md_readWords 114 = .ok (.iload_n 1, 1) := by decide +kernel
theorem d_Md_readWords_115 : decode b_Md_readWords 115 = .ok (.iaload, 1) := by decide +kernel
theorem d_Md_readWords_116 : decode b_Md_readWords 116 = .ok (.iconst 3, 1) := by decide +kernel
theorem d_Md_readWords_117 : decode b_Md_readWords 117 = .ok (.if_icmp .ne (16), 3) := by decide +kernel
theorem d_Md_readWords_120 : decode b_Md_readWords 120 = .ok (.iload 4, 2) := by decide +kernel
theorem d_Md_readWords_122 : decode b_Md_readWords 122 = .ok (.ifCond .eq (11), 3) := by decide +kernel
theorem d_Md_readWords_125 : decode b_Md_readWords 125 = .ok (.iload 4, 2) := by decide +kernel
theorem d_Md_readWords_127 : decode b_Md_readWords 127 = .ok (.iconst 1, 1) := by decide +kernel
theorem d_Md_readWords_128 : decode b_Md_readWords 128 = .ok (.if_icmp .eq (5), 3) := by decide +kernel
theorem d_Md_readWords_131 : decode b_Md_readWords 131 = .ok (.iconst 0, 1) := by decide +kernel
theorem d_Md_readWords_132 : decode b_Md_readWords 132 = .ok (.ireturn, 1) := by decide +kernel
theorem d_Md_readWords_133 : decode b_Md_readWords 133 = .ok (.aload_n 0, 1) := by decide +kernel
theorem d_Md_readWords_134 : decode b_Md_readWords 134 = .ok (.iconst 4, 1) := by decide +kernel
theorem d_Md_readWords_135 : decode b_Md_readWords 135 = .ok (.iload_n 1, 1) := by decide +kernel
theorem d_Md_readWords_136 : decode b_Md_readWords 136 = .ok (.iadd, 1) := by decide +kernel
theorem d_Md_readWords_137 : decode b_Md_readWords 137 = .ok (.iload 4, 2) := by decide +kernel
theorem d_Md_readWords_139 : decode b_Md_readWords 139 = .ok (.invokevirtual 83, 3) := by decide +kernel
theorem d_Md_readWords_142 : decode b_Md_readWords 142 = .ok (.istore 5, 2) := by decide +kernel
theorem d_Md_readWords_144 : decode b_Md_readWords 144 = .ok (.iload 5, 2) := by decide +kernel
theorem d_Md_readWords_146 : decode b_Md_readWords 146 = .ok (.ifCond .ne (5), 3) := by decide +kernel
theorem d_Md_readWords_149 : decode b_Md_readWords 149 = .ok (.iconst 0, 1) := by decide +kernel
theorem d_Md_readWords_150 : decode b_Md_readWords 150 = .ok (.ireturn, 1) := by decide +kernel
theorem d_Md_readWords_151 : decode b_Md_readWords 151 = .ok (.iinc 3 (1), 3) := by decide +kernel
theorem d_Md_readWords_154 : decode b_Md_readWords 154 = .ok (.goto (-84), 3) := by decide +kernel
theorem d_Md_readWords_157 : decode b_Md_readWords 157 = .ok (.iinc 1 (1), 3) := by decide +kernel
theorem d_Md_readWords_160 : decode b_Md_readWords 160 = .ok (.goto (-158), 3) := by decide +kernel
theorem d_Md_readWords_163 : decode b_Md_readWords 163 = .ok (.aload_n 0, 1) := by decide +kernel
theorem d_Md_readWords_164 : decode b_Md_readWords 164 = .ok (.getfield 134, 3) := by decide +kernel
theorem d_Md_readWords_167 : decode b_Md_readWords 167 = .ok (.aload_n 0, 1) := by decide +kernel
theorem d_Md_readWords_168 : decode b_Md_readWords 168 = .ok (.getfield 87, 3) := by decide +kernel
theorem d_Md_readWords_171 : decode b_Md_readWords 171 = .ok (.if_icmp .ne (7), 3) := by decide +kernel
theorem d_Md_readWords_174 : decode b_Md_readWords 174 = .ok (.iconst 1, 1) := by decide +kernel
theorem d_Md_readWords_175 : decode b_Md_readWords 175 = .ok (.goto (4), 3) := by decide +kernel
theorem d_Md_readWords_178 : decode b_Md_readWords 178 = .ok (.iconst 0, 1) := by decide +kernel
theorem d_Md_readWords_179 : decode b_Md_readWords 179 = .ok (.ireturn, 1) := by decide +kernel
theorem d_Md_readBody_0 : decode b_Md_readBody 0 = .ok (.iconst 0, 1) := by decide +kernel
theorem d_Md_readBody_1 : decode b_Md_readBody 1 = .ok (.istore_n 1, 1) := by decide +kernel
theorem d_Md_readBody_2 : decode b_Md_readBody 2 = .ok (.iload_n 1, 1) := by decide +kernel
theorem d_Md_readBody_3 : decode b_Md_readBody 3 = .ok (.aload_n 0, 1) := by decide +kernel
theorem d_Md_readBody_4 : decode b_Md_readBody 4 = .ok (.getfield 75, 3) := by decide +kernel
theorem d_Md_readBody_7 : decode b_Md_readBody 7 = .ok (.if_icmp .ge (16), 3) := by decide +kernel
theorem d_Md_readBody_10 : decode b_Md_readBody 10 = .ok (.aload_n 0, 1) := by decide +kernel
theorem d_Md_readBody_11 : decode b_Md_readBody 11 = .ok (.iconst 4, 1) := by decide +kernel
theorem d_Md_readBody_12 : decode b_Md_readBody 12 = .ok (.iload_n 1, 1) := by decide +kernel
theorem d_Md_readBody_13 : decode b_Md_readBody 13 = .ok (.iadd, 1) := by decide +kernel
theorem d_Md_readBody_14 : decode b_Md_readBody 14 = .ok (.invokevirtual 79, 3) := by decide +kernel
theorem d_Md_readBody_17 : decode b_Md_readBody 17 = .ok (.iinc 1 (1), 3) := by decide +kernel
theorem d_Md_readBody_20 : decode b_Md_readBody 20 = .ok (.goto (-18), 3) := by decide +kernel
theorem d_Md_readBody_23 : decode b_Md_readBody 23 = .ok (.aload_n 0, 1) := by decide +kernel
theorem d_Md_readBody_24 : decode b_Md_readBody 24 = .ok (.bipush 12, 2) := by decide +kernel
theorem d_Md_readBody_26 : decode b_Md_readBody 26 = .ok (.putfield 134, 3) := by decide +kernel
theorem d_Md_readBody_29 : decode b_Md_readBody 29 = .ok (.aload_n 0, 1) := by decide +kernel
theorem d_Md_readBody_30 : decode b_Md_readBody 30 = .ok (.getfield 71, 3) := by decide +kernel
theorem d_Md_readBody_33 : decode b_Md_readBody 33 = .ok (.ifCond .eq (10), 3) := by decide +kernel
theorem d_Md_readBody_36 : decode b_Md_readBody 36 = .ok (.aload_n 0, 1) := by decide +kernel
theorem d_Md_readBody_37 : decode b_Md_readBody 37 = .ok (.invokevirtual 163, 3) := by decide +kernel
theorem d_Md_readBody_40 : decode b_Md_readBody 40 = .ok (.goto (7), 3) := by decide +kernel
theorem d_Md_readBody_43 : decode b_Md_readBody 43 = .ok (.aload_n 0, 1) := by decide +kernel
theorem d_Md_readBody_44 : decode b_Md_readBody 44 = .ok (.invokevirtual 166, 3) := by decide +kernel
theorem d_Md_readBody_47 : decode b_Md_readBody 47 = .ok (.ireturn, 1) := by decide +kernel
theorem d_Md_sendReply_0 : decode b_Md_sendReply 0 = .ok (.aload_n 0, 1) := by decide +kernel
theorem d_Md_sendReply_1 : decode b_Md_sendReply 1 = .ok (.iconst 0, 1) := by decide +kernel
theorem d_Md_sendReply_2 : decode b_Md_sendReply 2 = .ok (.putfield 87, 3) := by decide +kernel
theorem d_Md_sendReply_5 : decode b_Md_sendReply 5 = .ok (.aload_n 0, 1) := by decide +kernel
theorem d_Md_sendReply_6 : decode b_Md_sendReply 6 = .ok (.iload_n 1, 1) := by decide +kernel
theorem d_Md_sendReply_7 : decode b_Md_sendReply 7 = .ok (.invokevirtual 109, 3) := by decide +kernel
theorem d_Md_sendReply_10 : decode b_Md_sendReply 10 = .ok (.aload_n 0, 1) := by decide +kernel
theorem d_Md_sendReply_11 : decode b_Md_sendReply 11 = .ok (.iconst 1, 1) := by decide +kernel
theorem d_Md_sendReply_12 : decode b_Md_sendReply 12 = .ok (.invokevirtual 109, 3) := by decide +kernel
theorem d_Md_sendReply_15 : decode b_Md_sendReply 15 = .ok (.aload_n 0, 1) := by decide +kernel
theorem d_Md_sendReply_16 : decode b_Md_sendReply 16 = .ok (.iload_n 2, 1) := by decide +kernel
theorem d_Md_sendReply_17 : decode b_Md_sendReply 17 = .ok (.invokevirtual 109, 3) := by decide +kernel
theorem d_Md_sendReply_20 : decode b_Md_sendReply 20 = .ok (.iload_n 2, 1) := by decide +kernel
theorem d_Md_sendReply_21 : decode b_Md_sendReply 21 = .ok (.ifCond .ne (8), 3) := by decide +kernel
theorem d_Md_sendReply_24 : decode b_Md_sendReply 24 = .ok (.aload_n 0, 1) := by decide +kernel
theorem d_Md_sendReply_25 : decode b_Md_sendReply 25 = .ok (.iload_n 3, 1) := by decide +kernel
theorem d_Md_sendReply_26 : decode b_Md_sendReply 26 = .ok (.invokevirtual 109, 3) := by decide +kernel
theorem d_Md_sendReply_29 : decode b_Md_sendReply 29 = .ok (.aload_n 0, 1) := by decide +kernel
theorem d_Md_sendReply_30 : decode b_Md_sendReply 30 = .ok (.invokevirtual 169, 3) := by decide +kernel
theorem d_Md_sendReply_33 : decode b_Md_sendReply 33 = .ok (.aload_n 0, 1) := by decide +kernel
theorem d_Md_sendReply_34 : decode b_Md_sendReply 34 = .ok (.iconst 1, 1) := by decide +kernel
theorem d_Md_sendReply_35 : decode b_Md_sendReply 35 = .ok (.invokevirtual 129, 3) := by decide +kernel
theorem d_Md_sendReply_38 : decode b_Md_sendReply 38 = .ok (.return_, 1) := by decide +kernel
theorem d_Md_run_0 : decode b_Md_run 0 = .ok (.aload_n 0, 1) := by decide +kernel
theorem d_Md_run_1 : decode b_Md_run 1 = .ok (.getfield 172, 3) := by decide +kernel
theorem d_Md_run_4 : decode b_Md_run 4 = .ok (.istore_n 2, 1) := by decide +kernel
theorem d_Md_run_5 : decode b_Md_run 5 = .ok (.aload_n 0, 1) := by decide +kernel
theorem d_Md_run_6 : decode b_Md_run 6 = .ok (.invokevirtual 175, 3) := by decide +kernel
theorem d_Md_run_9 : decode b_Md_run 9 = .ok (.istore_n 3, 1) := by decide +kernel
theorem d_Md_run_10 : decode b_Md_run 10 = .ok (.aload_n 0, 1) := by decide +kernel
theorem d_Md_run_11 : decode b_Md_run 11 = .ok (.dup, 1) := by decide +kernel
theorem d_Md_run_12 : decode b_Md_run 12 = .ok (.getfield 179, 3) := by decide +kernel
theorem d_Md_run_15 : decode b_Md_run 15 = .ok (.iconst 1, 1) := by decide +kernel
theorem d_Md_run_16 : decode b_Md_run 16 = .ok (.iadd, 1) := by decide +kernel
theorem d_Md_run_17 : decode b_Md_run 17 = .ok (.putfield 179, 3) := by decide +kernel
theorem d_Md_run_20 : decode b_Md_run 20 = .ok (.aload_n 0, 1) := by decide +kernel
theorem d_Md_run_21 : decode b_Md_run 21 = .ok (.iload_n 1, 1) := by decide +kernel
theorem d_Md_run_22 : decode b_Md_run 22 = .ok (.iconst 1, 1) := by decide +kernel
theorem d_Md_run_23 : decode b_Md_run 23 = .ok (.if_icmp .ne (12), 3) := by decide +kernel
theorem d_Md_run_26 : decode b_Md_run 26 = .ok (.aload_n 0, 1) := by decide +kernel
theorem d_Md_run_27 : decode b_Md_run 27 = .ok (.getfield 172, 3) := by decide +kernel
theorem d_Md_run_30 : decode b_Md_run 30 = .ok (.iload_n 3, 1) := by decide +kernel
theorem d_Md_run_31 : decode b_Md_run 31 = .ok (.iadd, 1) := by decide +kernel
theorem d_Md_run_32 : decode b_Md_run 32 = .ok (.goto (16), 3) := by decide +kernel
theorem d_Md_run_35 : decode b_Md_run 35 = .ok (.iload_n 1, 1) := by decide +kernel
theorem d_Md_run_36 : decode b_Md_run 36 = .ok (.iconst 2, 1) := by decide +kernel
theorem d_Md_run_37 : decode b_Md_run 37 = .ok (.if_icmp .ne (7), 3) := by decide +kernel
theorem d_Md_run_40 : decode b_Md_run 40 = .ok (.iload_n 3, 1) := by decide +kernel
theorem d_Md_run_41 : decode b_Md_run 41 = .ok (.goto (7), 3) := by decide +kernel
theorem d_Md_run_44 : decode b_Md_run 44 = .ok (.aload_n 0, 1) := by decide +kernel
theorem d_Md_run_45 : decode b_Md_run 45 = .ok (.getfield 172, 3) := by decide +kernel
theorem d_Md_run_48 : decode b_Md_run 48 = .ok (.putfield 172, 3) := by decide +kernel
theorem d_Md_run_51 : decode b_Md_run 51 = .ok (.iload_n 1, 1) := by decide +kernel
theorem d_Md_run_52 : decode b_Md_run 52 = .ok (.ifCond .ne (7), 3) := by decide +kernel
theorem d_Md_run_55 : decode b_Md_run 55 = .ok (.iconst 0, 1) := by decide +kernel
theorem d_Md_run_56 : decode b_Md_run 56 = .ok (.goto (16), 3) := by decide +kernel
theorem d_Md_run_59 : decode b_Md_run 59 = .ok (.iload_n 1, 1) := by decide +kernel
theorem d_Md_run_60 : decode b_Md_run 60 = .ok (.iconst 2, 1) := by decide +kernel
theorem d_Md_run_61 : decode b_Md_run 61 = .ok (.if_icmp .ne (7), 3) := by decide +kernel
theorem d_Md_run_64 : decode b_Md_run 64 = .ok (.iload_n 2, 1) := by decide +kernel
theorem d_Md_run_65 : decode b_Md_run 65 = .ok (.goto (7), 3) := by decide +kernel
theorem d_Md_run_68 : decode b_Md_run 68 = .ok (.aload_n 0, 1) := by decide +kernel
theorem d_Md_run_69 : decode b_Md_run 69 = .ok (.getfield 172, 3) := by decide +kernel
theorem d_Md_run_72 : decode b_Md_run 72 = .ok (.ireturn, 1) := by decide +kernel
theorem d_Md_remember_0 : decode b_Md_remember 0 = .ok (.aload_n 0, 1) := by decide +kernel
theorem d_Md_remember_1 : decode b_Md_remember 1 = .ok (.getfield 182, 3) := by decide +kernel
theorem d_Md_remember_4 : decode b_Md_remember 4 = .ok (.iconst 4, 1) := by decide +kernel
theorem d_Md_remember_5 : decode b_Md_remember 5 = .ok (.if_icmp .ne (71), 3) := by decide +kernel
theorem d_Md_remember_8 : decode b_Md_remember 8 = .ok (.iconst 0, 1) := by decide +kernel
theorem d_Md_remember_9 : decode b_Md_remember 9 = .ok (.istore 4, 2) := by decide +kernel
theorem d_Md_remember_11 : decode b_Md_remember 11 = .ok (.iload 4, 2) := by decide +kernel
theorem d_Md_remember_13 : decode b_Md_remember 13 = .ok (.iconst 3, 1) := by decide +kernel
theorem d_Md_remember_14 : decode b_Md_remember 14 = .ok (.if_icmp .ge (57), 3) := by decide +kernel
theorem d_Md_remember_17 : decode b_Md_remember 17 = .ok (.aload_n 0, 1) := by decide +kernel
theorem d_Md_remember_18 : decode b_Md_remember 18 = .ok (.getfield 44, 3) := by decide +kernel
theorem d_Md_remember_21 : decode b_Md_remember 21 = .ok (.iload 4, 2) := by decide +kernel
theorem d_Md_remember_23 : decode b_Md_remember 23 = .ok (.aload_n 0, 1) := by decide +kernel
theorem d_Md_remember_24 : decode b_Md_remember 24 = .ok (.getfield 44, 3) := by decide +kernel
theorem d_Md_remember_27 : decode b_Md_remember 27 = .ok (.iload 4, 2) := by decide +kernel
theorem d_Md_remember_29 : decode b_Md_remember 29 = .ok (.iconst 1, 1) := by decide +kernel
theorem d_Md_remember_30 : decode b_Md_remember 30 = .ok (.iadd, 1) := by decide +kernel
theorem d_Md_remember_31 : decode b_Md_remember 31 = .ok (.iaload, 1) := by decide +kernel
theorem d_Md_remember_32 : decode b_Md_remember 32 = .ok (.iastore, 1) := by decide +kernel
theorem d_Md_remember_33 : decode b_Md_remember 33 = .ok (.aload_n 0, 1) := by decide +kernel
theorem d_Md_remember_34 : decode b_Md_remember 34 = .ok (.getfield 47, 3) := by decide +kernel
theorem d_Md_remember_37 : decode b_Md_remember 37 = .ok (.iload 4, 2) := by decide +kernel
theorem d_Md_remember_39 : decode b_Md_remember 39 = .ok (.aload_n 0, 1) := by decide +kernel
theorem d_Md_remember_40 : decode b_Md_remember 40 = .ok (.getfield 47, 3) := by decide +kernel
theorem d_Md_remember_43 : decode b_Md_remember 43 = .ok (.iload 4, 2) := by decide +kernel
theorem d_Md_remember_45 : decode b_Md_remember 45 = .ok (.iconst 1, 1) := by decide +kernel
theorem d_Md_remember_46 : decode b_Md_remember 46 = .ok (.iadd, 1) := by decide +kernel
theorem d_Md_remember_47 : decode b_Md_remember 47 = .ok (.iaload, 1) := by decide +kernel
theorem d_Md_remember_48 : decode b_Md_remember 48 = .ok (.iastore, 1) := by decide +kernel
theorem d_Md_remember_49 : decode b_Md_remember 49 = .ok (.aload_n 0, 1) := by decide +kernel
theorem d_Md_remember_50 : decode b_Md_remember 50 = .ok (.getfield 50, 3) := by decide +kernel
theorem d_Md_remember_53 : decode b_Md_remember 53 = .ok (.iload 4, 2) := by decide +kernel
theorem d_Md_remember_55 : decode b_Md_remember 55 = .ok (.aload_n 0, 1) := by decide +kernel
theorem d_Md_remember_56 : decode b_Md_remember 56 = .ok (.getfield 50, 3) := by decide +kernel
theorem d_Md_remember_59 : decode b_Md_remember 59 = .ok (.iload 4, 2) := by decide +kernel
theorem d_Md_remember_61 : decode b_Md_remember 61 = .ok (.iconst 1, 1) := by decide +kernel
theorem d_Md_remember_62 : decode b_Md_remember 62 = .ok (.iadd, 1) := by decide +kernel
theorem d_Md_remember_63 : decode b_Md_remember 63 = .ok (.iaload, 1) := by decide +kernel
theorem d_Md_remember_64 : decode b_Md_remember 64 = .ok (.iastore, 1) := by decide +kernel
theorem d_Md_remember_65 : decode b_Md_remember 65 = .ok (.iinc 4 (1), 3) := by decide +kernel
theorem d_Md_remember_68 : decode b_Md_remember 68 = .ok (.goto (-57), 3) := by decide +kernel
theorem d_Md_remember_71 : decode b_Md_remember 71 = .ok (.aload_n 0, 1) := by decide +kernel
theorem d_Md_remember_72 : decode b_Md_remember 72 = .ok (.iconst 3, 1) := by decide +kernel
theorem d_Md_remember_73 : decode b_Md_remember 73 = .ok (.putfield 182, 3) := by decide +kernel
theorem d_Md_remember_76 : decode b_Md_remember 76 = .ok (.aload_n 0, 1) := by decide +kernel
theorem d_Md_remember_77 : decode b_Md_remember 77 = .ok (.getfield 44, 3) := by decide +kernel
theorem d_Md_remember_80 : decode b_Md_remember 80 = .ok (.aload_n 0, 1) := by decide +kernel
theorem d_Md_remember_81 : decode b_Md_remember 81 = .ok (.getfield 182, 3) := by decide +kernel
theorem d_Md_remember_84 : decode b_Md_remember 84 = .ok (.iload_n 1, 1) := by decide +kernel
theorem d_Md_remember_85 : decode b_Md_remember 85 = .ok (.iastore, 1) := by decide +kernel
theorem d_Md_remember_86 : decode b_Md_remember 86 = .ok (.aload_n 0, 1) := by decide +kernel
theorem d_Md_remember_87 : decode b_Md_remember 87 = .ok (.getfield 47, 3) := by decide +kernel
theorem d_Md_remember_90 : decode b_Md_remember 90 = .ok (.aload_n 0, 1) := by decide +kernel
theorem d_Md_remember_91 : decode b_Md_remember 91 = .ok (.getfield 182, 3) := by decide +kernel
theorem d_Md_remember_94 : decode b_Md_remember 94 = .ok (.iload_n 2, 1) := by decide +kernel
theorem d_Md_remember_95 : decode b_Md_remember 95 = .ok (.iastore, 1) := by decide +kernel
theorem d_Md_remember_96 : decode b_Md_remember 96 = .ok (.aload_n 0, 1) := by decide +kernel
theorem d_Md_remember_97 : decode b_Md_remember 97 = .ok (.getfield 50, 3) := by decide +kernel
theorem d_Md_remember_100 : decode b_Md_remember 100 = .ok (.aload_n 0, 1) := by decide +kernel
theorem d_Md_remember_101 : decode b_Md_remember 101 = .ok (.getfield 182, 3) := by decide +kernel
theorem d_Md_remember_104 : decode b_Md_remember 104 = .ok (.iload_n 3, 1) := by decide +kernel
theorem d_Md_remember_105 : decode b_Md_remember 105 = .ok (.iastore, 1) := by decide +kernel
theorem d_Md_remember_106 : decode b_Md_remember 106 = .ok (.aload_n 0, 1) := by decide +kernel
theorem d_Md_remember_107 : decode b_Md_remember 107 = .ok (.dup, 1) := by decide +kernel
theorem d_Md_remember_108 : decode b_Md_remember 108 = .ok (.getfield 182, 3) := by decide +kernel
theorem d_Md_remember_111 : decode b_Md_remember 111 = .ok (.iconst 1, 1) := by decide +kernel
theorem d_Md_remember_112 : decode b_Md_remember 112 = .ok (.iadd, 1) := by decide +kernel
theorem d_Md_remember_113 : decode b_Md_remember 113 = .ok (.putfield 182, 3) := by decide +kernel
theorem d_Md_remember_116 : decode b_Md_remember 116 = .ok (.return_, 1) := by decide +kernel
