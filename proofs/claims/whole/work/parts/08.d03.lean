theorem d_TaggedFormat_takePayload_0 : decode b_TaggedFormat_takePayload 0 = .ok (.iload_n 1, 1) := by decide +kernel
theorem d_TaggedFormat_takePayload_1 : decode b_TaggedFormat_takePayload 1 = .ok (.tableswitch (72) (0) (5) #[(39), (53), (62), (72), (72), (44)], 39) := by decide +kernel
theorem d_TaggedFormat_takePayload_40 : decode b_TaggedFormat_takePayload 40 = .ok (.aload_n 0, 1) := by decide +kernel
theorem d_TaggedFormat_takePayload_41 : decode b_TaggedFormat_takePayload 41 = .ok (.invokevirtual 83, 3) := by decide +kernel
theorem d_TaggedFormat_takePayload_44 : decode b_TaggedFormat_takePayload 44 = .ok (.lreturn, 1) := by decide +kernel
theorem d_TaggedFormat_takePayload_45 : decode b_TaggedFormat_takePayload 45 = .ok (.aload_n 0, 1) := by decide +kernel
theorem d_TaggedFormat_takePayload_46 : decode b_TaggedFormat_takePayload 46 = .ok (.invokevirtual 110, 3) := by decide +kernel
theorem d_TaggedFormat_takePayload_49 : decode b_TaggedFormat_takePayload 49 = .ok (.invokestatic 49, 3) := by decide +kernel
theorem d_TaggedFormat_takePayload_52 : decode b_TaggedFormat_takePayload 52 = .ok (.i2l, 1) := by decide +kernel
theorem d_TaggedFormat_takePayload_53 : decode b_TaggedFormat_takePayload 53 = .ok (.lreturn, 1) := by decide +kernel
theorem d_TaggedFormat_takePayload_54 : decode b_TaggedFormat_takePayload 54 = .ok (.aload_n 0, 1) := by decide +kernel
theorem d_TaggedFormat_takePayload_55 : decode b_TaggedFormat_takePayload 55 = .ok (.ldc2_w 91, 3) := by decide +kernel
theorem d_TaggedFormat_takePayload_58 : decode b_TaggedFormat_takePayload 58 = .ok (.invokevirtual 113, 3) := by decide +kernel
theorem d_TaggedFormat_takePayload_61 : decode b_TaggedFormat_takePayload 61 = .ok (.lconst 0, 1) := by decide +kernel
theorem d_TaggedFormat_takePayload_62 : decode b_TaggedFormat_takePayload 62 = .ok (.lreturn, 1) := by decide +kernel
theorem d_TaggedFormat_takePayload_63 : decode b_TaggedFormat_takePayload 63 = .ok (.aload_n 0, 1) := by decide +kernel
theorem d_TaggedFormat_takePayload_64 : decode b_TaggedFormat_takePayload 64 = .ok (.aload_n 0, 1) := by decide +kernel
theorem d_TaggedFormat_takePayload_65 : decode b_TaggedFormat_takePayload 65 = .ok (.invokevirtual 83, 3) := by decide +kernel
theorem d_TaggedFormat_takePayload_68 : decode b_TaggedFormat_takePayload 68 = .ok (.invokevirtual 113, 3) := by decide +kernel
theorem d_TaggedFormat_takePayload_71 : decode b_TaggedFormat_takePayload 71 = .ok (.lconst 0, 1) := by decide +kernel
theorem d_TaggedFormat_takePayload_72 : decode b_TaggedFormat_takePayload 72 = .ok (.lreturn, 1) := by decide +kernel
theorem d_TaggedFormat_takePayload_73 : decode b_TaggedFormat_takePayload 73 = .ok (.aload_n 0, 1) := by decide +kernel
theorem d_TaggedFormat_takePayload_74 : decode b_TaggedFormat_takePayload 74 = .ok (.iconst 1, 1) := by decide +kernel
theorem d_TaggedFormat_takePayload_75 : decode b_TaggedFormat_takePayload 75 = .ok (.putfield 87, 3) := by decide +kernel
theorem d_TaggedFormat_takePayload_78 : decode b_TaggedFormat_takePayload 78 = .ok (.lconst 0, 1) := by decide +kernel
theorem d_TaggedFormat_takePayload_79 : decode b_TaggedFormat_takePayload 79 = .ok (.lreturn, 1) := by decide +kernel
theorem d_TaggedFormat_intOfPayload_0 : decode b_TaggedFormat_intOfPayload 0 = .ok (.lload_n 1, 1) := by decide +kernel
theorem d_TaggedFormat_intOfPayload_1 : decode b_TaggedFormat_intOfPayload 1 = .ok (.l2i, 1) := by decide +kernel
theorem d_TaggedFormat_intOfPayload_2 : decode b_TaggedFormat_intOfPayload 2 = .ok (.istore_n 3, 1) := by decide +kernel
theorem d_TaggedFormat_intOfPayload_3 : decode b_TaggedFormat_intOfPayload 3 = .ok (.iload_n 0, 1) := by decide +kernel
theorem d_TaggedFormat_intOfPayload_4 : decode b_TaggedFormat_intOfPayload 4 = .ok (.lookupswitch (62) #[(1, 28), (3, 50)], 28) := by decide +kernel
theorem d_TaggedFormat_intOfPayload_32 : decode b_TaggedFormat_intOfPayload 32 = .ok (.iload_n 3, 1) := by decide +kernel
theorem d_TaggedFormat_intOfPayload_33 : decode b_TaggedFormat_intOfPayload 33 = .ok (.iconst 1, 1) := by decide +kernel
theorem d_TaggedFormat_intOfPayload_34 : decode b_TaggedFormat_intOfPayload 34 = .ok (.iushr, 1) := by decide +kernel
theorem d_TaggedFormat_intOfPayload_35 : decode b_TaggedFormat_intOfPayload 35 = .ok (.istore 4, 2) := by decide +kernel
theorem d_TaggedFormat_intOfPayload_37 : decode b_TaggedFormat_intOfPayload 37 = .ok (.iload_n 3, 1) := by decide +kernel
theorem d_TaggedFormat_intOfPayload_38 : decode b_TaggedFormat_intOfPayload 38 = .ok (.iconst 1, 1) := by decide +kernel
theorem d_TaggedFormat_intOfPayload_39 : decode b_TaggedFormat_intOfPayload 39 = .ok (.iand, 1) := by decide +kernel
theorem d_TaggedFormat_intOfPayload_40 : decode b_TaggedFormat_intOfPayload 40 = .ok (.ifCond .ne (8), 3) := by decide +kernel
theorem d_TaggedFormat_intOfPayload_43 : decode b_TaggedFormat_intOfPayload 43 = .ok (.iload 4, 2) := by decide +kernel
theorem d_TaggedFormat_intOfPayload_45 : decode b_TaggedFormat_intOfPayload 45 = .ok (.goto (8), 3) := by decide +kernel
theorem d_TaggedFormat_intOfPayload_48 : decode b_TaggedFormat_intOfPayload 48 = .ok (.iload 4, 2) := by decide +kernel
theorem d_TaggedFormat_intOfPayload_50 : decode b_TaggedFormat_intOfPayload 50 = .ok (.ineg, 1) := by decide +kernel
theorem d_TaggedFormat_intOfPayload_51 : decode b_TaggedFormat_intOfPayload 51 = .ok (.iconst 1, 1) := by decide +kernel
theorem d_TaggedFormat_intOfPayload_52 : decode b_TaggedFormat_intOfPayload 52 = .ok (.isub, 1) := by decide +kernel
theorem d_TaggedFormat_intOfPayload_53 : decode b_TaggedFormat_intOfPayload 53 = .ok (.ireturn, 1) := by decide +kernel
theorem d_TaggedFormat_intOfPayload_54 : decode b_TaggedFormat_intOfPayload 54 = .ok (.lload_n 1, 1) := by decide +kernel
theorem d_TaggedFormat_intOfPayload_55 : decode b_TaggedFormat_intOfPayload 55 = .ok (.lconst 0, 1) := by decide +kernel
theorem d_TaggedFormat_intOfPayload_56 : decode b_TaggedFormat_intOfPayload 56 = .ok (.lcmp, 1) := by decide +kernel
theorem d_TaggedFormat_intOfPayload_57 : decode b_TaggedFormat_intOfPayload 57 = .ok (.ifCond .ne (7), 3) := by decide +kernel
theorem d_TaggedFormat_intOfPayload_60 : decode b_TaggedFormat_intOfPayload 60 = .ok (.iconst 0, 1) := by decide +kernel
theorem d_TaggedFormat_intOfPayload_61 : decode b_TaggedFormat_intOfPayload 61 = .ok (.goto (4), 3) := by decide +kernel
theorem d_TaggedFormat_intOfPayload_64 : decode b_TaggedFormat_intOfPayload 64 = .ok (.iconst 1, 1) := by decide +kernel
theorem d_TaggedFormat_intOfPayload_65 : decode b_TaggedFormat_intOfPayload 65 = .ok (.ireturn, 1) := by decide +kernel
theorem d_TaggedFormat_intOfPayload_66 : decode b_TaggedFormat_intOfPayload 66 = .ok (.iload_n 3, 1) := by decide +kernel
theorem d_TaggedFormat_intOfPayload_67 : decode b_TaggedFormat_intOfPayload 67 = .ok (.ireturn, 1) := by decide +kernel
theorem d_Value_init_0 : decode b_Value_init 0 = .ok (.aload_n 0, 1) := by decide +kernel
theorem d_Value_init_1 : decode b_Value_init 1 = .ok (.invokespecial 1, 3) := by decide +kernel
theorem d_Value_init_4 : decode b_Value_init 4 = .ok (.aload_n 0, 1) := by decide +kernel
theorem d_Value_init_5 : decode b_Value_init 5 = .ok (.bipush 16, 2) := by decide +kernel
theorem d_Value_init_7 : decode b_Value_init 7 = .ok (.newarray .int, 2) := by decide +kernel
theorem d_Value_init_9 : decode b_Value_init 9 = .ok (.putfield 11, 3) := by decide +kernel
theorem d_Value_init_12 : decode b_Value_init 12 = .ok (.aload_n 0, 1) := by decide +kernel
theorem d_Value_init_13 : decode b_Value_init 13 = .ok (.iconst 4, 1) := by decide +kernel
theorem d_Value_init_14 : decode b_Value_init 14 = .ok (.newarray .int, 2) := by decide +kernel
theorem d_Value_init_16 : decode b_Value_init 16 = .ok (.putfield 15, 3) := by decide +kernel
theorem d_Value_init_19 : decode b_Value_init 19 = .ok (.aload_n 0, 1) := by decide +kernel
theorem d_Value_init_20 : decode b_Value_init 20 = .ok (.aload_n 1, 1) := by decide +kernel
theorem d_Value_init_21 : decode b_Value_init 21 = .ok (.putfield 18, 3) := by decide +kernel
theorem d_Value_init_24 : decode b_Value_init 24 = .ok (.return_, 1) := by decide +kernel
theorem d_Value_clear_0 : decode b_Value_clear 0 = .ok (.iconst 0, 1) := by decide +kernel
theorem d_Value_clear_1 : decode b_Value_clear 1 = .ok (.istore_n 1, 1) := by decide +kernel
theorem d_Value_clear_2 : decode b_Value_clear 2 = .ok (.iload_n 1, 1) := by decide +kernel
theorem d_Value_clear_3 : decode b_Value_clear 3 = .ok (.aload_n 0, 1) := by decide +kernel
theorem d_Value_clear_4 : decode b_Value_clear 4 = .ok (.getfield 11, 3) := by decide +kernel
theorem d_Value_clear_7 : decode b_Value_clear 7 = .ok (.arraylength, 1) := by decide +kernel
theorem d_Value_clear_8 : decode b_Value_clear 8 = .ok (.if_icmp .ge (16), 3) := by decide +kernel
theorem d_Value_clear_11 : decode b_Value_clear 11 = .ok (.aload_n 0, 1) := by decide +kernel
theorem d_Value_clear_12 : decode b_Value_clear 12 = .ok (.getfield 11, 3) := by decide +kernel
theorem d_Value_clear_15 : decode b_Value_clear 15 = .ok (.iload_n 1, 1) := by decide +kernel
theorem d_Value_clear_16 : decode b_Value_clear 16 = .ok (.iconst 0, 1) := by decide +kernel
theorem d_Value_clear_17 : decode b_Value_clear 17 = .ok (.iastore, 1) := by decide +kernel
theorem d_Value_clear_18 : decode b_Value_clear 18 = .ok (.iinc 1 (1), 3) := by decide +kernel
theorem d_Value_clear_21 : decode b_Value_clear 21 = .ok (.goto (-19), 3) := by decide +kernel
theorem d_Value_clear_24 : decode b_Value_clear 24 = .ok (.iconst 0, 1) := by decide +kernel
theorem d_Value_clear_25 : decode b_Value_clear 25 = .ok (.istore_n 1, 1) := by decide +kernel
theorem d_Value_clear_26 : decode b_Value_clear 26 = .ok (.iload_n 1, 1) := by decide +kernel
theorem d_Value_clear_27 : decode b_Value_clear 27 = .ok (.aload_n 0, 1) := by decide +kernel
theorem d_Value_clear_28 : decode b_Value_clear 28 = .ok (.getfield 15, 3) := by decide +kernel
theorem d_Value_clear_31 : decode b_Value_clear 31 = .ok (.arraylength, 1) := by decide +kernel
theorem d_Value_clear_32 : decode b_Value_clear 32 = .ok (.if_icmp .ge (16), 3) := by decide +kernel
theorem d_Value_clear_35 : decode b_Value_clear 35 = .ok (.aload_n 0, 1) := by decide +kernel
theorem d_Value_clear_36 : decode b_Value_clear 36 = .ok (.getfield 15, 3) := by decide +kernel
theorem d_Value_clear_39 : decode b_Value_clear 39 = .ok (.iload_n 1, 1) := by decide +kernel
theorem d_Value_clear_40 : decode b_Value_clear 40 = .ok (.iconst 0, 1) := by decide +kernel
theorem d_Value_clear_41 : decode b_Value_clear 41 = .ok (.iastore, 1) := by decide +kernel
theorem d_Value_clear_42 : decode b_Value_clear 42 = .ok (.iinc 1 (1), 3) := by decide +kernel
theorem d_Value_clear_45 : decode b_Value_clear 45 = .ok (.goto (-19), 3) := by decide +kernel
theorem d_Value_clear_48 : decode b_Value_clear 48 = .ok (.return_, 1) := by decide +kernel
theorem d_Value_store_0 : decode b_Value_store 0 = .ok (.aload_n 0, 1) := by decide +kernel
theorem d_Value_store_1 : decode b_Value_store 1 = .ok (.getfield 18, 3) := by decide +kernel
theorem d_Value_store_4 : decode b_Value_store 4 = .ok (.iload_n 1, 1) := by decide +kernel
theorem d_Value_store_5 : decode b_Value_store 5 = .ok (.invokevirtual 22, 3) := by decide +kernel
theorem d_Value_store_8 : decode b_Value_store 8 = .ok (.ifCond .ne (5), 3) := by decide +kernel
theorem d_Value_store_11 : decode b_Value_store 11 = .ok (.iconst 0, 1) := by decide +kernel
theorem d_Value_store_12 : decode b_Value_store 12 = .ok (.ireturn, 1) := by decide +kernel
theorem d_Value_store_13 : decode b_Value_store 13 = .ok (.aload_n 0, 1) := by decide +kernel
theorem d_Value_store_14 : decode b_Value_store 14 = .ok (.getfield 18, 3) := by decide +kernel
theorem d_Value_store_17 : decode b_Value_store 17 = .ok (.getfield 26, 3) := by decide +kernel
theorem d_Value_store_20 : decode b_Value_store 20 = .ok (.iload_n 1, 1) := by decide +kernel
theorem d_Value_store_21 : decode b_Value_store 21 = .ok (.baload, 1) := by decide +kernel
theorem d_Value_store_22 : decode b_Value_store 22 = .ok (.ifCond .ne (14), 3) := by decide +kernel
theorem d_Value_store_25 : decode b_Value_store 25 = .ok (.aload_n 0, 1) := by decide +kernel
theorem d_Value_store_26 : decode b_Value_store 26 = .ok (.getfield 11, 3) := by decide +kernel
theorem d_Value_store_29 : decode b_Value_store 29 = .ok (.iload_n 1, 1) := by decide +kernel
theorem d_Value_store_30 : decode b_Value_store 30 = .ok (.iconst 4, 1) := by decide +kernel
theorem d_Value_store_31 : decode b_Value_store 31 = .ok (.imul, 1) := by decide +kernel
theorem d_Value_store_32 : decode b_Value_store 32 = .ok (.iload_n 2, 1) := by decide +kernel
theorem d_Value_store_33 : decode b_Value_store 33 = .ok (.iastore, 1) := by decide +kernel
theorem d_Value_store_34 : decode b_Value_store 34 = .ok (.iconst 1, 1) := by decide +kernel
theorem d_Value_store_35 : decode b_Value_store 35 = .ok (.ireturn, 1) := by decide +kernel
theorem d_Value_store_36 : decode b_Value_store 36 = .ok (.aload_n 0, 1) := by decide +kernel
theorem d_Value_store_37 : decode b_Value_store 37 = .ok (.getfield 15, 3) := by decide +kernel
theorem d_Value_store_40 : decode b_Value_store 40 = .ok (.iload_n 1, 1) := by decide +kernel
theorem d_Value_store_41 : decode b_Value_store 41 = .ok (.iaload, 1) := by decide +kernel
theorem d_Value_store_42 : decode b_Value_store 42 = .ok (.iconst 4, 1) := by decide +kernel
theorem d_Value_store_43 : decode b_Value_store 43 = .ok (.if_icmp .lt (5), 3) := by decide +kernel
theorem d_Value_store_46 : decode b_Value_store 46 = .ok (.iconst 0, 1) := by decide +kernel
theorem d_Value_store_47 : decode b_Value_store 47 = .ok (.ireturn, 1) := by decide +kernel
theorem d_Value_store_48 : decode b_Value_store 48 = .ok (.aload_n 0, 1) := by decide +kernel
theorem d_Value_store_49 : decode b_Value_store 49 = .ok (.getfield 11, 3) := by decide +kernel
theorem d_Value_store_52 : decode b_Value_store 52 = .ok (.iload_n 1, 1) := by decide +kernel
theorem d_Value_store_53 : decode b_Value_store 53 = .ok (.iconst 4, 1) := by decide +kernel
theorem d_Value_store_54 : decode b_Value_store 54 = .ok (.imul, 1) := by decide +kernel
theorem d_Value_store_55 : decode b_Value_store 55 = .ok (.aload_n 0, 1) := by decide +kernel
theorem d_Value_store_56 : decode b_Value_store 56 = .ok (.getfield 15, 3) := by decide +kernel
theorem d_Value_store_59 : decode b_Value_store 59 = .ok (.iload_n 1, 1) := by decide +kernel
theorem d_Value_store_60 : decode b_Value_store 60 = .ok (.iaload, 1) := by decide +kernel
theorem d_Value_store_61 : decode b_Value_store 61 = .ok (.iadd, 1) := by decide +kernel
theorem d_Value_store_62 : decode b_Value_store 62 = .ok (.iload_n 2, 1) := by decide +kernel
theorem d_Value_store_63 : decode b_Value_store 63 = .ok (.iastore, 1) := by decide +kernel
theorem d_Value_store_64 : decode b_Value_store 64 = .ok (.aload_n 0, 1) := by decide +kernel
theorem d_Value_store_65 : decode b_Value_store 65 = .ok (.getfield 15, 3) := by decide +kernel
theorem d_Value_store_68 : decode b_Value_store 68 = .ok (.iload_n 1, 1) := by decide +kernel
theorem d_Value_store_69 : decode b_Value_store 69 = .ok (.dup2, 1) := by decide +kernel
theorem d_Value_store_70 : decode b_Value_store 70 = .ok (.iaload, 1) := by decide +kernel
theorem d_Value_store_71 : decode b_Value_store 71 = .ok (.iconst 1, 1) := by decide +kernel
theorem d_Value_store_72 : decode b_Value_store 72 = .ok (.iadd, 1) := by decide +kernel
theorem d_Value_store_73 : decode b_Value_store 73 = .ok (.iastore, 1) := by decide +kernel
theorem d_Value_store_74 : decode b_Value_store 74 = .ok (.iconst 1, 1) := by decide +kernel
theorem d_Value_store_75 : decode b_Value_store 75 = .ok (.ireturn, 1) := by decide +kernel
theorem d_Value_countOf_0 : decode b_Value_countOf 0 = .ok (.aload_n 0, 1) := by decide +kernel
theorem d_Value_countOf_1 : decode b_Value_countOf 1 = .ok (.getfield 18, 3) := by decide +kernel
theorem d_Value_countOf_4 : decode b_Value_countOf 4 = .ok (.iload_n 1, 1) := by decide +kernel
theorem d_Value_countOf_5 : decode b_Value_countOf 5 = .ok (.invokevirtual 22, 3) := by decide +kernel
theorem d_Value_countOf_8 : decode b_Value_countOf 8 = .ok (.ifCond .ne (5), 3) := by decide +kernel
theorem d_Value_countOf_11 : decode b_Value_countOf 11 = .ok (.iconst 0, 1) := by decide +kernel
theorem d_Value_countOf_12 : decode b_Value_countOf 12 = .ok (.ireturn, 1) := by decide +kernel
theorem d_Value_countOf_13 : decode b_Value_countOf 13 = .ok (.aload_n 0, 1) := by decide +kernel
theorem d_Value_countOf_14 : decode b_Value_countOf 14 = .ok (.getfield 18, 3) := by decide +kernel
theorem d_Value_countOf_17 : decode b_Value_countOf 17 = .ok (.getfield 26, 3) := by decide +kernel
theorem d_Value_countOf_20 : decode b_Value_countOf 20 = .ok (.iload_n 1, 1) := by decide +kernel
theorem d_Value_countOf_21 : decode b_Value_countOf 21 = .ok (.baload, 1) := by decide +kernel
theorem d_Value_countOf_22 : decode b_Value_countOf 22 = .ok (.ifCond .eq (12), 3) := by decide +kernel
theorem d_Value_countOf_25 : decode b_Value_countOf 25 = .ok (.aload_n 0, 1) := by decide +kernel
theorem d_Value_countOf_26 : decode b_Value_countOf 26 = .ok (.getfield 15, 3) := by decide +kernel
theorem d_Value_countOf_29 : decode b_Value_countOf 29 = .ok (.iload_n 1, 1) := by decide +kernel
theorem d_Value_countOf_30 : decode b_Value_countOf 30 = .ok (.iaload, 1) := by decide +kernel
theorem d_Value_countOf_31 : decode b_Value_countOf 31 = .ok (.goto (4), 3) := by decide +kernel
theorem d_Value_countOf_34 : decode b_Value_countOf 34 = .ok (.iconst 1, 1) := by decide +kernel
theorem d_Value_countOf_35 : decode b_Value_countOf 35 = .ok (.ireturn, 1) := by decide +kernel
theorem d_Value_intOf_0 : decode b_Value_intOf 0 = .ok (.iload_n 2, 1) := by decide +kernel
theorem d_Value_intOf_1 : decode b_Value_intOf 1 = .ok (.ifCond .lt (25), 3) := by decide +kernel
theorem d_Value_intOf_4 : decode b_Value_intOf 4 = .ok (.iload_n 2, 1) := by decide +kernel
theorem d_Value_intOf_5 : decode b_Value_intOf 5 = .ok (.aload_n 0, 1) := by decide +kernel
theorem d_Value_intOf_6 : decode b_Value_intOf 6 = .ok (.iload_n 1, 1) := by decide +kernel
theorem d_Value_intOf_7 : decode b_Value_intOf 7 = .ok (.invokevirtual 30, 3) := by decide +kernel
theorem d_Value_intOf_10 : decode b_Value_intOf 10 = .ok (.if_icmp .ge (16), 3) := by decide +kernel
theorem d_Value_intOf_13 : decode b_Value_intOf 13 = .ok (.aload_n 0, 1) := by decide +kernel
theorem d_Value_intOf_14 : decode b_Value_intOf 14 = .ok (.getfield 11, 3) := by decide +kernel
theorem d_Value_intOf_17 : decode b_Value_intOf 17 = .ok (.iload_n 1, 1) := by decide +kernel
theorem d_Value_intOf_18 : decode b_Value_intOf 18 = .ok (.iconst 4, 1) := by decide +kernel
theorem d_Value_intOf_19 : decode b_Value_intOf 19 = .ok (.imul, 1) := by decide +kernel
theorem d_Value_intOf_20 : decode b_Value_intOf 20 = .ok (.iload_n 2, 1) := by decide +kernel
theorem d_Value_intOf_21 : decode b_Value_intOf 21 = .ok (.iadd, 1) := by decide +kernel
theorem d_Value_intOf_22 : decode b_Value_intOf 22 = .ok (.iaload, 1) := by decide +kernel
theorem d_Value_intOf_23 : decode b_Value_intOf 23 = .ok (.goto (4), 3) := by decide +kernel
theorem d_Value_intOf_26 : decode b_Value_intOf 26 = .ok (.iconst 0, 1) := by decide +kernel
theorem d_Value_intOf_27 : decode b_Value_intOf 27 = .ok (.ireturn, 1) := by decide +kernel
theorem d_Value_digest_0 : decode b_Value_digest 0 = .ok (.iconst 0, 1) := by decide +kernel
theorem d_Value_digest_1 : decode b_Value_digest 1 = .ok (.istore_n 1, 1) := by decide +kernel
theorem d_Value_digest_2 : decode b_Value_digest 2 = .ok (.iconst 0, 1) := by decide +kernel
theorem d_Value_digest_3 : decode b_Value_digest 3 = .ok (.istore_n 2, 1) := by decide +kernel
theorem d_Value_digest_4 : decode b_Value_digest 4 = .ok (.iload_n 2, 1) := by decide +kernel
theorem d_Value_digest_5 : decode b_Value_digest 5 = .ok (.aload_n 0, 1) := by decide +kernel
theorem d_Value_digest_6 : decode b_Value_digest 6 = .ok (.getfield 18, 3) := by decide +kernel
theorem d_Value_digest_9 : decode b_Value_digest 9 = .ok (.getfield 34, 3) := by decide +kernel
theorem d_Value_digest_12 : decode b_Value_digest 12 = .ok (.if_icmp .ge (61), 3) := by decide +kernel
theorem d_Value_digest_15 : decode b_Value_digest 15 = .ok (.aload_n 0, 1) := by decide +kernel
theorem d_Value_digest_16 : decode b_Value_digest 16 = .ok (.iload_n 2, 1) := by decide +kernel
theorem d_Value_digest_17 : decode b_Value_digest 17 = .ok (.invokevirtual 30, 3) := by decide +kernel
theorem d_Value_digest_20 : decode b_Value_digest 20 = .ok (.istore_n 3, 1) := by decide +kernel
theorem d_Value_digest_21 : decode b_Value_digest 21 = .ok (.aload_n 0, 1) := by decide +kernel
theorem d_Value_digest_22 : decode b_Value_digest 22 = .ok (.getfield 18, 3) := by decide +kernel
theorem d_Value_digest_25 : decode b_Value_digest 25 = .ok (.iload_n 2, 1) := by decide +kernel
theorem d_Value_digest_26 : decode b_Value_digest 26 = .ok (.invokevirtual 38, 3) := by decide +kernel
theorem d_Value_digest_29 : decode b_Value_digest 29 = .ok (.ifCond .eq (10), 3) := by decide +kernel
theorem d_Value_digest_32 : decode b_Value_digest 32 = .ok (.bipush 31, 2) := by decide +kernel
theorem d_Value_digest_34 : decode b_Value_digest 34 = .ok (.iload_n 1, 1) := by decide +kernel
theorem d_Value_digest_35 : decode b_Value_digest 35 = .ok (.imul, 1) := by decide +kernel
theorem d_Value_digest_36 : decode b_Value_digest 36 = .ok (.iload_n 3, 1) := by decide +kernel
theorem d_Value_digest_37 : decode b_Value_digest 37 = .ok (.iadd, 1) := by decide +kernel
theorem d_Value_digest_38 : decode b_Value_digest 38 = .ok (.istore_n 1, 1) := by decide +kernel
theorem d_Value_digest_39 : decode b_Value_digest 39 = .ok (.iconst 0, 1) := by decide +kernel
theorem d_Value_digest_40 : decode b_Value_digest 40 = .ok (.istore 4, 2) := by decide +kernel
theorem d_Value_digest_42 : decode b_Value_digest 42 = .ok (.iload 4, 2) := by decide +kernel
theorem d_Value_digest_44 : decode b_Value_digest 44 = .ok (.iload_n 3, 1) := by decide +kernel
theorem d_Value_digest_45 : decode b_Value_digest 45 = .ok (.if_icmp .ge (22), 3) := by decide +kernel
theorem d_Value_digest_48 : decode b_Value_digest 48 = .ok (.bipush 31, 2) := by decide +kernel
theorem d_Value_digest_50 : decode b_Value_digest 50 = .ok (.iload_n 1, 1) := by decide +kernel
theorem d_Value_digest_51 : decode b_Value_digest 51 = .ok (.imul, 1) := by decide +kernel
theorem d_Value_digest_52 : decode b_Value_digest 52 = .ok (.aload_n 0, 1) := by decide +kernel
theorem d_Value_digest_53 : decode b_Value_digest 53 = .ok (.iload_n 2, 1) := by decide +kernel
theorem d_Value_digest_54 : decode b_Value_digest 54 = .ok (.iload 4, 2) := by decide +kernel
theorem d_Value_digest_56 : decode b_Value_digest 56 = .ok (.invokevirtual 41, 3) := by decide +kernel
theorem d_Value_digest_59 : decode b_Value_digest 59 = .ok (.iadd, 1) := by decide +kernel
theorem d_Value_digest_60 : decode b_Value_digest 60 = .ok (.istore_n 1, 1) := by decide +kernel
theorem d_Value_digest_61 : decode b_Value_digest 61 = .ok (.iinc 4 (1), 3) := by decide +kernel
theorem d_Value_digest_64 : decode b_Value_digest 64 = .ok (.goto (-22), 3) := by decide +kernel
theorem d_Value_digest_67 : decode b_Value_digest 67 = .ok (.iinc 2 (1), 3) := by decide +kernel
theorem d_Value_digest_70 : decode b_Value_digest 70 = .ok (.goto (-66), 3) := by decide +kernel
theorem d_Value_digest_73 : decode b_Value_digest 73 = .ok (.iload_n 1, 1) := by decide +kernel
theorem d_Value_digest_74 : decode b_Value_digest 74 = .ok (.ireturn, 1) := by decide +kernel
theorem d_WordFormat_init_0 : decode b_WordFormat_init 0 = .ok (.aload_n 0, 1) := by decide +kernel
theorem d_WordFormat_init_1 : decode b_WordFormat_init 1 = .ok (.aload_n 1, 1) := by decide +kernel
theorem d_WordFormat_init_2 : decode b_WordFormat_init 2 = .ok (.invokespecial 1, 3) := by decide +kernel
theorem d_WordFormat_init_5 : decode b_WordFormat_init 5 = .ok (.return_, 1) := by decide +kernel
theorem d_WordFormat_write_0 : decode b_WordFormat_write 0 = .ok (.iconst 0, 1) := by decide +kernel
theorem d_WordFormat_write_1 : decode b_WordFormat_write 1 = .ok (.istore_n 3, 1) := by decide +kernel
theorem d_WordFormat_write_2 : decode b_WordFormat_write 2 = .ok (.iload_n 3, 1) := by decide +kernel
theorem d_WordFormat_write_3 : decode b_WordFormat_write 3 = .ok (.aload_n 0, 1) := by decide +kernel
theorem d_WordFormat_write_4 : decode b_WordFormat_write 4 = .ok (.getfield 7, 3) := by decide +kernel
theorem d_WordFormat_write_7 : decode b_WordFormat_write 7 = .ok (.getfield 13, 3) := by decide +kernel
theorem d_WordFormat_write_10 : decode b_WordFormat_write 10 = .ok (.if_icmp .ge (60), 3) := by decide +kernel
theorem d_WordFormat_write_13 : decode b_WordFormat_write 13 = .ok (.aload_n 1, 1) := by decide +kernel
theorem d_WordFormat_write_14 : decode b_WordFormat_write 14 = .ok (.iload_n 3, 1) := by decide +kernel
theorem d_WordFormat_write_15 : decode b_WordFormat_write 15 = .ok (.invokevirtual 19, 3) := by decide +kernel
theorem d_WordFormat_write_18 : decode b_WordFormat_write 18 = .ok (.istore 4, 2) := by decide +kernel
theorem d_WordFormat_write_20 : decode b_WordFormat_write 20 = .ok (.aload_n 0, 1) := by decide +kernel
theorem d_WordFormat_write_21 : decode b_WordFormat_write 21 = .ok (.getfield 7, 3) := by decide +kernel
theorem d_WordFormat_write_24 : decode b_WordFormat_write 24 = .ok (.iload_n 3, 1) := by decide +kernel
theorem d_WordFormat_write_25 : decode b_WordFormat_write 25 = .ok (.invokevirtual 25, 3) := by decide +kernel
theorem d_WordFormat_write_28 : decode b_WordFormat_write 28 = .ok (.ifCond .eq (9), 3) := by decide +kernel
theorem d_WordFormat_write_31 : decode b_WordFormat_write 31 = .ok (.aload_n 2, 1) := by decide +kernel
theorem d_WordFormat_write_32 : decode b_WordFormat_write 32 = .ok (.iload 4, 2) := by decide +kernel
theorem d_WordFormat_write_34 : decode b_WordFormat_write 34 = .ok (.invokevirtual 29, 3) := by decide +kernel
theorem d_WordFormat_write_37 : decode b_WordFormat_write 37 = .ok (.iconst 0, 1) := by decide +kernel
theorem d_WordFormat_write_38 : decode b_WordFormat_write 38 = .ok (.istore 5, 2) := by decide +kernel
theorem d_WordFormat_write_40 : decode b_WordFormat_write 40 = .ok (.iload 5, 2) := by decide +kernel
theorem d_WordFormat_write_42 : decode b_WordFormat_write 42 = .ok (.iload 4, 2) := by decide +kernel
theorem d_WordFormat_write_44 : decode b_WordFormat_write 44 = .ok (.if_icmp .ge (20), 3) := by decide +kernel
theorem d_WordFormat_write_47 : decode b_WordFormat_write 47 = .ok (.aload_n 2, 1) := by decide +kernel
theorem d_WordFormat_write_48 : decode b_WordFormat_write 48 = .ok (.aload_n 1, 1) := by decide +kernel
theorem d_WordFormat_write_49 : decode b_WordFormat_write 49 = .ok (.iload_n 3, 1) := by decide +kernel
theorem d_WordFormat_write_50 : decode b_WordFormat_write 50 = .ok (.iload 5, 2) := by decide +kernel
theorem d_WordFormat_write_52 : decode b_WordFormat_write 52 = .ok (.invokevirtual 35, 3) := by decide +kernel
theorem d_WordFormat_write_55 : decode b_WordFormat_write 55 = .ok (.invokevirtual 29, 3) := by decide +kernel
theorem d_WordFormat_write_58 : decode b_WordFormat_write 58 = .ok (.iinc 5 (1), 3) := by decide +kernel
theorem d_WordFormat_write_61 : decode b_WordFormat_write 61 = .ok (.goto (-21), 3) := by decide +kernel
theorem d_WordFormat_write_64 : decode b_WordFormat_write 64 = .ok (.iinc 3 (1), 3) := by decide +kernel
theorem d_WordFormat_write_67 : decode b_WordFormat_write 67 = .ok (.goto (-65), 3) := by decide +kernel
theorem d_WordFormat_write_70 : decode b_WordFormat_write 70 = .ok (.return_, 1) := by decide +kernel
theorem d_WordFormat_read_0 : decode b_WordFormat_read 0 = .ok (.aload_n 2, 1) := by decide +kernel
theorem d_WordFormat_read_1 : decode b_WordFormat_read 1 = .ok (.invokevirtual 39, 3) := by decide +kernel
theorem d_WordFormat_read_4 : decode b_WordFormat_read 4 = .ok (.iconst 0, 1) := by decide +kernel
theorem d_WordFormat_read_5 : decode b_WordFormat_read 5 = .ok (.istore_n 3, 1) := by decide +kernel
theorem d_WordFormat_read_6 : decode b_WordFormat_read 6 = .ok (.iload_n 3, 1) := by decide +kernel
theorem d_WordFormat_read_7 : decode b_WordFormat_read 7 = .ok (.aload_n 0, 1) := by decide +kernel
theorem d_WordFormat_read_8 : decode b_WordFormat_read 8 = .ok (.getfield 7, 3) := by decide +kernel
theorem d_WordFormat_read_11 : decode b_WordFormat_read 11 = .ok (.getfield 13, 3) := by decide +kernel
theorem d_WordFormat_read_14 : decode b_WordFormat_read 14 = .ok (.if_icmp .ge (104), 3) := by decide +kernel
theorem d_WordFormat_read_17 : decode b_WordFormat_read 17 = .ok (.aload_n 0, 1) := by decide +kernel
theorem d_WordFormat_read_18 : decode b_WordFormat_read 18 = .ok (.getfield 7, 3) := by decide +kernel
theorem d_WordFormat_read_21 : decode b_WordFormat_read 21 = .ok (.iload_n 3, 1) := by decide +kernel
theorem d_WordFormat_read_22 : decode b_WordFormat_read 22 = .ok (.invokevirtual 25, 3) := by decide +kernel
theorem d_WordFormat_read_25 : decode b_WordFormat_read 25 = .ok (.ifCond .eq (10), 3) := by decide +kernel
theorem d_WordFormat_read_28 : decode b_WordFormat_read 28 = .ok (.aload_n 1, 1) := by decide +kernel
theorem d_WordFormat_read_29 : decode b_WordFormat_read 29 = .ok (.invokevirtual 43, 3) := by decide +kernel
theorem d_WordFormat_read_32 : decode b_WordFormat_read 32 = .ok (.goto (4), 3) := by decide +kernel
theorem d_WordFormat_read_35 : decode b_WordFormat_read 35 = .ok (.iconst 1, 1) := by decide +kernel
theorem d_WordFormat_read_36 : decode b_WordFormat_read 36 = .ok (.istore 4, 2) := by decide +kernel
theorem d_WordFormat_read_38 : decode b_WordFormat_read 38 = .ok (.aload_n 1, 1) := by decide +kernel
theorem d_WordFormat_read_39 : decode b_WordFormat_read 39 = .ok (.getfield 49, 3) := by decide +kernel
theorem d_WordFormat_read_42 : decode b_WordFormat_read 42 = .ok (.ifCond .ne (14), 3) := by decide +kernel
theorem d_WordFormat_read_45 : decode b_WordFormat_read 45 = .ok (.iload 4, 2) := by decide +kernel
theorem d_WordFormat_read_47 : decode b_WordFormat_read 47 = .ok (.ifCond .lt (9), 3) := by decide +kernel
theorem d_WordFormat_read_50 : decode b_WordFormat_read 50 = .ok (.iload 4, 2) := by decide +kernel
theorem d_WordFormat_read_52 : decode b_WordFormat_read 52 = .ok (.iconst 4, 1) := by decide +kernel
theorem d_WordFormat_read_53 : decode b_WordFormat_read 53 = .ok (.if_icmp .le (5), 3) := by decide +kernel
theorem d_WordFormat_read_56 : decode b_WordFormat_read 56 = .ok (.iconst 0, 1) := by decide +kernel
theorem d_WordFormat_read_57 : decode b_WordFormat_read 57 = .ok (.ireturn, 1) := by decide +kernel
theorem d_WordFormat_read_58 : decode b_WordFormat_read 58 = .ok (.iconst 0, 1) := by decide +kernel
theorem d_WordFormat_read_59 : decode b_WordFormat_read 59 = .ok (.istore 5, 2) := by decide +kernel
theorem d_WordFormat_read_61 : decode b_WordFormat_read 61 = .ok (.iload 5, 2) := by decide +kernel
theorem d_WordFormat_read_63 : decode b_WordFormat_read 63 = .ok (.iload 4, 2) := by decide +kernel
theorem d_WordFormat_read_65 : decode b_WordFormat_read 65 = .ok (.if_icmp .ge (47), 3) := by decide +kernel
theorem d_WordFormat_read_68 : decode b_WordFormat_read 68 = .ok (.aload_n 1, 1) := by decide +kernel
theorem d_WordFormat_read_69 : decode b_WordFormat_read 69 = .ok (.invokevirtual 43, 3) := by decide +kernel
theorem d_WordFormat_read_72 : decode b_WordFormat_read 72 = .ok (.istore 6, 2) := by decide +kernel
theorem d_WordFormat_read_74 : decode b_WordFormat_read 74 = .ok (.aload_n 1, 1) := by decide +kernel
theorem d_WordFormat_read_75 : decode b_WordFormat_read 75 = .ok (.getfield 49, 3) := by decide +kernel
theorem d_WordFormat_read_78 : decode b_WordFormat_read 78 = .ok (.ifCond .ne (26), 3) := by decide +kernel
theorem d_WordFormat_read_81 : decode b_WordFormat_read 81 = .ok (.aload_n 0, 1) := by decide +kernel
theorem d_WordFormat_read_82 : decode b_WordFormat_read 82 = .ok (.getfield 7, 3) := by decide +kernel
theorem d_WordFormat_read_85 : decode b_WordFormat_read 85 = .ok (.iload_n 3, 1) := by decide +kernel
theorem d_WordFormat_read_86 : decode b_WordFormat_read 86 = .ok (.iload 6, 2) := by decide +kernel
theorem d_WordFormat_read_88 : decode b_WordFormat_read 88 = .ok (.invokevirtual 53, 3) := by decide +kernel
theorem d_WordFormat_read_91 : decode b_WordFormat_read 91 = .ok (.ifCond .eq (13), 3) := by decide +kernel
theorem d_WordFormat_read_94 : decode b_WordFormat_read 94 = .ok (.aload_n 2, 1) := by decide +kernel
theorem d_WordFormat_read_95 : decode b_WordFormat_read 95 = .ok (.iload_n 3, 1) := by decide +kernel
theorem d_WordFormat_read_96 : decode b_WordFormat_read 96 = .ok (.iload 6, 2) := by decide +kernel
theorem d_WordFormat_read_98 : decode b_WordFormat_read 98 = .ok (.invokevirtual 57, 3) := by decide +kernel
theorem d_WordFormat_read_101 : decode b_WordFormat_read 101 = .ok (.ifCond .ne (5), 3) := by decide +kernel
theorem d_WordFormat_read_104 : decode b_WordFormat_read 104 = .ok (.iconst 0, 1) := by decide +kernel
theorem d_WordFormat_read_105 : decode b_WordFormat_read 105 = .ok (.ireturn, 1) := by decide +kernel
theorem d_WordFormat_read_106 : decode b_WordFormat_read 106 = .ok (.iinc 5 (1), 3) := by decide +kernel
theorem d_WordFormat_read_109 : decode b_WordFormat_read 109 = .ok (.goto (-48), 3) := by decide +kernel
theorem d_WordFormat_read_112 : decode b_WordFormat_read 112 = .ok (.iinc 3 (1), 3) := by decide +kernel
theorem d_WordFormat_read_115 : decode b_WordFormat_read 115 = .ok (.goto (-109), 3) := by decide +kernel
theorem d_WordFormat_read_118 : decode b_WordFormat_read 118 = .ok (.aload_n 1, 1) := by decide +kernel
theorem d_WordFormat_read_119 : decode b_WordFormat_read 119 = .ok (.invokevirtual 60, 3) := by decide +kernel
theorem d_WordFormat_read_122 : decode b_WordFormat_read 122 = .ok (.ifCond .ne (7), 3) := by decide +kernel
theorem d_WordFormat_read_125 : decode b_WordFormat_read 125 = .ok (.iconst 1, 1) := by decide +kernel
theorem d_WordFormat_read_126 : decode b_WordFormat_read 126 = .ok (.goto (4), 3) := by decide +kernel
theorem d_WordFormat_read_129 : decode b_WordFormat_read 129 = .ok (.iconst 0, 1) := by decide +kernel
theorem d_WordFormat_read_130 : decode b_WordFormat_read 130 = .ok (.ireturn, 1) := by decide +kernel
theorem d_Format_init_0 : decode b_Format_init 0 = .ok (.aload_n 0, 1) := by decide +kernel
theorem d_Format_init_1 : decode b_Format_init 1 = .ok (.invokespecial 1, 3) := by decide +kernel
theorem d_Format_init_4 : decode b_Format_init 4 = .ok (.aload_n 0, 1) := by decide +kernel
theorem d_Format_init_5 : decode b_Format_init 5 = .ok (.aload_n 1, 1) := by decide +kernel
theorem d_Format_init_6 : decode b_Format_init 6 = .ok (.putfield 7, 3) := by decide +kernel
theorem d_Format_init_9 : decode b_Format_init 9 = .ok (.return_, 1) := by decide +kernel
theorem d_Md_init_0 : decode b_Md_init 0 = .ok (.aload_n 0, 1) := by decide +kernel
theorem d_Md_init_1 : decode b_Md_init 1 = .ok (.invokespecial 1, 3) := by decide +kernel
theorem d_Md_init_4 : decode b_Md_init 4 = .ok (.aload_n 0, 1) := by decide +kernel
theorem d_Md_init_5 : decode b_Md_init 5 = .ok (.iconst 4, 1) := by decide +kernel
theorem d_Md_init_6 : decode b_Md_init 6 = .ok (.newarray .int, 2) := by decide +kernel
theorem d_Md_init_8 : decode b_Md_init 8 = .ok (.putfield 7, 3) := by decide +kernel
theorem d_Md_init_11 : decode b_Md_init 11 = .ok (.aload_n 0, 1) := by decide +kernel
theorem d_Md_init_12 : decode b_Md_init 12 = .ok (.iconst 4, 1) := by decide +kernel
theorem d_Md_init_13 : decode b_Md_init 13 = .ok (.newarray .int, 2) := by decide +kernel
theorem d_Md_init_15 : decode b_Md_init 15 = .ok (.putfield 13, 3) := by decide +kernel
theorem d_Md_init_18 : decode b_Md_init 18 = .ok (.aload_n 0, 1) := by decide +kernel
theorem d_Md_init_19 : decode b_Md_init 19 = .ok (.iconst 4, 1) := by decide +kernel
theorem d_Md_init_20 : decode b_Md_init 20 = .ok (.newarray .boolean, 2) := by decide +kernel
theorem d_Md_init_22 : decode b_Md_init 22 = .ok (.putfield 16, 3) := by decide +kernel
theorem d_Md_init_25 : decode b_Md_init 25 = .ok (.aload_n 0, 1) := by decide +kernel
theorem d_Md_init_26 : decode b_Md_init 26 = .ok (.bipush 8, 2) := by decide +kernel
theorem d_Md_init_28 : decode b_Md_init 28 = .ok (.newarray .int, 2) := by decide +kernel
theorem d_Md_init_30 : decode b_Md_init 30 = .ok (.putfield 20, 3) := by decide +kernel
theorem d_Md_init_33 : decode b_Md_init 33 = .ok (.aload_n 0, 1) := by decide +kernel
theorem d_Md_init_34 : decode b_Md_init 34 = .ok (.bipush 32, 2) := by decide +kernel
theorem d_Md_init_36 : decode b_Md_init 36 = .ok (.newarray .int, 2) := by decide +kernel
theorem d_Md_init_38 : decode b_Md_init 38 = .ok (.putfield 23, 3) := by decide +kernel
theorem d_Md_init_41 : decode b_Md_init 41 = .ok (.aload_n 0, 1) := by decide +kernel
theorem d_Md_init_42 : decode b_Md_init 42 = .ok (.sipush 210, 3) := by decide +kernel
theorem d_Md_init_45 : decode b_Md_init 45 = .ok (.newarray .int, 2) := by decide +kernel
theorem d_Md_init_47 : decode b_Md_init 47 = .ok (.putfield 26, 3) := by decide +kernel
theorem d_Md_init_50 : decode b_Md_init 50 = .ok (.aload_n 0, 1) := by decide +kernel
theorem d_Md_init_51 : decode b_Md_init 51 = .ok (.sipush 210, 3) := by decide +kernel
theorem d_Md_init_54 : decode b_Md_init 54 = .ok (.newarray .int, 2) := by decide +kernel
theorem d_Md_init_56 : decode b_Md_init 56 = .ok (.putfield 29, 3) := by decide +kernel
theorem d_Md_init_59 : decode b_Md_init 59 = .ok (.aload_n 0, 1) := by decide +kernel
theorem d_Md_init_60 : decode b_Md_init 60 = .ok (.sipush 2560, 3) := by decide +kernel
theorem d_Md_init_63 : decode b_Md_init 63 = .ok (.newarray .int, 2) := by decide +kernel
theorem d_Md_init_65 : decode b_Md_init 65 = .ok (.putfield 32, 3) := by decide +kernel
theorem d_Md_init_68 : decode b_Md_init 68 = .ok (.aload_n 0, 1) := by decide +kernel
theorem d_Md_init_69 : decode b_Md_init 69 = .ok (.bipush 16, 2) := by decide +kernel
theorem d_Md_init_71 : decode b_Md_init 71 = .ok (.newarray .int, 2) := by decide +kernel
theorem d_Md_init_73 : decode b_Md_init 73 = .ok (.putfield 35, 3) := by decide +kernel
theorem d_Md_init_76 : decode b_Md_init 76 = .ok (.aload_n 0, 1) := by decide +kernel
theorem d_Md_init_77 : decode b_Md_init 77 = .ok (.bipush 16, 2) := by decide +kernel
theorem d_Md_init_79 : decode b_Md_init 79 = .ok (.newarray .boolean, 2) := by decide +kernel
theorem d_Md_init_81 : decode b_Md_init 81 = .ok (.putfield 38, 3) := by decide +kernel
theorem d_Md_init_84 : decode b_Md_init 84 = .ok (.aload_n 0, 1) := by decide +kernel
theorem d_Md_init_85 : decode b_Md_init 85 = .ok (.sipush 200, 3) := by decide +kernel
theorem d_Md_init_88 : decode b_Md_init 88 = .ok (.newarray .int, 2) := by decide +kernel
theorem d_Md_init_90 : decode b_Md_init 90 = .ok (.putfield 41, 3) := by decide +kernel
theorem d_Md_init_93 : decode b_Md_init 93 = .ok (.aload_n 0, 1) := by decide +kernel
theorem d_Md_init_94 : decode b_Md_init 94 = .ok (.iconst 4, 1) := by decide +kernel
theorem d_Md_init_95 : decode b_Md_init 95 = .ok (.newarray .int, 2) := by decide +kernel
theorem d_Md_init_97 : decode b_Md_init 97 = .ok (.putfield 44, 3) := by decide +kernel
theorem d_Md_init_100 : decode b_Md_init 100 = .ok (.aload_n 0, 1) := by decide +kernel
theorem d_Md_init_101 : decode b_Md_init 101 = .ok (.iconst 4, 1) := by decide +kernel
theorem d_Md_init_102 : decode b_Md_init 102 = .ok (.newarray .int, 2) := by decide +kernel
theorem d_Md_init_104 : decode b_Md_init 104 = .ok (.putfield 47, 3) := by decide +kernel
theorem d_Md_init_107 : decode b_Md_init 107 = .ok (.aload_n 0, 1) := by decide +kernel
theorem d_Md_init_108 : decode b_Md_init 108 = .ok (.iconst 4, 1) := by decide +kernel
theorem d_Md_init_109 : decode b_Md_init 109 = .ok (.newarray .int, 2) := by decide +kernel
theorem d_Md_init_111 : decode b_Md_init 111 = .ok (.putfield 50, 3) := by decide +kernel
theorem d_Md_init_114 : decode b_Md_init 114 = .ok (.aload_n 0, 1) := by decide +kernel
theorem d_Md_init_115 : decode b_Md_init 115 = .ok (.bipush 100, 2) := by decide +kernel
theorem d_Md_init_117 : decode b_Md_init 117 = .ok (.newarray .int, 2) := by decide +kernel
theorem d_Md_init_119 : decode b_Md_init 119 = .ok (.putfield 53, 3) := by decide +kernel
theorem d_Md_init_122 : decode b_Md_init 122 = .ok (.aload_n 0, 1) := by decide +kernel
theorem d_Md_init_123 : decode b_Md_init 123 = .ok (.bipush 100, 2) := by decide +kernel
theorem d_Md_init_125 : decode b_Md_init 125 = .ok (.newarray .int, 2) := by decide +kernel
theorem d_Md_init_127 : decode b_Md_init 127 = .ok (.putfield 56, 3) := by decide +kernel
theorem d_Md_init_130 : decode b_Md_init 130 = .ok (.aload_n 0, 1) := by decide +kernel
theorem d_Md_init_131 : decode b_Md_init 131 = .ok (.bipush 100, 2) := by decide +kernel
theorem d_Md_init_133 : decode b_Md_init 133 = .ok (.newarray .int, 2) := by decide +kernel
theorem d_Md_init_135 : decode b_Md_init 135 = .ok (.putfield 59, 3) := by decide +kernel
theorem d_Md_init_138 : decode b_Md_init 138 = .ok (.aload_n 0, 1) := by decide +kernel
theorem d_Md_init_139 : decode b_Md_init 139 = .ok (.sipush 1280, 3) := by decide +kernel
theorem d_Md_init_142 : decode b_Md_init 142 = .ok (.newarray .int, 2) := by decide +kernel
theorem d_Md_init_144 : decode b_Md_init 144 = .ok (.putfield 62, 3) := by decide +kernel
theorem d_Md_init_147 : decode b_Md_init 147 = .ok (.aload_n 0, 1) := by decide +kernel
theorem d_Md_init_148 : decode b_Md_init 148 = .ok (.bipush 8, 2) := by decide +kernel
theorem d_Md_init_150 : decode b_Md_init 150 = .ok (.newarray .int, 2) := by decide +kernel
theorem d_Md_init_152 : decode b_Md_init 152 = .ok (.putfield 65, 3) := by decide +kernel
theorem d_Md_init_155 : decode b_Md_init 155 = .ok (.aload_n 0, 1) := by decide +kernel
theorem d_Md_init_156 : decode b_Md_init 156 = .ok (.bipush 8, 2) := by decide +kernel
theorem d_Md_init_158 : decode b_Md_init 158 = .ok (.newarray .int, 2) := by decide +kernel
theorem d_Md_init_160 : decode b_Md_init 160 = .ok (.dup, 1) := by decide +kernel
theorem d_Md_init_161 : decode b_Md_init 161 = .ok (.iconst 0, 1) := by decide +kernel
theorem d_Md_init_162 : decode b_Md_init 162 = .ok (.iconst (-1), 1) := by decide +kernel
theorem d_Md_init_163 : decode b_Md_init 163 = .ok (.iastore, 1) := by decide +kernel
theorem d_Md_init_164 : decode b_Md_init 164 = .ok (.dup, 1) := by decide +kernel
theorem d_Md_init_165 : decode b_Md_init 165 = .ok (.iconst 1, 1) := by decide +kernel
theorem d_Md_init_166 : decode b_Md_init 166 = .ok (.iconst (-1), 1) := by decide +kernel
theorem d_Md_init_167 : decode b_Md_init 167 = .ok (.iastore, 1) := by decide +kernel
theorem d_Md_init_168 : decode b_Md_init 168 = .ok (.dup, 1) := by decide +kernel
theorem d_Md_init_169 : decode b_Md_init 169 = .ok (.iconst 2, 1) := by decide +kernel
theorem d_Md_init_170 : decode b_Md_init 170 = .ok (.iconst (-1), 1) := by decide +kernel
theorem d_Md_init_171 : decode b_Md_init 171 = .ok (.iastore, 1) := by decide +kernel
theorem d_Md_init_172 : decode b_Md_init 172 = .ok (.dup, 1) := by decide +kernel
theorem d_Md_init_173 : decode b_Md_init 173 = .ok (.iconst 3, 1) := by decide +kernel
theorem d_Md_init_174 : decode b_Md_init 174 = .ok (.iconst (-1), 1) := by decide +kernel
theorem d_Md_init_175 : decode b_Md_init 175 = .ok (.iastore, 1) := by decide +kernel
theorem d_Md_init_176 : decode b_Md_init 176 = .ok (.dup, 1) := by decide +kernel
theorem d_Md_init_177 : decode b_Md_init 177 = .ok (.iconst 4, 1) := by decide +kernel
theorem d_Md_init_178 : decode b_Md_init 178 = .ok (.iconst (-1), 1) := by decide +kernel
theorem d_Md_init_179 : decode b_Md_init 179 = .ok (.iastore, 1) := by decide +kernel
theorem d_Md_init_180 : decode b_Md_init 180 = .ok (.dup, 1) := by decide +kernel
theorem d_Md_init_181 : decode b_Md_init 181 = .ok (.iconst 5, 1) := by decide +kernel
theorem d_Md_init_182 : decode b_Md_init 182 = .ok (.iconst (-1), 1) := by decide +kernel
theorem d_Md_init_183 : decode b_Md_init 183 = .ok (.iastore, 1) := by decide +kernel
theorem d_Md_init_184 : decode b_Md_init 184 = .ok (.dup, 1) := by decide +kernel
theorem d_Md_init_185 : decode b_Md_init 185 = .ok (.bipush 6, 2) := by decide +kernel
theorem d_Md_init_187 : decode b_Md_init 187 = .ok (.iconst (-1), 1) := by decide +kernel
theorem d_Md_init_188 : decode b_Md_init 188 = .ok (.iastore, 1) := by decide +kernel
theorem d_Md_init_189 : decode b_Md_init 189 = .ok (.dup, 1) := by decide +kernel
theorem d_Md_init_190 : decode b_Md_init 190 = .ok (.bipush 7, 2) := by decide +kernel
theorem d_Md_init_192 : decode b_Md_init 192 = .ok (.iconst (-1), 1) := by decide +kernel
theorem d_Md_init_193 : decode b_Md_init 193 = .ok (.iastore, 1) := by decide +kernel
theorem d_Md_init_194 : decode b_Md_init 194 = .ok (.putfield 68, 3) := by decide +kernel
theorem d_Md_init_197 : decode b_Md_init 197 = .ok (.aload_n 0, 1) := by decide +kernel
theorem d_Md_init_198 : decode b_Md_init 198 = .ok (.iload_n 1, 1) := by decide +kernel
theorem d_Md_init_199 : decode b_Md_init 199 = .ok (.iconst 1, 1) := by decide +kernel
theorem d_Md_init_200 : decode b_Md_init 200 = .ok (.iand, 1) := by decide +kernel
theorem d_Md_init_201 : decode b_Md_init 201 = .ok (.iconst 1, 1) := by decide +kernel
theorem d_Md_init_202 : decode b_Md_init 202 = .ok (.if_icmp .ne (7), 3) := by decide +kernel
theorem d_Md_init_205 : decode b_Md_init 205 = .ok (.iconst 1, 1) := by decide +kernel
theorem d_Md_init_206 : decode b_Md_init 206 = .ok (.goto (4), 3) := by decide +kernel
theorem d_Md_init_209 : decode b_Md_init 209 = .ok (.iconst 0, 1) := by decide +kernel
theorem d_Md_init_210 : decode b_Md_init 210 = .ok (.putfield 71, 3) := by decide +kernel
theorem d_Md_init_213 : decode b_Md_init 213 = .ok (.return_, 1) := by decide +kernel
theorem d_Md_field_0 : decode b_Md_field 0 = .ok (.iconst 0, 1) := by decide +kernel
theorem d_Md_field_1 : decode b_Md_field 1 = .ok (.istore 4, 2) := by decide +kernel
theorem d_Md_field_3 : decode b_Md_field 3 = .ok (.iconst 0, 1) := by decide +kernel
theorem d_Md_field_4 : decode b_Md_field 4 = .ok (.istore 5, 2) := by decide +kernel
theorem d_Md_field_6 : decode b_Md_field 6 = .ok (.iload 5, 2) := by decide +kernel
theorem d_Md_field_8 : decode b_Md_field 8 = .ok (.aload_n 0, 1) := by decide +kernel
theorem d_Md_field_9 : decode b_Md_field 9 = .ok (.getfield 75, 3) := by decide +kernel
theorem d_Md_field_12 : decode b_Md_field 12 = .ok (.if_icmp .ge (32), 3) := by decide +kernel
theorem d_Md_field_15 : decode b_Md_field 15 = .ok (.iload 4, 2) := by decide +kernel
theorem d_Md_field_17 : decode b_Md_field 17 = .ok (.ifCond .ne (14), 3) := by decide +kernel
theorem d_Md_field_20 : decode b_Md_field 20 = .ok (.aload_n 0, 1) := by decide +kernel
theorem d_Md_field_21 : decode b_Md_field 21 = .ok (.getfield 7, 3) := by decide +kernel
theorem d_Md_field_24 : decode b_Md_field 24 = .ok (.iload 5, 2) := by decide +kernel
theorem d_Md_field_26 : decode b_Md_field 26 = .ok (.iaload, 1) := by decide +kernel
theorem d_Md_field_27 : decode b_Md_field 27 = .ok (.iload_n 1, 1) := by decide +kernel
theorem d_Md_field_28 : decode b_Md_field 28 = .ok (.if_icmp .ne (7), 3) := by decide +kernel
theorem d_Md_field_31 : decode b_Md_field 31 = .ok (.iconst 1, 1) := by decide +kernel
theorem d_Md_field_32 : decode b_Md_field 32 = .ok (.goto (4), 3) := by decide +kernel
theorem d_Md_field_35 : decode b_Md_field 35 = .ok (.iconst 0, 1) := by decide +kernel
theorem d_Md_field_36 : decode b_Md_field 36 = .ok (.istore 4, 2) := by decide +kernel
theorem d_Md_field_38 : decode b_Md_field 38 = .ok (.iinc 5 (1), 3) := by decide +kernel
theorem d_Md_field_41 : decode b_Md_field 41 = .ok (.goto (-35), 3) := by decide +kernel
theorem d_Md_field_44 : decode b_Md_field 44 = .ok (.iload_n 1, 1) := by decide +kernel
theorem d_Md_field_45 : decode b_Md_field 45 = .ok (.iconst 1, 1) := by decide +kernel
theorem d_Md_field_46 : decode b_Md_field 46 = .ok (.if_icmp .lt (23), 3) := by decide +kernel
theorem d_Md_field_49 : decode b_Md_field 49 = .ok (.iload_n 1, 1) := by decide +kernel
theorem d_Md_field_50 : decode b_Md_field 50 = .ok (.bipush 30, 2) := by decide +kernel
theorem d_Md_field_52 : decode b_Md_field 52 = .ok (.if_icmp .gt (17), 3) := by decide +kernel
theorem d_Md_field_55 : decode b_Md_field 55 = .ok (.iload_n 2, 1) := by decide +kernel
theorem d_Md_field_56 : decode b_Md_field 56 = .ok (.ifCond .lt (13), 3) := by decide +kernel
theorem d_Md_field_59 : decode b_Md_field 59 = .ok (.iload_n 2, 1) := by decide +kernel
theorem d_Md_field_60 : decode b_Md_field 60 = .ok (.iconst 3, 1) := by decide +kernel
theorem d_Md_field_61 : decode b_Md_field 61 = .ok (.if_icmp .gt (8), 3) := by decide +kernel
theorem d_Md_field_64 : decode b_Md_field 64 = .ok (.iload 4, 2) := by decide +kernel
theorem d_Md_field_66 : decode b_Md_field 66 = .ok (.ifCond .eq (6), 3) := by decide +kernel
theorem d_Md_field_69 : decode b_Md_field 69 = .ok (.bipush (-4), 2) := by decide +kernel
theorem d_Md_field_71 : decode b_Md_field 71 = .ok (.ireturn, 1) := by decide +kernel
theorem d_Md_field_72 : decode b_Md_field 72 = .ok (.aload_n 0, 1) := by decide +kernel
theorem d_Md_field_73 : decode b_Md_field 73 = .ok (.getfield 75, 3) := by decide +kernel
theorem d_Md_field_76 : decode b_Md_field 76 = .ok (.iconst 4, 1) := by decide +kernel
theorem d_Md_field_77 : decode b_Md_field 77 = .ok (.if_icmp .ne (6), 3) := by decide +kernel
theorem d_Md_field_80 : decode b_Md_field 80 = .ok (.bipush (-5), 2) := by decide +kernel
theorem d_Md_field_82 : decode b_Md_field 82 = .ok (.ireturn, 1) := by decide +kernel
theorem d_Md_field_83 : decode b_Md_field 83 = .ok (.aload_n 0, 1) := by decide +kernel
theorem d_Md_field_84 : decode b_Md_field 84 = .ok (.getfield 7, 3) := by decide +kernel
theorem d_Md_field_87 : decode b_Md_field 87 = .ok (.aload_n 0, 1) := by decide +kernel
theorem d_Md_field_88 : decode b_Md_field 88 = .ok (.getfield 75, 3) := by decide +kernel
theorem d_Md_field_91 : decode b_Md_field 91 = .ok (.iload_n 1, 1) := by decide +kernel
theorem d_Md_field_92 : decode b_Md_field 92 = .ok (.iastore, 1) := by decide +kernel
theorem d_Md_field_93 : decode b_Md_field 93 = .ok (.aload_n 0, 1) := by decide +kernel
theorem d_Md_field_94 : decode b_Md_field 94 = .ok (.getfield 13, 3) := by decide +kernel
theorem d_Md_field_97 : decode b_Md_field 97 = .ok (.aload_n 0, 1) := by decide +kernel
theorem d_Md_field_98 : decode b_Md_field 98 = .ok (.getfield 75, 3) := by decide +kernel
theorem d_Md_field_101 : decode b_Md_field 101 = .ok (.iload_n 2, 1) := by decide +kernel
theorem d_Md_field_102 : decode b_Md_field 102 = .ok (.iastore, 1) := by decide +kernel
theorem d_Md_field_103 : decode b_Md_field 103 = .ok (.aload_n 0, 1) := by decide +kernel
theorem d_Md_field_104 : decode b_Md_field 104 = .ok (.getfield 16, 3) := by decide +kernel
theorem d_Md_field_107 : decode b_Md_field 107 = .ok (.aload_n 0, 1) := by decide +kernel
theorem d_Md_field_108 : decode b_Md_field 108 = .ok (.getfield 75, 3) := by decide +kernel
theorem d_Md_field_111 : decode b_Md_field 111 = .ok (.iload_n 3, 1) := by decide +kernel
theorem d_Md_field_112 : decode b_Md_field 112 = .ok (.bastore, 1) := by decide +kernel
theorem d_Md_field_113 : decode b_Md_field 113 = .ok (.aload_n 0, 1) := by decide +kernel
theorem d_Md_field_114 : decode b_Md_field 114 = .ok (.dup, 1) := by decide +kernel
theorem d_Md_field_115 : decode b_Md_field 115 = .ok (.getfield 75, 3) := by decide +kernel
theorem d_Md_field_118 : decode b_Md_field 118 = .ok (.iconst 1, 1) := by decide +kernel
theorem d_Md_field_119 : decode b_Md_field 119 = .ok (.iadd, 1) := by decide +kernel
theorem d_Md_field_120 : decode b_Md_field 120 = .ok (.putfield 75, 3) := by decide +kernel
theorem d_Md_field_123 : decode b_Md_field 123 = .ok (.aload_n 0, 1) := by decide +kernel
theorem d_Md_field_124 : decode b_Md_field 124 = .ok (.aload_n 0, 1) := by decide +kernel
theorem d_Md_field_125 : decode b_Md_field 125 = .ok (.getfield 75, 3) := by decide +kernel
theorem d_Md_field_128 : decode b_Md_field 128 = .ok (.iconst 1, 1) := by decide +kernel
theorem d_Md_field_129 : decode b_Md_field 129 = .ok (.isub, 1) := by decide +kernel
theorem d_Md_field_130 : decode b_Md_field 130 = .ok (.invokevirtual 79, 3) := by decide +kernel
theorem d_Md_field_133 : decode b_Md_field 133 = .ok (.aload_n 0, 1) := by decide +kernel
theorem d_Md_field_134 : decode b_Md_field 134 = .ok (.aload_n 0, 1) := by decide +kernel
theorem d_Md_field_135 : decode b_Md_field 135 = .ok (.getfield 75, 3) := by decide +kernel
theorem d_Md_field_138 : decode b_Md_field 138 = .ok (.iconst 3, 1) := by decide +kernel
theorem d_Md_field_139 : decode b_Md_field 139 = .ok (.iadd, 1) := by decide +kernel
theorem d_Md_field_140 : decode b_Md_field 140 = .ok (.invokevirtual 79, 3) := by decide +kernel
theorem d_Md_field_143 : decode b_Md_field 143 = .ok (.aload_n 0, 1) := by decide +kernel
theorem d_Md_field_144 : decode b_Md_field 144 = .ok (.getfield 75, 3) := by decide +kernel
theorem d_Md_field_147 : decode b_Md_field 147 = .ok (.iconst 1, 1) := by decide +kernel
theorem d_Md_field_148 : decode b_Md_field 148 = .ok (.isub, 1) := by decide +kernel
theorem d_Md_field_149 : decode b_Md_field 149 = .ok (.ireturn, 1) := by decide +kernel
theorem d_Md_empty_0 : decode b_Md_empty 0 = .ok (.aload_n 0, 1) := by decide +kernel
theorem d_Md_empty_1 : decode b_Md_empty 1 = .ok (.getfield 20, 3) := by decide +kernel
theorem d_Md_empty_4 : decode b_Md_empty 4 = .ok (.iload_n 1, 1) := by decide +kernel
theorem d_Md_empty_5 : decode b_Md_empty 5 = .ok (.aload_n 0, 1) := by decide +kernel
theorem d_Md_empty_6 : decode b_Md_empty 6 = .ok (.getfield 16, 3) := by decide +kernel
theorem d_Md_empty_9 : decode b_Md_empty 9 = .ok (.iload_n 1, 1) := by decide +kernel
theorem d_Md_empty_10 : decode b_Md_empty 10 = .ok (.iconst 4, 1) := by decide +kernel
theorem d_Md_empty_11 : decode b_Md_empty 11 = .ok (.irem, 1) := by decide +kernel
theorem d_Md_empty_12 : decode b_Md_empty 12 = .ok (.baload, 1) := by decide +kernel
theorem d_Md_empty_13 : decode b_Md_empty 13 = .ok (.ifCond .eq (7), 3) := by decide +kernel
theorem d_Md_empty_16 : decode b_Md_empty 16 = .ok (.iconst 0, 1) := by decide +kernel
theorem d_Md_empty_17 : decode b_Md_empty 17 = .ok (.goto (4), 3) := by decide +kernel
theorem d_Md_empty_20 : decode b_Md_empty 20 = .ok (.iconst 1, 1) := by decide +kernel
theorem d_Md_empty_21 : decode b_Md_empty 21 = .ok (.iastore, 1) := by decide +kernel
theorem d_Md_empty_22 : decode b_Md_empty 22 = .ok (.aload_n 0, 1) := by decide +kernel
theorem d_Md_empty_23 : decode b_Md_empty 23 = .ok (.getfield 23, 3) := by decide +kernel
theorem d_Md_empty_26 : decode b_Md_empty 26 = .ok (.iconst 4, 1) := by decide +kernel
theorem d_Md_empty_27 : decode b_Md_empty 27 = .ok (.iload_n 1, 1) := by decide +kernel
theorem d_Md_empty_28 : decode b_Md_empty 28 = .ok (.imul, 1) := by decide +kernel
theorem d_Md_empty_29 : decode b_Md_empty 29 = .ok (.iconst 0, 1) := by decide +kernel
theorem d_Md_empty_30 : decode b_Md_empty 30 = .ok (.iastore, 1) := by decide +kernel
theorem d_Md_empty_31 : decode b_Md_empty 31 = .ok (.return_, 1) := by decide +kernel
theorem d_Md_give_0 : decode b_Md_give 0 = .ok (.aload_n 0, 1) := by decide +kernel
theorem d_Md_give_1 : decode b_Md_give 1 = .ok (.getfield 16, 3) := by decide +kernel
theorem d_Md_give_4 : decode b_Md_give 4 = .ok (.iload_n 1, 1) := by decide +kernel
theorem d_Md_give_5 : decode b_Md_give 5 = .ok (.iconst 4, 1) := by decide +kernel
theorem d_Md_give_6 : decode b_Md_give 6 = .ok (.irem, 1) := by decide +kernel
theorem d_Md_give_7 : decode b_Md_give 7 = .ok (.baload, 1) := by decide +kernel
theorem d_Md_give_8 : decode b_Md_give 8 = .ok (.ifCond .ne (14), 3) := by decide +kernel
theorem d_Md_give_11 : decode b_Md_give 11 = .ok (.aload_n 0, 1) := by decide +kernel
theorem d_Md_give_12 : decode b_Md_give 12 = .ok (.getfield 23, 3) := by decide +kernel
theorem d_Md_give_15 : decode b_Md_give 15 = .ok (.iconst 4, 1) := by decide +kernel
theorem d_Md_give_16 : decode b_Md_give 16 = .ok (.iload_n 1, 1) := by decide +kernel
theorem d_Md_give_17 : decode b_Md_give 17 = .ok (.imul, 1) := by decide +kernel
theorem d_Md_give_18 : decode b_Md_give 18 = .ok (.iload_n 2, 1) := by decide +kernel
theorem d_Md_give_19 : decode b_Md_give 19 = .ok (.iastore, 1) := by decide +kernel
theorem d_Md_give_20 : decode b_Md_give 20 = .ok (.iconst 1, 1) := by decide +kernel
theorem d_Md_give_21 : decode b_Md_give 21 = .ok (.ireturn, 1) := by decide +kernel
theorem d_Md_give_22 : decode b_Md_give 22 = .ok (.aload_n 0, 1) := by decide +kernel
theorem d_Md_give_23 : decode b_Md_give 23 = .ok (.getfield 20, 3) := by decide +kernel
theorem d_Md_give_26 : decode b_Md_give 26 = .ok (.iload_n 1, 1) := by decide +kernel
theorem d_Md_give_27 : decode b_Md_give 27 = .ok (.iaload, 1) := by decide +kernel
theorem d_Md_give_28 : decode b_Md_give 28 = .ok (.iconst 4, 1) := by decide +kernel
theorem d_Md_give_29 : decode b_Md_give 29 = .ok (.if_icmp .ne (5), 3) := by decide +kernel
theorem d_Md_give_32 : decode b_Md_give 32 = .ok (.iconst 0, 1) := by decide +kernel
theorem d_Md_give_33 : decode b_Md_give 33 = .ok (.ireturn, 1) := by decide +kernel
theorem d_Md_give_34 : decode b_Md_give 34 = .ok (.aload_n 0, 1) := by decide +kernel
theorem d_Md_give_35 : decode b_Md_give 35 = .ok (.getfield 23, 3) := by decide +kernel
theorem d_Md_give_38 : decode b_Md_give 38 = .ok (.iconst 4, 1) := by decide +kernel
theorem d_Md_give_39 : decode b_Md_give 39 = .ok (.iload_n 1, 1) := by decide +kernel
theorem d_Md_give_40 : decode b_Md_give 40 = .ok (.imul, 1) := by decide +kernel
theorem d_Md_give_41 : decode b_Md_give 41 = .ok (.aload_n 0, 1) := by decide +kernel
theorem d_Md_give_42 : decode b_Md_give 42 = .ok (.getfield 20, 3) := by decide +kernel
theorem d_Md_give_45 : decode b_Md_give 45 = .ok (.iload_n 1, 1) := by decide +kernel
theorem d_Md_give_46 : decode b_Md_give 46 = .ok (.iaload, 1) := by decide +kernel
theorem d_Md_give_47 : decode b_Md_give 47 = .ok (.iadd, 1) := by decide +kernel
theorem d_Md_give_48 : decode b_Md_give 48 = .ok (.iload_n 2, 1) := by decide +kernel
theorem d_Md_give_49 : decode b_Md_give 49 = .ok (.iastore, 1) := by decide +kernel
theorem d_Md_give_50 : decode b_Md_give 50 = .ok (.aload_n 0, 1) := by decide +kernel
theorem d_Md_give_51 : decode b_Md_give 51 = .ok (.getfield 20, 3) := by decide +kernel
theorem d_Md_give_54 : decode b_Md_give 54 = .ok (.iload_n 1, 1) := by decide +kernel
theorem d_Md_give_55 : decode b_Md_give 55 = .ok (.dup2, 1) := by decide +kernel
theorem d_Md_give_56 : decode b_Md_give 56 = .ok (.iaload, 1) := by decide +kernel
theorem d_Md_give_57 : decode b_Md_give 57 = .ok (.iconst 1, 1) := by decide +kernel
theorem d_Md_give_58 : decode b_Md_give 58 = .ok (.iadd, 1) := by decide +kernel
theorem d_Md_give_59 : decode b_Md_give 59 = .ok (.iastore, 1) := by decide +kernel
theorem d_Md_give_60 : decode b_Md_give 60 = .ok (.iconst 1, 1) := by decide +kernel
theorem d_Md_give_61 : decode b_Md_give 61 = .ok (.ireturn, 1) := by decide +kernel
