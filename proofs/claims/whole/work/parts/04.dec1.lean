theorem d_A_copyOf_aBI_0 : decode b_A_copyOf_aBI 0 = .ok (.iload_n 1, 1) := by decide +kernel
theorem d_A_copyOf_aBI_1 : decode b_A_copyOf_aBI 1 = .ok (.aload_n 0, 1) := by decide +kernel
theorem d_A_copyOf_aBI_2 : decode b_A_copyOf_aBI 2 = .ok (.arraylength, 1) := by decide +kernel
theorem d_A_copyOf_aBI_3 : decode b_A_copyOf_aBI 3 = .ok (.if_icmp .ne 11, 3) := by decide +kernel
theorem d_A_copyOf_aBI_6 : decode b_A_copyOf_aBI 6 = .ok (.aload_n 0, 1) := by decide +kernel
theorem d_A_copyOf_aBI_7 : decode b_A_copyOf_aBI 7 = .ok (.invokevirtual 310, 3) := by decide +kernel
theorem d_A_copyOf_aBI_10 : decode b_A_copyOf_aBI 10 = .ok (.checkcast 311, 3) := by decide +kernel
theorem d_A_copyOf_aBI_13 : decode b_A_copyOf_aBI 13 = .ok (.areturn, 1) := by decide +kernel
theorem d_A_copyOf_aBI_14 : decode b_A_copyOf_aBI 14 = .ok (.iload_n 1, 1) := by decide +kernel
theorem d_A_copyOf_aBI_15 : decode b_A_copyOf_aBI 15 = .ok (.newarray .byte, 2) := by decide +kernel
theorem d_A_copyOf_aBI_17 : decode b_A_copyOf_aBI 17 = .ok (.astore_n 2, 1) := by decide +kernel
theorem d_A_copyOf_aBI_18 : decode b_A_copyOf_aBI 18 = .ok (.aload_n 0, 1) := by decide +kernel
theorem d_A_copyOf_aBI_19 : decode b_A_copyOf_aBI 19 = .ok (.iconst 0, 1) := by decide +kernel
theorem d_A_copyOf_aBI_20 : decode b_A_copyOf_aBI 20 = .ok (.aload_n 2, 1) := by decide +kernel
theorem d_A_copyOf_aBI_21 : decode b_A_copyOf_aBI 21 = .ok (.iconst 0, 1) := by decide +kernel
theorem d_A_copyOf_aBI_22 : decode b_A_copyOf_aBI 22 = .ok (.aload_n 0, 1) := by decide +kernel
theorem d_A_copyOf_aBI_23 : decode b_A_copyOf_aBI 23 = .ok (.arraylength, 1) := by decide +kernel
theorem d_A_copyOf_aBI_24 : decode b_A_copyOf_aBI 24 = .ok (.iload_n 1, 1) := by decide +kernel
theorem d_A_copyOf_aBI_25 : decode b_A_copyOf_aBI 25 = .ok (.invokestatic 304, 3) := by decide +kernel
theorem d_A_copyOf_aBI_28 : decode b_A_copyOf_aBI 28 = .ok (.invokestatic 150, 3) := by decide +kernel
theorem d_A_copyOf_aBI_31 : decode b_A_copyOf_aBI 31 = .ok (.aload_n 2, 1) := by decide +kernel
theorem d_A_copyOf_aBI_32 : decode b_A_copyOf_aBI 32 = .ok (.areturn, 1) := by decide +kernel
theorem d_A_copyOf_aII_0 : decode b_A_copyOf_aII 0 = .ok (.iload_n 1, 1) := by decide +kernel
theorem d_A_copyOf_aII_1 : decode b_A_copyOf_aII 1 = .ok (.aload_n 0, 1) := by decide +kernel
theorem d_A_copyOf_aII_2 : decode b_A_copyOf_aII 2 = .ok (.arraylength, 1) := by decide +kernel
theorem d_A_copyOf_aII_3 : decode b_A_copyOf_aII 3 = .ok (.if_icmp .ne 11, 3) := by decide +kernel
theorem d_A_copyOf_aII_6 : decode b_A_copyOf_aII 6 = .ok (.aload_n 0, 1) := by decide +kernel
theorem d_A_copyOf_aII_7 : decode b_A_copyOf_aII 7 = .ok (.invokevirtual 316, 3) := by decide +kernel
theorem d_A_copyOf_aII_10 : decode b_A_copyOf_aII 10 = .ok (.checkcast 317, 3) := by decide +kernel
theorem d_A_copyOf_aII_13 : decode b_A_copyOf_aII 13 = .ok (.areturn, 1) := by decide +kernel
theorem d_A_copyOf_aII_14 : decode b_A_copyOf_aII 14 = .ok (.iload_n 1, 1) := by decide +kernel
theorem d_A_copyOf_aII_15 : decode b_A_copyOf_aII 15 = .ok (.newarray .int, 2) := by decide +kernel
theorem d_A_copyOf_aII_17 : decode b_A_copyOf_aII 17 = .ok (.astore_n 2, 1) := by decide +kernel
theorem d_A_copyOf_aII_18 : decode b_A_copyOf_aII 18 = .ok (.aload_n 0, 1) := by decide +kernel
theorem d_A_copyOf_aII_19 : decode b_A_copyOf_aII 19 = .ok (.iconst 0, 1) := by decide +kernel
theorem d_A_copyOf_aII_20 : decode b_A_copyOf_aII 20 = .ok (.aload_n 2, 1) := by decide +kernel
theorem d_A_copyOf_aII_21 : decode b_A_copyOf_aII 21 = .ok (.iconst 0, 1) := by decide +kernel
theorem d_A_copyOf_aII_22 : decode b_A_copyOf_aII 22 = .ok (.aload_n 0, 1) := by decide +kernel
theorem d_A_copyOf_aII_23 : decode b_A_copyOf_aII 23 = .ok (.arraylength, 1) := by decide +kernel
theorem d_A_copyOf_aII_24 : decode b_A_copyOf_aII 24 = .ok (.iload_n 1, 1) := by decide +kernel
theorem d_A_copyOf_aII_25 : decode b_A_copyOf_aII 25 = .ok (.invokestatic 304, 3) := by decide +kernel
theorem d_A_copyOf_aII_28 : decode b_A_copyOf_aII 28 = .ok (.invokestatic 150, 3) := by decide +kernel
theorem d_A_copyOf_aII_31 : decode b_A_copyOf_aII 31 = .ok (.aload_n 2, 1) := by decide +kernel
theorem d_A_copyOf_aII_32 : decode b_A_copyOf_aII 32 = .ok (.areturn, 1) := by decide +kernel
theorem d_A_fill_0 : decode b_A_fill 0 = .ok (.iconst 0, 1) := by decide +kernel
theorem d_A_fill_1 : decode b_A_fill 1 = .ok (.istore_n 2, 1) := by decide +kernel
theorem d_A_fill_2 : decode b_A_fill 2 = .ok (.aload_n 0, 1) := by decide +kernel
theorem d_A_fill_3 : decode b_A_fill 3 = .ok (.arraylength, 1) := by decide +kernel
theorem d_A_fill_4 : decode b_A_fill 4 = .ok (.istore_n 3, 1) := by decide +kernel
theorem d_A_fill_5 : decode b_A_fill 5 = .ok (.iload_n 2, 1) := by decide +kernel
theorem d_A_fill_6 : decode b_A_fill 6 = .ok (.iload_n 3, 1) := by decide +kernel
theorem d_A_fill_7 : decode b_A_fill 7 = .ok (.if_icmp .ge 13, 3) := by decide +kernel
theorem d_A_fill_10 : decode b_A_fill 10 = .ok (.aload_n 0, 1) := by decide +kernel
theorem d_A_fill_11 : decode b_A_fill 11 = .ok (.iload_n 2, 1) := by decide +kernel
theorem d_A_fill_12 : decode b_A_fill 12 = .ok (.iload_n 1, 1) := by decide +kernel
theorem d_A_fill_13 : decode b_A_fill 13 = .ok (.iastore, 1) := by decide +kernel
theorem d_A_fill_14 : decode b_A_fill 14 = .ok (.iinc 2 1, 3) := by decide +kernel
theorem d_A_fill_17 : decode b_A_fill 17 = .ok (.goto (-12), 3) := by decide +kernel
theorem d_A_fill_20 : decode b_A_fill 20 = .ok (.return_, 1) := by decide +kernel
theorem d_B_add_0 : decode b_B_add 0 = .ok (.aload_n 0, 1) := by decide +kernel
theorem d_B_add_1 : decode b_B_add 1 = .ok (.getfield 15, 3) := by decide +kernel
theorem d_B_add_4 : decode b_B_add 4 = .ok (.aload_n 0, 1) := by decide +kernel
theorem d_B_add_5 : decode b_B_add 5 = .ok (.getfield 9, 3) := by decide +kernel
theorem d_B_add_8 : decode b_B_add 8 = .ok (.arraylength, 1) := by decide +kernel
theorem d_B_add_9 : decode b_B_add 9 = .ok (.if_icmp .lt 21, 3) := by decide +kernel
theorem d_B_add_12 : decode b_B_add 12 = .ok (.aload_n 0, 1) := by decide +kernel
theorem d_B_add_13 : decode b_B_add 13 = .ok (.aload_n 0, 1) := by decide +kernel
theorem d_B_add_14 : decode b_B_add 14 = .ok (.getfield 9, 3) := by decide +kernel
theorem d_B_add_17 : decode b_B_add 17 = .ok (.iconst 2, 1) := by decide +kernel
theorem d_B_add_18 : decode b_B_add 18 = .ok (.aload_n 0, 1) := by decide +kernel
theorem d_B_add_19 : decode b_B_add 19 = .ok (.getfield 9, 3) := by decide +kernel
theorem d_B_add_22 : decode b_B_add 22 = .ok (.arraylength, 1) := by decide +kernel
theorem d_B_add_23 : decode b_B_add 23 = .ok (.imul, 1) := by decide +kernel
theorem d_B_add_24 : decode b_B_add 24 = .ok (.invokestatic 23, 3) := by decide +kernel
theorem d_B_add_27 : decode b_B_add 27 = .ok (.putfield 9, 3) := by decide +kernel
theorem d_B_add_30 : decode b_B_add 30 = .ok (.aload_n 0, 1) := by decide +kernel
theorem d_B_add_31 : decode b_B_add 31 = .ok (.getfield 9, 3) := by decide +kernel
theorem d_B_add_34 : decode b_B_add 34 = .ok (.aload_n 0, 1) := by decide +kernel
theorem d_B_add_35 : decode b_B_add 35 = .ok (.getfield 15, 3) := by decide +kernel
theorem d_B_add_38 : decode b_B_add 38 = .ok (.iload_n 1, 1) := by decide +kernel
theorem d_B_add_39 : decode b_B_add 39 = .ok (.i2b, 1) := by decide +kernel
theorem d_B_add_40 : decode b_B_add 40 = .ok (.bastore, 1) := by decide +kernel
theorem d_B_add_41 : decode b_B_add 41 = .ok (.aload_n 0, 1) := by decide +kernel
theorem d_B_add_42 : decode b_B_add 42 = .ok (.dup, 1) := by decide +kernel
theorem d_B_add_43 : decode b_B_add 43 = .ok (.getfield 15, 3) := by decide +kernel
theorem d_B_add_46 : decode b_B_add 46 = .ok (.iconst 1, 1) := by decide +kernel
theorem d_B_add_47 : decode b_B_add 47 = .ok (.iadd, 1) := by decide +kernel
theorem d_B_add_48 : decode b_B_add 48 = .ok (.putfield 15, 3) := by decide +kernel
theorem d_B_add_51 : decode b_B_add 51 = .ok (.return_, 1) := by decide +kernel
theorem d_B_addPair_0 : decode b_B_addPair 0 = .ok (.aload_n 0, 1) := by decide +kernel
theorem d_B_addPair_1 : decode b_B_addPair 1 = .ok (.iload_n 1, 1) := by decide +kernel
theorem d_B_addPair_2 : decode b_B_addPair 2 = .ok (.bipush 8, 2) := by decide +kernel
theorem d_B_addPair_4 : decode b_B_addPair 4 = .ok (.iushr, 1) := by decide +kernel
theorem d_B_addPair_5 : decode b_B_addPair 5 = .ok (.invokevirtual 29, 3) := by decide +kernel
theorem d_B_addPair_8 : decode b_B_addPair 8 = .ok (.aload_n 0, 1) := by decide +kernel
theorem d_B_addPair_9 : decode b_B_addPair 9 = .ok (.iload_n 1, 1) := by decide +kernel
theorem d_B_addPair_10 : decode b_B_addPair 10 = .ok (.invokevirtual 29, 3) := by decide +kernel
theorem d_B_addPair_13 : decode b_B_addPair 13 = .ok (.return_, 1) := by decide +kernel
theorem d_B_addWord_0 : decode b_B_addWord 0 = .ok (.aload_n 0, 1) := by decide +kernel
theorem d_B_addWord_1 : decode b_B_addWord 1 = .ok (.iload_n 1, 1) := by decide +kernel
theorem d_B_addWord_2 : decode b_B_addWord 2 = .ok (.bipush 16, 2) := by decide +kernel
theorem d_B_addWord_4 : decode b_B_addWord 4 = .ok (.iushr, 1) := by decide +kernel
theorem d_B_addWord_5 : decode b_B_addWord 5 = .ok (.invokevirtual 33, 3) := by decide +kernel
theorem d_B_addWord_8 : decode b_B_addWord 8 = .ok (.aload_n 0, 1) := by decide +kernel
theorem d_B_addWord_9 : decode b_B_addWord 9 = .ok (.iload_n 1, 1) := by decide +kernel
theorem d_B_addWord_10 : decode b_B_addWord 10 = .ok (.invokevirtual 33, 3) := by decide +kernel
theorem d_B_addWord_13 : decode b_B_addWord 13 = .ok (.return_, 1) := by decide +kernel
theorem d_B_at_0 : decode b_B_at 0 = .ok (.iload_n 1, 1) := by decide +kernel
theorem d_B_at_1 : decode b_B_at 1 = .ok (.ifCond .lt 24, 3) := by decide +kernel
theorem d_B_at_4 : decode b_B_at 4 = .ok (.iload_n 1, 1) := by decide +kernel
theorem d_B_at_5 : decode b_B_at 5 = .ok (.aload_n 0, 1) := by decide +kernel
theorem d_B_at_6 : decode b_B_at 6 = .ok (.getfield 15, 3) := by decide +kernel
theorem d_B_at_9 : decode b_B_at 9 = .ok (.if_icmp .ge 16, 3) := by decide +kernel
theorem d_B_at_12 : decode b_B_at 12 = .ok (.aload_n 0, 1) := by decide +kernel
theorem d_B_at_13 : decode b_B_at 13 = .ok (.getfield 9, 3) := by decide +kernel
theorem d_B_at_16 : decode b_B_at 16 = .ok (.iload_n 1, 1) := by decide +kernel
theorem d_B_at_17 : decode b_B_at 17 = .ok (.baload, 1) := by decide +kernel
theorem d_B_at_18 : decode b_B_at 18 = .ok (.sipush 255, 3) := by decide +kernel
theorem d_B_at_21 : decode b_B_at 21 = .ok (.iand, 1) := by decide +kernel
theorem d_B_at_22 : decode b_B_at 22 = .ok (.goto 4, 3) := by decide +kernel
theorem d_B_at_25 : decode b_B_at 25 = .ok (.iconst (-1), 1) := by decide +kernel
theorem d_B_at_26 : decode b_B_at 26 = .ok (.ireturn, 1) := by decide +kernel
theorem d_B_init_0 : decode b_B_init 0 = .ok (.aload_n 0, 1) := by decide +kernel
theorem d_B_init_1 : decode b_B_init 1 = .ok (.invokespecial 3, 3) := by decide +kernel
theorem d_B_init_4 : decode b_B_init 4 = .ok (.aload_n 0, 1) := by decide +kernel
theorem d_B_init_5 : decode b_B_init 5 = .ok (.sipush 256, 3) := by decide +kernel
theorem d_B_init_8 : decode b_B_init 8 = .ok (.newarray .byte, 2) := by decide +kernel
theorem d_B_init_10 : decode b_B_init 10 = .ok (.putfield 9, 3) := by decide +kernel
theorem d_B_init_13 : decode b_B_init 13 = .ok (.return_, 1) := by decide +kernel
theorem d_B_pairAt_0 : decode b_B_pairAt 0 = .ok (.aload_n 0, 1) := by decide +kernel
theorem d_B_pairAt_1 : decode b_B_pairAt 1 = .ok (.iload_n 1, 1) := by decide +kernel
theorem d_B_pairAt_2 : decode b_B_pairAt 2 = .ok (.invokevirtual 19, 3) := by decide +kernel
theorem d_B_pairAt_5 : decode b_B_pairAt 5 = .ok (.bipush 8, 2) := by decide +kernel
theorem d_B_pairAt_7 : decode b_B_pairAt 7 = .ok (.ishl, 1) := by decide +kernel
theorem d_B_pairAt_8 : decode b_B_pairAt 8 = .ok (.aload_n 0, 1) := by decide +kernel
theorem d_B_pairAt_9 : decode b_B_pairAt 9 = .ok (.iload_n 1, 1) := by decide +kernel
theorem d_B_pairAt_10 : decode b_B_pairAt 10 = .ok (.iconst 1, 1) := by decide +kernel
theorem d_B_pairAt_11 : decode b_B_pairAt 11 = .ok (.iadd, 1) := by decide +kernel
theorem d_B_pairAt_12 : decode b_B_pairAt 12 = .ok (.invokevirtual 19, 3) := by decide +kernel
theorem d_B_pairAt_15 : decode b_B_pairAt 15 = .ok (.ior, 1) := by decide +kernel
theorem d_B_pairAt_16 : decode b_B_pairAt 16 = .ok (.ireturn, 1) := by decide +kernel
theorem d_B_reaches_0 : decode b_B_reaches 0 = .ok (.iload_n 1, 1) := by decide +kernel
theorem d_B_reaches_1 : decode b_B_reaches 1 = .ok (.iload_n 2, 1) := by decide +kernel
theorem d_B_reaches_2 : decode b_B_reaches 2 = .ok (.iadd, 1) := by decide +kernel
theorem d_B_reaches_3 : decode b_B_reaches 3 = .ok (.aload_n 0, 1) := by decide +kernel
theorem d_B_reaches_4 : decode b_B_reaches 4 = .ok (.getfield 15, 3) := by decide +kernel
theorem d_B_reaches_7 : decode b_B_reaches 7 = .ok (.if_icmp .gt 7, 3) := by decide +kernel
theorem d_B_reaches_10 : decode b_B_reaches 10 = .ok (.iconst 1, 1) := by decide +kernel
theorem d_B_reaches_11 : decode b_B_reaches 11 = .ok (.goto 4, 3) := by decide +kernel
theorem d_B_reaches_14 : decode b_B_reaches 14 = .ok (.iconst 0, 1) := by decide +kernel
theorem d_B_reaches_15 : decode b_B_reaches 15 = .ok (.ireturn, 1) := by decide +kernel
theorem d_B_wordAt_0 : decode b_B_wordAt 0 = .ok (.aload_n 0, 1) := by decide +kernel
theorem d_B_wordAt_1 : decode b_B_wordAt 1 = .ok (.iload_n 1, 1) := by decide +kernel
theorem d_B_wordAt_2 : decode b_B_wordAt 2 = .ok (.invokevirtual 19, 3) := by decide +kernel
theorem d_B_wordAt_5 : decode b_B_wordAt 5 = .ok (.bipush 24, 2) := by decide +kernel
theorem d_B_wordAt_7 : decode b_B_wordAt 7 = .ok (.ishl, 1) := by decide +kernel
theorem d_B_wordAt_8 : decode b_B_wordAt 8 = .ok (.aload_n 0, 1) := by decide +kernel
theorem d_B_wordAt_9 : decode b_B_wordAt 9 = .ok (.iload_n 1, 1) := by decide +kernel
theorem d_B_wordAt_10 : decode b_B_wordAt 10 = .ok (.iconst 1, 1) := by decide +kernel
theorem d_B_wordAt_11 : decode b_B_wordAt 11 = .ok (.iadd, 1) := by decide +kernel
theorem d_B_wordAt_12 : decode b_B_wordAt 12 = .ok (.invokevirtual 19, 3) := by decide +kernel
theorem d_B_wordAt_15 : decode b_B_wordAt 15 = .ok (.bipush 16, 2) := by decide +kernel
theorem d_B_wordAt_17 : decode b_B_wordAt 17 = .ok (.ishl, 1) := by decide +kernel
theorem d_B_wordAt_18 : decode b_B_wordAt 18 = .ok (.ior, 1) := by decide +kernel
theorem d_B_wordAt_19 : decode b_B_wordAt 19 = .ok (.aload_n 0, 1) := by decide +kernel
theorem d_B_wordAt_20 : decode b_B_wordAt 20 = .ok (.iload_n 1, 1) := by decide +kernel
theorem d_B_wordAt_21 : decode b_B_wordAt 21 = .ok (.iconst 2, 1) := by decide +kernel
theorem d_B_wordAt_22 : decode b_B_wordAt 22 = .ok (.iadd, 1) := by decide +kernel
theorem d_B_wordAt_23 : decode b_B_wordAt 23 = .ok (.invokevirtual 19, 3) := by decide +kernel
theorem d_B_wordAt_26 : decode b_B_wordAt 26 = .ok (.bipush 8, 2) := by decide +kernel
theorem d_B_wordAt_28 : decode b_B_wordAt 28 = .ok (.ishl, 1) := by decide +kernel
theorem d_B_wordAt_29 : decode b_B_wordAt 29 = .ok (.ior, 1) := by decide +kernel
theorem d_B_wordAt_30 : decode b_B_wordAt 30 = .ok (.aload_n 0, 1) := by decide +kernel
theorem d_B_wordAt_31 : decode b_B_wordAt 31 = .ok (.iload_n 1, 1) := by decide +kernel
theorem d_B_wordAt_32 : decode b_B_wordAt 32 = .ok (.iconst 3, 1) := by decide +kernel
theorem d_B_wordAt_33 : decode b_B_wordAt 33 = .ok (.iadd, 1) := by decide +kernel
theorem d_B_wordAt_34 : decode b_B_wordAt 34 = .ok (.invokevirtual 19, 3) := by decide +kernel
theorem d_B_wordAt_37 : decode b_B_wordAt 37 = .ok (.ior, 1) := by decide +kernel
theorem d_B_wordAt_38 : decode b_B_wordAt 38 = .ok (.ireturn, 1) := by decide +kernel
theorem d_F_areLinksFit_0 : decode b_F_areLinksFit 0 = .ok (.aload_n 0, 1) := by decide +kernel
theorem d_F_areLinksFit_1 : decode b_F_areLinksFit 1 = .ok (.iload_n 1, 1) := by decide +kernel
theorem d_F_areLinksFit_2 : decode b_F_areLinksFit 2 = .ok (.iconst 0, 1) := by decide +kernel
theorem d_F_areLinksFit_3 : decode b_F_areLinksFit 3 = .ok (.invokevirtual 79, 3) := by decide +kernel
theorem d_F_areLinksFit_6 : decode b_F_areLinksFit 6 = .ok (.istore_n 2, 1) := by decide +kernel
theorem d_F_areLinksFit_7 : decode b_F_areLinksFit 7 = .ok (.iload_n 2, 1) := by decide +kernel
theorem d_F_areLinksFit_8 : decode b_F_areLinksFit 8 = .ok (.ifCond .eq 15, 3) := by decide +kernel
theorem d_F_areLinksFit_11 : decode b_F_areLinksFit 11 = .ok (.aload_n 0, 1) := by decide +kernel
theorem d_F_areLinksFit_12 : decode b_F_areLinksFit 12 = .ok (.aload_n 0, 1) := by decide +kernel
theorem d_F_areLinksFit_13 : decode b_F_areLinksFit 13 = .ok (.iload_n 2, 1) := by decide +kernel
theorem d_F_areLinksFit_14 : decode b_F_areLinksFit 14 = .ok (.invokevirtual 34, 3) := by decide +kernel
theorem d_F_areLinksFit_17 : decode b_F_areLinksFit 17 = .ok (.invokevirtual 111, 3) := by decide +kernel
theorem d_F_areLinksFit_20 : decode b_F_areLinksFit 20 = .ok (.ifCond .eq 19, 3) := by decide +kernel
theorem d_F_areLinksFit_23 : decode b_F_areLinksFit 23 = .ok (.aload_n 0, 1) := by decide +kernel
theorem d_F_areLinksFit_24 : decode b_F_areLinksFit 24 = .ok (.iload_n 1, 1) := by decide +kernel
theorem d_F_areLinksFit_25 : decode b_F_areLinksFit 25 = .ok (.iconst 1, 1) := by decide +kernel
theorem d_F_areLinksFit_26 : decode b_F_areLinksFit 26 = .ok (.invokevirtual 79, 3) := by decide +kernel
theorem d_F_areLinksFit_29 : decode b_F_areLinksFit 29 = .ok (.invokestatic 108, 3) := by decide +kernel
theorem d_F_areLinksFit_32 : decode b_F_areLinksFit 32 = .ok (.ifCond .eq 7, 3) := by decide +kernel
theorem d_F_areLinksFit_35 : decode b_F_areLinksFit 35 = .ok (.iconst 1, 1) := by decide +kernel
theorem d_F_areLinksFit_36 : decode b_F_areLinksFit 36 = .ok (.goto 4, 3) := by decide +kernel
theorem d_F_areLinksFit_39 : decode b_F_areLinksFit 39 = .ok (.iconst 0, 1) := by decide +kernel
theorem d_F_areLinksFit_40 : decode b_F_areLinksFit 40 = .ok (.ireturn, 1) := by decide +kernel
theorem d_F_areListsFit_0 : decode b_F_areListsFit 0 = .ok (.aload_n 0, 1) := by decide +kernel
theorem d_F_areListsFit_1 : decode b_F_areListsFit 1 = .ok (.iload_n 1, 1) := by decide +kernel
theorem d_F_areListsFit_2 : decode b_F_areListsFit 2 = .ok (.bipush 8, 2) := by decide +kernel
theorem d_F_areListsFit_4 : decode b_F_areListsFit 4 = .ok (.invokestatic 47, 3) := by decide +kernel
theorem d_F_areListsFit_7 : decode b_F_areListsFit 7 = .ok (.ifCond .ne 5, 3) := by decide +kernel
theorem d_F_areListsFit_10 : decode b_F_areListsFit 10 = .ok (.iconst 0, 1) := by decide +kernel
theorem d_F_areListsFit_11 : decode b_F_areListsFit 11 = .ok (.ireturn, 1) := by decide +kernel
theorem d_F_areListsFit_12 : decode b_F_areListsFit 12 = .ok (.iconst 0, 1) := by decide +kernel
theorem d_F_areListsFit_13 : decode b_F_areListsFit 13 = .ok (.istore_n 2, 1) := by decide +kernel
theorem d_F_areListsFit_14 : decode b_F_areListsFit 14 = .ok (.iload_n 2, 1) := by decide +kernel
theorem d_F_areListsFit_15 : decode b_F_areListsFit 15 = .ok (.bipush 8, 2) := by decide +kernel
theorem d_F_areListsFit_17 : decode b_F_areListsFit 17 = .ok (.if_icmp .ge 29, 3) := by decide +kernel
theorem d_F_areListsFit_20 : decode b_F_areListsFit 20 = .ok (.aload_n 0, 1) := by decide +kernel
theorem d_F_areListsFit_21 : decode b_F_areListsFit 21 = .ok (.aload_n 0, 1) := by decide +kernel
theorem d_F_areListsFit_22 : decode b_F_areListsFit 22 = .ok (.aload_n 0, 1) := by decide +kernel
theorem d_F_areListsFit_23 : decode b_F_areListsFit 23 = .ok (.iload_n 1, 1) := by decide +kernel
theorem d_F_areListsFit_24 : decode b_F_areListsFit 24 = .ok (.iload_n 2, 1) := by decide +kernel
theorem d_F_areListsFit_25 : decode b_F_areListsFit 25 = .ok (.invokevirtual 79, 3) := by decide +kernel
theorem d_F_areListsFit_28 : decode b_F_areListsFit 28 = .ok (.invokevirtual 34, 3) := by decide +kernel
theorem d_F_areListsFit_31 : decode b_F_areListsFit 31 = .ok (.iconst 2, 1) := by decide +kernel
theorem d_F_areListsFit_32 : decode b_F_areListsFit 32 = .ok (.invokestatic 47, 3) := by decide +kernel
theorem d_F_areListsFit_35 : decode b_F_areListsFit 35 = .ok (.ifCond .ne 5, 3) := by decide +kernel
theorem d_F_areListsFit_38 : decode b_F_areListsFit 38 = .ok (.iconst 0, 1) := by decide +kernel
theorem d_F_areListsFit_39 : decode b_F_areListsFit 39 = .ok (.ireturn, 1) := by decide +kernel
theorem d_F_areListsFit_40 : decode b_F_areListsFit 40 = .ok (.iinc 2 1, 3) := by decide +kernel
theorem d_F_areListsFit_43 : decode b_F_areListsFit 43 = .ok (.goto (-29), 3) := by decide +kernel
theorem d_F_areListsFit_46 : decode b_F_areListsFit 46 = .ok (.iconst 1, 1) := by decide +kernel
theorem d_F_areListsFit_47 : decode b_F_areListsFit 47 = .ok (.ireturn, 1) := by decide +kernel
theorem d_F_argumentsOf_0 : decode b_F_argumentsOf 0 = .ok (.iload_n 0, 1) := by decide +kernel
theorem d_F_argumentsOf_1 : decode b_F_argumentsOf 1 = .ok (.bipush 15, 2) := by decide +kernel
theorem d_F_argumentsOf_3 : decode b_F_argumentsOf 3 = .ok (.iand, 1) := by decide +kernel
theorem d_F_argumentsOf_4 : decode b_F_argumentsOf 4 = .ok (.ireturn, 1) := by decide +kernel
theorem d_F_depthOf_0 : decode b_F_depthOf 0 = .ok (.iload_n 0, 1) := by decide +kernel
theorem d_F_depthOf_1 : decode b_F_depthOf 1 = .ok (.bipush 9, 2) := by decide +kernel
theorem d_F_depthOf_3 : decode b_F_depthOf 3 = .ok (.ishr, 1) := by decide +kernel
theorem d_F_depthOf_4 : decode b_F_depthOf 4 = .ok (.bipush 63, 2) := by decide +kernel
theorem d_F_depthOf_6 : decode b_F_depthOf 6 = .ok (.iand, 1) := by decide +kernel
theorem d_F_depthOf_7 : decode b_F_depthOf 7 = .ok (.ireturn, 1) := by decide +kernel
theorem d_F_hasFitClass_0 : decode b_F_hasFitClass 0 = .ok (.aload_n 0, 1) := by decide +kernel
theorem d_F_hasFitClass_1 : decode b_F_hasFitClass 1 = .ok (.aload_n 0, 1) := by decide +kernel
theorem d_F_hasFitClass_2 : decode b_F_hasFitClass 2 = .ok (.iload_n 1, 1) := by decide +kernel
theorem d_F_hasFitClass_3 : decode b_F_hasFitClass 3 = .ok (.invokevirtual 76, 3) := by decide +kernel
theorem d_F_hasFitClass_6 : decode b_F_hasFitClass 6 = .ok (.invokevirtual 34, 3) := by decide +kernel
theorem d_F_hasFitClass_9 : decode b_F_hasFitClass 9 = .ok (.istore_n 2, 1) := by decide +kernel
theorem d_F_hasFitClass_10 : decode b_F_hasFitClass 10 = .ok (.aload_n 0, 1) := by decide +kernel
theorem d_F_hasFitClass_11 : decode b_F_hasFitClass 11 = .ok (.iload_n 2, 1) := by decide +kernel
theorem d_F_hasFitClass_12 : decode b_F_hasFitClass 12 = .ok (.invokestatic 41, 3) := by decide +kernel
theorem d_F_hasFitClass_15 : decode b_F_hasFitClass 15 = .ok (.ifCond .ne 5, 3) := by decide +kernel
theorem d_F_hasFitClass_18 : decode b_F_hasFitClass 18 = .ok (.iconst 0, 1) := by decide +kernel
theorem d_F_hasFitClass_19 : decode b_F_hasFitClass 19 = .ok (.ireturn, 1) := by decide +kernel
theorem d_F_hasFitClass_20 : decode b_F_hasFitClass 20 = .ok (.aload_n 0, 1) := by decide +kernel
theorem d_F_hasFitClass_21 : decode b_F_hasFitClass 21 = .ok (.iload_n 2, 1) := by decide +kernel
theorem d_F_hasFitClass_22 : decode b_F_hasFitClass 22 = .ok (.iconst 2, 1) := by decide +kernel
theorem d_F_hasFitClass_23 : decode b_F_hasFitClass 23 = .ok (.invokevirtual 79, 3) := by decide +kernel
theorem d_F_hasFitClass_26 : decode b_F_hasFitClass 26 = .ok (.invokestatic 82, 3) := by decide +kernel
theorem d_F_hasFitClass_29 : decode b_F_hasFitClass 29 = .ok (.istore_n 3, 1) := by decide +kernel
theorem d_F_hasFitClass_30 : decode b_F_hasFitClass 30 = .ok (.iload_n 3, 1) := by decide +kernel
theorem d_F_hasFitClass_31 : decode b_F_hasFitClass 31 = .ok (.sipush 2048, 3) := by decide +kernel
theorem d_F_hasFitClass_34 : decode b_F_hasFitClass 34 = .ok (.iand, 1) := by decide +kernel
theorem d_F_hasFitClass_35 : decode b_F_hasFitClass 35 = .ok (.ifCond .eq 7, 3) := by decide +kernel
theorem d_F_hasFitClass_38 : decode b_F_hasFitClass 38 = .ok (.iconst 1, 1) := by decide +kernel
theorem d_F_hasFitClass_39 : decode b_F_hasFitClass 39 = .ok (.goto 4, 3) := by decide +kernel
theorem d_F_hasFitClass_42 : decode b_F_hasFitClass 42 = .ok (.iconst 0, 1) := by decide +kernel
theorem d_F_hasFitClass_43 : decode b_F_hasFitClass 43 = .ok (.istore 4, 2) := by decide +kernel
theorem d_F_hasFitClass_45 : decode b_F_hasFitClass 45 = .ok (.iload 4, 2) := by decide +kernel
theorem d_F_hasFitClass_47 : decode b_F_hasFitClass 47 = .ok (.ifCond .ne 11, 3) := by decide +kernel
theorem d_F_hasFitClass_50 : decode b_F_hasFitClass 50 = .ok (.aload_n 0, 1) := by decide +kernel
theorem d_F_hasFitClass_51 : decode b_F_hasFitClass 51 = .ok (.iload_n 1, 1) := by decide +kernel
theorem d_F_hasFitClass_52 : decode b_F_hasFitClass 52 = .ok (.invokevirtual 85, 3) := by decide +kernel
theorem d_F_hasFitClass_55 : decode b_F_hasFitClass 55 = .ok (.ifCond .eq 22, 3) := by decide +kernel
theorem d_F_hasFitClass_58 : decode b_F_hasFitClass 58 = .ok (.iload 4, 2) := by decide +kernel
theorem d_F_hasFitClass_60 : decode b_F_hasFitClass 60 = .ok (.ifCond .eq 15, 3) := by decide +kernel
theorem d_F_hasFitClass_63 : decode b_F_hasFitClass 63 = .ok (.aload_n 0, 1) := by decide +kernel
theorem d_F_hasFitClass_64 : decode b_F_hasFitClass 64 = .ok (.iload_n 1, 1) := by decide +kernel
theorem d_F_hasFitClass_65 : decode b_F_hasFitClass 65 = .ok (.invokevirtual 85, 3) := by decide +kernel
theorem d_F_hasFitClass_68 : decode b_F_hasFitClass 68 = .ok (.ifCond .eq 7, 3) := by decide +kernel
theorem d_F_hasFitClass_71 : decode b_F_hasFitClass 71 = .ok (.iconst 1, 1) := by decide +kernel
theorem d_F_hasFitClass_72 : decode b_F_hasFitClass 72 = .ok (.goto 4, 3) := by decide +kernel
theorem d_F_hasFitClass_75 : decode b_F_hasFitClass 75 = .ok (.iconst 0, 1) := by decide +kernel
theorem d_F_hasFitClass_76 : decode b_F_hasFitClass 76 = .ok (.ireturn, 1) := by decide +kernel
theorem d_F_hasFitClass_77 : decode b_F_hasFitClass 77 = .ok (.iload_n 3, 1) := by decide +kernel
theorem d_F_hasFitClass_78 : decode b_F_hasFitClass 78 = .ok (.sipush 255, 3) := by decide +kernel
theorem d_F_hasFitClass_81 : decode b_F_hasFitClass 81 = .ok (.iand, 1) := by decide +kernel
theorem d_F_hasFitClass_82 : decode b_F_hasFitClass 82 = .ok (.istore 5, 2) := by decide +kernel
theorem d_F_hasFitClass_84 : decode b_F_hasFitClass 84 = .ok (.aload_n 0, 1) := by decide +kernel
theorem d_F_hasFitClass_85 : decode b_F_hasFitClass 85 = .ok (.iload_n 1, 1) := by decide +kernel
theorem d_F_hasFitClass_86 : decode b_F_hasFitClass 86 = .ok (.invokevirtual 44, 3) := by decide +kernel
theorem d_F_hasFitClass_89 : decode b_F_hasFitClass 89 = .ok (.istore 6, 2) := by decide +kernel
theorem d_F_hasFitClass_91 : decode b_F_hasFitClass 91 = .ok (.iload 6, 2) := by decide +kernel
theorem d_F_hasFitClass_93 : decode b_F_hasFitClass 93 = .ok (.iload 5, 2) := by decide +kernel
theorem d_F_hasFitClass_95 : decode b_F_hasFitClass 95 = .ok (.if_icmp .eq 18, 3) := by decide +kernel
theorem d_F_hasFitClass_98 : decode b_F_hasFitClass 98 = .ok (.iload 6, 2) := by decide +kernel
theorem d_F_hasFitClass_100 : decode b_F_hasFitClass 100 = .ok (.iload 5, 2) := by decide +kernel
theorem d_F_hasFitClass_102 : decode b_F_hasFitClass 102 = .ok (.if_icmp .le 15, 3) := by decide +kernel
theorem d_F_hasFitClass_105 : decode b_F_hasFitClass 105 = .ok (.iload_n 3, 1) := by decide +kernel
theorem d_F_hasFitClass_106 : decode b_F_hasFitClass 106 = .ok (.sipush 1024, 3) := by decide +kernel
theorem d_F_hasFitClass_109 : decode b_F_hasFitClass 109 = .ok (.iand, 1) := by decide +kernel
theorem d_F_hasFitClass_110 : decode b_F_hasFitClass 110 = .ok (.ifCond .eq 7, 3) := by decide +kernel
theorem d_F_hasFitClass_113 : decode b_F_hasFitClass 113 = .ok (.iconst 1, 1) := by decide +kernel
theorem d_F_hasFitClass_114 : decode b_F_hasFitClass 114 = .ok (.goto 4, 3) := by decide +kernel
theorem d_F_hasFitClass_117 : decode b_F_hasFitClass 117 = .ok (.iconst 0, 1) := by decide +kernel
theorem d_F_hasFitClass_118 : decode b_F_hasFitClass 118 = .ok (.ireturn, 1) := by decide +kernel
theorem d_F_isBlockContext_0 : decode b_F_isBlockContext 0 = .ok (.aload_n 0, 1) := by decide +kernel
theorem d_F_isBlockContext_1 : decode b_F_isBlockContext 1 = .ok (.aload_n 0, 1) := by decide +kernel
theorem d_F_isBlockContext_2 : decode b_F_isBlockContext 2 = .ok (.iload_n 1, 1) := by decide +kernel
theorem d_F_isBlockContext_3 : decode b_F_isBlockContext 3 = .ok (.iconst 5, 1) := by decide +kernel
theorem d_F_isBlockContext_4 : decode b_F_isBlockContext 4 = .ok (.invokevirtual 79, 3) := by decide +kernel
theorem d_F_isBlockContext_7 : decode b_F_isBlockContext 7 = .ok (.invokevirtual 34, 3) := by decide +kernel
theorem d_F_isBlockContext_10 : decode b_F_isBlockContext 10 = .ok (.istore_n 2, 1) := by decide +kernel
theorem d_F_isBlockContext_11 : decode b_F_isBlockContext 11 = .ok (.aload_n 0, 1) := by decide +kernel
theorem d_F_isBlockContext_12 : decode b_F_isBlockContext 12 = .ok (.aload_n 0, 1) := by decide +kernel
theorem d_F_isBlockContext_13 : decode b_F_isBlockContext 13 = .ok (.iload_n 2, 1) := by decide +kernel
theorem d_F_isBlockContext_14 : decode b_F_isBlockContext 14 = .ok (.iconst 3, 1) := by decide +kernel
theorem d_F_isBlockContext_15 : decode b_F_isBlockContext 15 = .ok (.invokevirtual 79, 3) := by decide +kernel
theorem d_F_isBlockContext_18 : decode b_F_isBlockContext 18 = .ok (.invokevirtual 34, 3) := by decide +kernel
theorem d_F_isBlockContext_21 : decode b_F_isBlockContext 21 = .ok (.istore_n 3, 1) := by decide +kernel
theorem d_F_isBlockContext_22 : decode b_F_isBlockContext 22 = .ok (.aload_n 0, 1) := by decide +kernel
theorem d_F_isBlockContext_23 : decode b_F_isBlockContext 23 = .ok (.iload_n 2, 1) := by decide +kernel
theorem d_F_isBlockContext_24 : decode b_F_isBlockContext 24 = .ok (.bipush 7, 2) := by decide +kernel
theorem d_F_isBlockContext_26 : decode b_F_isBlockContext 26 = .ok (.invokevirtual 53, 3) := by decide +kernel
theorem d_F_isBlockContext_29 : decode b_F_isBlockContext 29 = .ok (.ifCond .eq 20, 3) := by decide +kernel
theorem d_F_isBlockContext_32 : decode b_F_isBlockContext 32 = .ok (.aload_n 0, 1) := by decide +kernel
theorem d_F_isBlockContext_33 : decode b_F_isBlockContext 33 = .ok (.iload_n 2, 1) := by decide +kernel
theorem d_F_isBlockContext_34 : decode b_F_isBlockContext 34 = .ok (.invokevirtual 44, 3) := by decide +kernel
theorem d_F_isBlockContext_37 : decode b_F_isBlockContext 37 = .ok (.iconst 5, 1) := by decide +kernel
theorem d_F_isBlockContext_38 : decode b_F_isBlockContext 38 = .ok (.if_icmp .lt 11, 3) := by decide +kernel
theorem d_F_isBlockContext_41 : decode b_F_isBlockContext 41 = .ok (.aload_n 0, 1) := by decide +kernel
theorem d_F_isBlockContext_42 : decode b_F_isBlockContext 42 = .ok (.iload_n 3, 1) := by decide +kernel
theorem d_F_isBlockContext_43 : decode b_F_isBlockContext 43 = .ok (.invokestatic 89, 3) := by decide +kernel
theorem d_F_isBlockContext_46 : decode b_F_isBlockContext 46 = .ok (.ifCond .ne 5, 3) := by decide +kernel
theorem d_F_isBlockContext_49 : decode b_F_isBlockContext 49 = .ok (.iconst 0, 1) := by decide +kernel
theorem d_F_isBlockContext_50 : decode b_F_isBlockContext 50 = .ok (.ireturn, 1) := by decide +kernel
theorem d_F_isBlockContext_51 : decode b_F_isBlockContext 51 = .ok (.aload_n 0, 1) := by decide +kernel
theorem d_F_isBlockContext_52 : decode b_F_isBlockContext 52 = .ok (.iload_n 3, 1) := by decide +kernel
theorem d_F_isBlockContext_53 : decode b_F_isBlockContext 53 = .ok (.iconst 0, 1) := by decide +kernel
theorem d_F_isBlockContext_54 : decode b_F_isBlockContext 54 = .ok (.invokevirtual 79, 3) := by decide +kernel
theorem d_F_isBlockContext_57 : decode b_F_isBlockContext 57 = .ok (.invokestatic 82, 3) := by decide +kernel
theorem d_F_isBlockContext_60 : decode b_F_isBlockContext 60 = .ok (.invokestatic 95, 3) := by decide +kernel
theorem d_F_isBlockContext_63 : decode b_F_isBlockContext 63 = .ok (.istore 4, 2) := by decide +kernel
theorem d_F_isBlockContext_65 : decode b_F_isBlockContext 65 = .ok (.aload_n 0, 1) := by decide +kernel
theorem d_F_isBlockContext_66 : decode b_F_isBlockContext 66 = .ok (.iload_n 1, 1) := by decide +kernel
theorem d_F_isBlockContext_67 : decode b_F_isBlockContext 67 = .ok (.iconst 2, 1) := by decide +kernel
theorem d_F_isBlockContext_68 : decode b_F_isBlockContext 68 = .ok (.invokevirtual 79, 3) := by decide +kernel
theorem d_F_isBlockContext_71 : decode b_F_isBlockContext 71 = .ok (.istore 5, 2) := by decide +kernel
theorem d_F_isBlockContext_73 : decode b_F_isBlockContext 73 = .ok (.aload_n 0, 1) := by decide +kernel
theorem d_F_isBlockContext_74 : decode b_F_isBlockContext 74 = .ok (.iload_n 1, 1) := by decide +kernel
theorem d_F_isBlockContext_75 : decode b_F_isBlockContext 75 = .ok (.invokevirtual 44, 3) := by decide +kernel
theorem d_F_isBlockContext_78 : decode b_F_isBlockContext 78 = .ok (.bipush 6, 2) := by decide +kernel
theorem d_F_isBlockContext_80 : decode b_F_isBlockContext 80 = .ok (.iload 4, 2) := by decide +kernel
theorem d_F_isBlockContext_82 : decode b_F_isBlockContext 82 = .ok (.iadd, 1) := by decide +kernel
theorem d_F_isBlockContext_83 : decode b_F_isBlockContext 83 = .ok (.if_icmp .ne 69, 3) := by decide +kernel
theorem d_F_isBlockContext_86 : decode b_F_isBlockContext 86 = .ok (.aload_n 0, 1) := by decide +kernel
theorem d_F_isBlockContext_87 : decode b_F_isBlockContext 87 = .ok (.iload_n 1, 1) := by decide +kernel
theorem d_F_isBlockContext_88 : decode b_F_isBlockContext 88 = .ok (.invokestatic 98, 3) := by decide +kernel
theorem d_F_isBlockContext_91 : decode b_F_isBlockContext 91 = .ok (.ifCond .eq 61, 3) := by decide +kernel
theorem d_F_isBlockContext_94 : decode b_F_isBlockContext 94 = .ok (.iload 5, 2) := by decide +kernel
theorem d_F_isBlockContext_96 : decode b_F_isBlockContext 96 = .ok (.iconst 0, 1) := by decide +kernel
theorem d_F_isBlockContext_97 : decode b_F_isBlockContext 97 = .ok (.iload 4, 2) := by decide +kernel
theorem d_F_isBlockContext_99 : decode b_F_isBlockContext 99 = .ok (.invokestatic 101, 3) := by decide +kernel
theorem d_F_isBlockContext_102 : decode b_F_isBlockContext 102 = .ok (.ifCond .eq 50, 3) := by decide +kernel
theorem d_F_isBlockContext_105 : decode b_F_isBlockContext 105 = .ok (.aload_n 0, 1) := by decide +kernel
theorem d_F_isBlockContext_106 : decode b_F_isBlockContext 106 = .ok (.iload_n 1, 1) := by decide +kernel
theorem d_F_isBlockContext_107 : decode b_F_isBlockContext 107 = .ok (.iconst 3, 1) := by decide +kernel
theorem d_F_isBlockContext_108 : decode b_F_isBlockContext 108 = .ok (.invokevirtual 79, 3) := by decide +kernel
theorem d_F_isBlockContext_111 : decode b_F_isBlockContext 111 = .ok (.iconst 0, 1) := by decide +kernel
theorem d_F_isBlockContext_112 : decode b_F_isBlockContext 112 = .ok (.bipush 15, 2) := by decide +kernel
theorem d_F_isBlockContext_114 : decode b_F_isBlockContext 114 = .ok (.invokestatic 101, 3) := by decide +kernel
theorem d_F_isBlockContext_117 : decode b_F_isBlockContext 117 = .ok (.ifCond .eq 35, 3) := by decide +kernel
theorem d_F_isBlockContext_120 : decode b_F_isBlockContext 120 = .ok (.aload_n 0, 1) := by decide +kernel
theorem d_F_isBlockContext_121 : decode b_F_isBlockContext 121 = .ok (.iload_n 1, 1) := by decide +kernel
theorem d_F_isBlockContext_122 : decode b_F_isBlockContext 122 = .ok (.iconst 4, 1) := by decide +kernel
theorem d_F_isBlockContext_123 : decode b_F_isBlockContext 123 = .ok (.invokevirtual 79, 3) := by decide +kernel
theorem d_F_isBlockContext_126 : decode b_F_isBlockContext 126 = .ok (.invokestatic 108, 3) := by decide +kernel
theorem d_F_isBlockContext_129 : decode b_F_isBlockContext 129 = .ok (.ifCond .eq 23, 3) := by decide +kernel
theorem d_F_isBlockContext_132 : decode b_F_isBlockContext 132 = .ok (.aload_n 0, 1) := by decide +kernel
theorem d_F_isBlockContext_133 : decode b_F_isBlockContext 133 = .ok (.iload_n 1, 1) := by decide +kernel
theorem d_F_isBlockContext_134 : decode b_F_isBlockContext 134 = .ok (.bipush 6, 2) := by decide +kernel
theorem d_F_isBlockContext_136 : decode b_F_isBlockContext 136 = .ok (.iload 5, 2) := by decide +kernel
theorem d_F_isBlockContext_138 : decode b_F_isBlockContext 138 = .ok (.invokestatic 82, 3) := by decide +kernel
theorem d_F_isBlockContext_141 : decode b_F_isBlockContext 141 = .ok (.iadd, 1) := by decide +kernel
theorem d_F_isBlockContext_142 : decode b_F_isBlockContext 142 = .ok (.invokestatic 105, 3) := by decide +kernel
theorem d_F_isBlockContext_145 : decode b_F_isBlockContext 145 = .ok (.ifCond .eq 7, 3) := by decide +kernel
theorem d_F_isBlockContext_148 : decode b_F_isBlockContext 148 = .ok (.iconst 1, 1) := by decide +kernel
theorem d_F_isBlockContext_149 : decode b_F_isBlockContext 149 = .ok (.goto 4, 3) := by decide +kernel
theorem d_F_isBlockContext_152 : decode b_F_isBlockContext 152 = .ok (.iconst 0, 1) := by decide +kernel
theorem d_F_isBlockContext_153 : decode b_F_isBlockContext 153 = .ok (.ireturn, 1) := by decide +kernel
theorem d_F_isClass_0 : decode b_F_isClass 0 = .ok (.aload_n 0, 1) := by decide +kernel
theorem d_F_isClass_1 : decode b_F_isClass 1 = .ok (.iload_n 1, 1) := by decide +kernel
theorem d_F_isClass_2 : decode b_F_isClass 2 = .ok (.iconst 2, 1) := by decide +kernel
theorem d_F_isClass_3 : decode b_F_isClass 3 = .ok (.invokevirtual 79, 3) := by decide +kernel
theorem d_F_isClass_6 : decode b_F_isClass 6 = .ok (.istore_n 2, 1) := by decide +kernel
theorem d_F_isClass_7 : decode b_F_isClass 7 = .ok (.aload_n 0, 1) := by decide +kernel
theorem d_F_isClass_8 : decode b_F_isClass 8 = .ok (.iload_n 1, 1) := by decide +kernel
theorem d_F_isClass_9 : decode b_F_isClass 9 = .ok (.invokevirtual 44, 3) := by decide +kernel
theorem d_F_isClass_12 : decode b_F_isClass 12 = .ok (.iconst 3, 1) := by decide +kernel
theorem d_F_isClass_13 : decode b_F_isClass 13 = .ok (.if_icmp .lt 10, 3) := by decide +kernel
theorem d_F_isClass_16 : decode b_F_isClass 16 = .ok (.iload_n 2, 1) := by decide +kernel
theorem d_F_isClass_17 : decode b_F_isClass 17 = .ok (.invokestatic 115, 3) := by decide +kernel
theorem d_F_isClass_20 : decode b_F_isClass 20 = .ok (.ifCond .ne 5, 3) := by decide +kernel
theorem d_F_isClass_23 : decode b_F_isClass 23 = .ok (.iconst 0, 1) := by decide +kernel
theorem d_F_isClass_24 : decode b_F_isClass 24 = .ok (.ireturn, 1) := by decide +kernel
theorem d_F_isClass_25 : decode b_F_isClass 25 = .ok (.iload_n 2, 1) := by decide +kernel
theorem d_F_isClass_26 : decode b_F_isClass 26 = .ok (.invokestatic 82, 3) := by decide +kernel
theorem d_F_isClass_29 : decode b_F_isClass 29 = .ok (.istore_n 3, 1) := by decide +kernel
theorem d_F_isClass_30 : decode b_F_isClass 30 = .ok (.iload_n 3, 1) := by decide +kernel
theorem d_F_isClass_31 : decode b_F_isClass 31 = .ok (.sipush 2048, 3) := by decide +kernel
theorem d_F_isClass_34 : decode b_F_isClass 34 = .ok (.iand, 1) := by decide +kernel
theorem d_F_isClass_35 : decode b_F_isClass 35 = .ok (.ifCond .eq 16, 3) := by decide +kernel
theorem d_F_isClass_38 : decode b_F_isClass 38 = .ok (.iload_n 3, 1) := by decide +kernel
theorem d_F_isClass_39 : decode b_F_isClass 39 = .ok (.sipush 3072, 3) := by decide +kernel
theorem d_F_isClass_42 : decode b_F_isClass 42 = .ok (.if_icmp .ne 7, 3) := by decide +kernel
theorem d_F_isClass_45 : decode b_F_isClass 45 = .ok (.iconst 1, 1) := by decide +kernel
theorem d_F_isClass_46 : decode b_F_isClass 46 = .ok (.goto 4, 3) := by decide +kernel
theorem d_F_isClass_49 : decode b_F_isClass 49 = .ok (.iconst 0, 1) := by decide +kernel
theorem d_F_isClass_50 : decode b_F_isClass 50 = .ok (.ireturn, 1) := by decide +kernel
theorem d_F_isClass_51 : decode b_F_isClass 51 = .ok (.iload_n 3, 1) := by decide +kernel
theorem d_F_isClass_52 : decode b_F_isClass 52 = .ok (.sipush (-1280), 3) := by decide +kernel
theorem d_F_isClass_55 : decode b_F_isClass 55 = .ok (.iand, 1) := by decide +kernel
theorem d_F_isClass_56 : decode b_F_isClass 56 = .ok (.ifCond .ne 7, 3) := by decide +kernel
theorem d_F_isClass_59 : decode b_F_isClass 59 = .ok (.iconst 1, 1) := by decide +kernel
theorem d_F_isClass_60 : decode b_F_isClass 60 = .ok (.goto 4, 3) := by decide +kernel
theorem d_F_isClass_63 : decode b_F_isClass 63 = .ok (.iconst 0, 1) := by decide +kernel
theorem d_F_isClass_64 : decode b_F_isClass 64 = .ok (.ireturn, 1) := by decide +kernel
theorem d_F_isMethod_0 : decode b_F_isMethod 0 = .ok (.aload_n 0, 1) := by decide +kernel
theorem d_F_isMethod_1 : decode b_F_isMethod 1 = .ok (.iload_n 1, 1) := by decide +kernel
theorem d_F_isMethod_2 : decode b_F_isMethod 2 = .ok (.iconst 0, 1) := by decide +kernel
theorem d_F_isMethod_3 : decode b_F_isMethod 3 = .ok (.invokevirtual 79, 3) := by decide +kernel
theorem d_F_isMethod_6 : decode b_F_isMethod 6 = .ok (.istore_n 2, 1) := by decide +kernel
theorem d_F_isMethod_7 : decode b_F_isMethod 7 = .ok (.aload_n 0, 1) := by decide +kernel
theorem d_F_isMethod_8 : decode b_F_isMethod 8 = .ok (.iload_n 1, 1) := by decide +kernel
theorem d_F_isMethod_9 : decode b_F_isMethod 9 = .ok (.invokevirtual 44, 3) := by decide +kernel
theorem d_F_isMethod_12 : decode b_F_isMethod 12 = .ok (.iconst 2, 1) := by decide +kernel
theorem d_F_isMethod_13 : decode b_F_isMethod 13 = .ok (.if_icmp .lt 51, 3) := by decide +kernel
theorem d_F_isMethod_16 : decode b_F_isMethod 16 = .ok (.iload_n 2, 1) := by decide +kernel
theorem d_F_isMethod_17 : decode b_F_isMethod 17 = .ok (.iconst 0, 1) := by decide +kernel
theorem d_F_isMethod_18 : decode b_F_isMethod 18 = .ok (.ldc 118, 2) := by decide +kernel
theorem d_F_isMethod_20 : decode b_F_isMethod 20 = .ok (.invokestatic 101, 3) := by decide +kernel
theorem d_F_isMethod_23 : decode b_F_isMethod 23 = .ok (.ifCond .eq 41, 3) := by decide +kernel
theorem d_F_isMethod_26 : decode b_F_isMethod 26 = .ok (.iload_n 2, 1) := by decide +kernel
theorem d_F_isMethod_27 : decode b_F_isMethod 27 = .ok (.invokestatic 82, 3) := by decide +kernel
theorem d_F_isMethod_30 : decode b_F_isMethod 30 = .ok (.invokestatic 92, 3) := by decide +kernel
theorem d_F_isMethod_33 : decode b_F_isMethod 33 = .ok (.iload_n 2, 1) := by decide +kernel
theorem d_F_isMethod_34 : decode b_F_isMethod 34 = .ok (.invokestatic 82, 3) := by decide +kernel
theorem d_F_isMethod_37 : decode b_F_isMethod 37 = .ok (.invokestatic 119, 3) := by decide +kernel
theorem d_F_isMethod_40 : decode b_F_isMethod 40 = .ok (.if_icmp .lt 24, 3) := by decide +kernel
theorem d_F_isMethod_43 : decode b_F_isMethod 43 = .ok (.aload_n 0, 1) := by decide +kernel
theorem d_F_isMethod_44 : decode b_F_isMethod 44 = .ok (.aload_n 0, 1) := by decide +kernel
theorem d_F_isMethod_45 : decode b_F_isMethod 45 = .ok (.aload_n 0, 1) := by decide +kernel
theorem d_F_isMethod_46 : decode b_F_isMethod 46 = .ok (.iload_n 1, 1) := by decide +kernel
theorem d_F_isMethod_47 : decode b_F_isMethod 47 = .ok (.iconst 1, 1) := by decide +kernel
theorem d_F_isMethod_48 : decode b_F_isMethod 48 = .ok (.invokevirtual 79, 3) := by decide +kernel
theorem d_F_isMethod_51 : decode b_F_isMethod 51 = .ok (.invokevirtual 34, 3) := by decide +kernel
theorem d_F_isMethod_54 : decode b_F_isMethod 54 = .ok (.invokevirtual 85, 3) := by decide +kernel
theorem d_F_isMethod_57 : decode b_F_isMethod 57 = .ok (.ifCond .eq 7, 3) := by decide +kernel
theorem d_F_isMethod_60 : decode b_F_isMethod 60 = .ok (.iconst 1, 1) := by decide +kernel
theorem d_F_isMethod_61 : decode b_F_isMethod 61 = .ok (.goto 4, 3) := by decide +kernel
theorem d_F_isMethod_64 : decode b_F_isMethod 64 = .ok (.iconst 0, 1) := by decide +kernel
theorem d_F_isMethod_65 : decode b_F_isMethod 65 = .ok (.ireturn, 1) := by decide +kernel
theorem d_F_isMethodContext_0 : decode b_F_isMethodContext 0 = .ok (.aload_n 0, 1) := by decide +kernel
theorem d_F_isMethodContext_1 : decode b_F_isMethodContext 1 = .ok (.aload_n 0, 1) := by decide +kernel
theorem d_F_isMethodContext_2 : decode b_F_isMethodContext 2 = .ok (.iload_n 1, 1) := by decide +kernel
theorem d_F_isMethodContext_3 : decode b_F_isMethodContext 3 = .ok (.iconst 3, 1) := by decide +kernel
theorem d_F_isMethodContext_4 : decode b_F_isMethodContext 4 = .ok (.invokevirtual 79, 3) := by decide +kernel
theorem d_F_isMethodContext_7 : decode b_F_isMethodContext 7 = .ok (.invokevirtual 34, 3) := by decide +kernel
theorem d_F_isMethodContext_10 : decode b_F_isMethodContext 10 = .ok (.istore_n 2, 1) := by decide +kernel
theorem d_F_isMethodContext_11 : decode b_F_isMethodContext 11 = .ok (.aload_n 0, 1) := by decide +kernel
theorem d_F_isMethodContext_12 : decode b_F_isMethodContext 12 = .ok (.iload_n 2, 1) := by decide +kernel
theorem d_F_isMethodContext_13 : decode b_F_isMethodContext 13 = .ok (.invokestatic 89, 3) := by decide +kernel
theorem d_F_isMethodContext_16 : decode b_F_isMethodContext 16 = .ok (.ifCond .ne 5, 3) := by decide +kernel
theorem d_F_isMethodContext_19 : decode b_F_isMethodContext 19 = .ok (.iconst 0, 1) := by decide +kernel
theorem d_F_isMethodContext_20 : decode b_F_isMethodContext 20 = .ok (.ireturn, 1) := by decide +kernel
theorem d_F_isMethodContext_21 : decode b_F_isMethodContext 21 = .ok (.aload_n 0, 1) := by decide +kernel
theorem d_F_isMethodContext_22 : decode b_F_isMethodContext 22 = .ok (.iload_n 2, 1) := by decide +kernel
theorem d_F_isMethodContext_23 : decode b_F_isMethodContext 23 = .ok (.iconst 0, 1) := by decide +kernel
theorem d_F_isMethodContext_24 : decode b_F_isMethodContext 24 = .ok (.invokevirtual 79, 3) := by decide +kernel
theorem d_F_isMethodContext_27 : decode b_F_isMethodContext 27 = .ok (.invokestatic 82, 3) := by decide +kernel
theorem d_F_isMethodContext_30 : decode b_F_isMethodContext 30 = .ok (.istore_n 3, 1) := by decide +kernel
theorem d_F_isMethodContext_31 : decode b_F_isMethodContext 31 = .ok (.iload_n 3, 1) := by decide +kernel
theorem d_F_isMethodContext_32 : decode b_F_isMethodContext 32 = .ok (.invokestatic 92, 3) := by decide +kernel
theorem d_F_isMethodContext_35 : decode b_F_isMethodContext 35 = .ok (.istore 4, 2) := by decide +kernel
theorem d_F_isMethodContext_37 : decode b_F_isMethodContext 37 = .ok (.iload 4, 2) := by decide +kernel
theorem d_F_isMethodContext_39 : decode b_F_isMethodContext 39 = .ok (.iload_n 3, 1) := by decide +kernel
theorem d_F_isMethodContext_40 : decode b_F_isMethodContext 40 = .ok (.invokestatic 95, 3) := by decide +kernel
theorem d_F_isMethodContext_43 : decode b_F_isMethodContext 43 = .ok (.iadd, 1) := by decide +kernel
theorem d_F_isMethodContext_44 : decode b_F_isMethodContext 44 = .ok (.istore 5, 2) := by decide +kernel
theorem d_F_isMethodContext_46 : decode b_F_isMethodContext 46 = .ok (.aload_n 0, 1) := by decide +kernel
theorem d_F_isMethodContext_47 : decode b_F_isMethodContext 47 = .ok (.iload_n 1, 1) := by decide +kernel
theorem d_F_isMethodContext_48 : decode b_F_isMethodContext 48 = .ok (.iconst 2, 1) := by decide +kernel
theorem d_F_isMethodContext_49 : decode b_F_isMethodContext 49 = .ok (.invokevirtual 79, 3) := by decide +kernel
theorem d_F_isMethodContext_52 : decode b_F_isMethodContext 52 = .ok (.istore 6, 2) := by decide +kernel
theorem d_F_isMethodContext_54 : decode b_F_isMethodContext 54 = .ok (.aload_n 0, 1) := by decide +kernel
theorem d_F_isMethodContext_55 : decode b_F_isMethodContext 55 = .ok (.iload_n 1, 1) := by decide +kernel
theorem d_F_isMethodContext_56 : decode b_F_isMethodContext 56 = .ok (.invokevirtual 44, 3) := by decide +kernel
theorem d_F_isMethodContext_59 : decode b_F_isMethodContext 59 = .ok (.iconst 5, 1) := by decide +kernel
theorem d_F_isMethodContext_60 : decode b_F_isMethodContext 60 = .ok (.iload 5, 2) := by decide +kernel
theorem d_F_isMethodContext_62 : decode b_F_isMethodContext 62 = .ok (.iadd, 1) := by decide +kernel
theorem d_F_isMethodContext_63 : decode b_F_isMethodContext 63 = .ok (.if_icmp .ne 42, 3) := by decide +kernel
theorem d_F_isMethodContext_66 : decode b_F_isMethodContext 66 = .ok (.aload_n 0, 1) := by decide +kernel
theorem d_F_isMethodContext_67 : decode b_F_isMethodContext 67 = .ok (.iload_n 1, 1) := by decide +kernel
theorem d_F_isMethodContext_68 : decode b_F_isMethodContext 68 = .ok (.invokestatic 98, 3) := by decide +kernel
theorem d_F_isMethodContext_71 : decode b_F_isMethodContext 71 = .ok (.ifCond .eq 34, 3) := by decide +kernel
theorem d_F_isMethodContext_74 : decode b_F_isMethodContext 74 = .ok (.iload 6, 2) := by decide +kernel
theorem d_F_isMethodContext_76 : decode b_F_isMethodContext 76 = .ok (.iload 4, 2) := by decide +kernel
theorem d_F_isMethodContext_78 : decode b_F_isMethodContext 78 = .ok (.iload 5, 2) := by decide +kernel
theorem d_F_isMethodContext_80 : decode b_F_isMethodContext 80 = .ok (.invokestatic 101, 3) := by decide +kernel
theorem d_F_isMethodContext_83 : decode b_F_isMethodContext 83 = .ok (.ifCond .eq 22, 3) := by decide +kernel
theorem d_F_isMethodContext_86 : decode b_F_isMethodContext 86 = .ok (.aload_n 0, 1) := by decide +kernel
theorem d_F_isMethodContext_87 : decode b_F_isMethodContext 87 = .ok (.iload_n 1, 1) := by decide +kernel
theorem d_F_isMethodContext_88 : decode b_F_isMethodContext 88 = .ok (.iconst 5, 1) := by decide +kernel
theorem d_F_isMethodContext_89 : decode b_F_isMethodContext 89 = .ok (.iload 6, 2) := by decide +kernel
theorem d_F_isMethodContext_91 : decode b_F_isMethodContext 91 = .ok (.invokestatic 82, 3) := by decide +kernel
theorem d_F_isMethodContext_94 : decode b_F_isMethodContext 94 = .ok (.iadd, 1) := by decide +kernel
theorem d_F_isMethodContext_95 : decode b_F_isMethodContext 95 = .ok (.invokestatic 105, 3) := by decide +kernel
theorem d_F_isMethodContext_98 : decode b_F_isMethodContext 98 = .ok (.ifCond .eq 7, 3) := by decide +kernel
theorem d_F_isMethodContext_101 : decode b_F_isMethodContext 101 = .ok (.iconst 1, 1) := by decide +kernel
theorem d_F_isMethodContext_102 : decode b_F_isMethodContext 102 = .ok (.goto 4, 3) := by decide +kernel
theorem d_F_isMethodContext_105 : decode b_F_isMethodContext 105 = .ok (.iconst 0, 1) := by decide +kernel
theorem d_F_isMethodContext_106 : decode b_F_isMethodContext 106 = .ok (.ireturn, 1) := by decide +kernel
theorem d_F_isNewSince_0 : decode b_F_isNewSince 0 = .ok (.iload_n 1, 1) := by decide +kernel
theorem d_F_isNewSince_1 : decode b_F_isNewSince 1 = .ok (.istore_n 3, 1) := by decide +kernel
theorem d_F_isNewSince_2 : decode b_F_isNewSince 2 = .ok (.iload_n 3, 1) := by decide +kernel
theorem d_F_isNewSince_3 : decode b_F_isNewSince 3 = .ok (.iload_n 2, 1) := by decide +kernel
theorem d_F_isNewSince_4 : decode b_F_isNewSince 4 = .ok (.if_icmp .ge 24, 3) := by decide +kernel
theorem d_F_isNewSince_7 : decode b_F_isNewSince 7 = .ok (.aload_n 0, 1) := by decide +kernel
theorem d_F_isNewSince_8 : decode b_F_isNewSince 8 = .ok (.iload_n 3, 1) := by decide +kernel
theorem d_F_isNewSince_9 : decode b_F_isNewSince 9 = .ok (.invokevirtual 30, 3) := by decide +kernel
theorem d_F_isNewSince_12 : decode b_F_isNewSince 12 = .ok (.aload_n 0, 1) := by decide +kernel
theorem d_F_isNewSince_13 : decode b_F_isNewSince 13 = .ok (.iload_n 2, 1) := by decide +kernel
theorem d_F_isNewSince_14 : decode b_F_isNewSince 14 = .ok (.invokevirtual 30, 3) := by decide +kernel
theorem d_F_isNewSince_17 : decode b_F_isNewSince 17 = .ok (.if_icmp .ne 5, 3) := by decide +kernel
theorem d_F_isNewSince_20 : decode b_F_isNewSince 20 = .ok (.iconst 0, 1) := by decide +kernel
theorem d_F_isNewSince_21 : decode b_F_isNewSince 21 = .ok (.ireturn, 1) := by decide +kernel
theorem d_F_isNewSince_22 : decode b_F_isNewSince 22 = .ok (.iinc 3 1, 3) := by decide +kernel
theorem d_F_isNewSince_25 : decode b_F_isNewSince 25 = .ok (.goto (-23), 3) := by decide +kernel
theorem d_F_isNewSince_28 : decode b_F_isNewSince 28 = .ok (.iconst 1, 1) := by decide +kernel
theorem d_F_isNewSince_29 : decode b_F_isNewSince 29 = .ok (.ireturn, 1) := by decide +kernel
theorem d_F_isNilFrom_0 : decode b_F_isNilFrom 0 = .ok (.aload_n 0, 1) := by decide +kernel
theorem d_F_isNilFrom_1 : decode b_F_isNilFrom 1 = .ok (.iload_n 1, 1) := by decide +kernel
theorem d_F_isNilFrom_2 : decode b_F_isNilFrom 2 = .ok (.invokevirtual 44, 3) := by decide +kernel
theorem d_F_isNilFrom_5 : decode b_F_isNilFrom 5 = .ok (.istore_n 3, 1) := by decide +kernel
theorem d_F_isNilFrom_6 : decode b_F_isNilFrom 6 = .ok (.iload_n 2, 1) := by decide +kernel
theorem d_F_isNilFrom_7 : decode b_F_isNilFrom 7 = .ok (.istore 4, 2) := by decide +kernel
theorem d_F_isNilFrom_9 : decode b_F_isNilFrom 9 = .ok (.iload 4, 2) := by decide +kernel
theorem d_F_isNilFrom_11 : decode b_F_isNilFrom 11 = .ok (.iload_n 3, 1) := by decide +kernel
theorem d_F_isNilFrom_12 : decode b_F_isNilFrom 12 = .ok (.if_icmp .ge 21, 3) := by decide +kernel
theorem d_F_isNilFrom_15 : decode b_F_isNilFrom 15 = .ok (.aload_n 0, 1) := by decide +kernel
theorem d_F_isNilFrom_16 : decode b_F_isNilFrom 16 = .ok (.iload_n 1, 1) := by decide +kernel
theorem d_F_isNilFrom_17 : decode b_F_isNilFrom 17 = .ok (.iload 4, 2) := by decide +kernel
theorem d_F_isNilFrom_19 : decode b_F_isNilFrom 19 = .ok (.invokevirtual 79, 3) := by decide +kernel
theorem d_F_isNilFrom_22 : decode b_F_isNilFrom 22 = .ok (.ifCond .eq 5, 3) := by decide +kernel
theorem d_F_isNilFrom_25 : decode b_F_isNilFrom 25 = .ok (.iconst 0, 1) := by decide +kernel
theorem d_F_isNilFrom_26 : decode b_F_isNilFrom 26 = .ok (.ireturn, 1) := by decide +kernel
theorem d_F_isNilFrom_27 : decode b_F_isNilFrom 27 = .ok (.iinc 4 1, 3) := by decide +kernel
theorem d_F_isNilFrom_30 : decode b_F_isNilFrom 30 = .ok (.goto (-21), 3) := by decide +kernel
theorem d_F_isNilFrom_33 : decode b_F_isNilFrom 33 = .ok (.iconst 1, 1) := by decide +kernel
theorem d_F_isNilFrom_34 : decode b_F_isNilFrom 34 = .ok (.ireturn, 1) := by decide +kernel
theorem d_F_isNilOrCounting_0 : decode b_F_isNilOrCounting 0 = .ok (.iload_n 0, 1) := by decide +kernel
theorem d_F_isNilOrCounting_1 : decode b_F_isNilOrCounting 1 = .ok (.ifCond .eq 13, 3) := by decide +kernel
theorem d_F_isNilOrCounting_4 : decode b_F_isNilOrCounting 4 = .ok (.iload_n 0, 1) := by decide +kernel
theorem d_F_isNilOrCounting_5 : decode b_F_isNilOrCounting 5 = .ok (.iconst 0, 1) := by decide +kernel
theorem d_F_isNilOrCounting_6 : decode b_F_isNilOrCounting 6 = .ok (.ldc 114, 2) := by decide +kernel
theorem d_F_isNilOrCounting_8 : decode b_F_isNilOrCounting 8 = .ok (.invokestatic 101, 3) := by decide +kernel
theorem d_F_isNilOrCounting_11 : decode b_F_isNilOrCounting 11 = .ok (.ifCond .eq 7, 3) := by decide +kernel
theorem d_F_isNilOrCounting_14 : decode b_F_isNilOrCounting 14 = .ok (.iconst 1, 1) := by decide +kernel
theorem d_F_isNilOrCounting_15 : decode b_F_isNilOrCounting 15 = .ok (.goto 4, 3) := by decide +kernel
theorem d_F_isNilOrCounting_18 : decode b_F_isNilOrCounting 18 = .ok (.iconst 0, 1) := by decide +kernel
theorem d_F_isNilOrCounting_19 : decode b_F_isNilOrCounting 19 = .ok (.ireturn, 1) := by decide +kernel
theorem d_F_isPlain_0 : decode b_F_isPlain 0 = .ok (.aload_n 0, 1) := by decide +kernel
theorem d_F_isPlain_1 : decode b_F_isPlain 1 = .ok (.iload_n 1, 1) := by decide +kernel
theorem d_F_isPlain_2 : decode b_F_isPlain 2 = .ok (.invokevirtual 44, 3) := by decide +kernel
theorem d_F_isPlain_5 : decode b_F_isPlain 5 = .ok (.iload_n 2, 1) := by decide +kernel
theorem d_F_isPlain_6 : decode b_F_isPlain 6 = .ok (.if_icmp .lt 15, 3) := by decide +kernel
theorem d_F_isPlain_9 : decode b_F_isPlain 9 = .ok (.aload_n 0, 1) := by decide +kernel
theorem d_F_isPlain_10 : decode b_F_isPlain 10 = .ok (.iload_n 1, 1) := by decide +kernel
theorem d_F_isPlain_11 : decode b_F_isPlain 11 = .ok (.invokevirtual 111, 3) := by decide +kernel
theorem d_F_isPlain_14 : decode b_F_isPlain 14 = .ok (.ifCond .ne 7, 3) := by decide +kernel
theorem d_F_isPlain_17 : decode b_F_isPlain 17 = .ok (.iconst 1, 1) := by decide +kernel
theorem d_F_isPlain_18 : decode b_F_isPlain 18 = .ok (.goto 4, 3) := by decide +kernel
theorem d_F_isPlain_21 : decode b_F_isPlain 21 = .ok (.iconst 0, 1) := by decide +kernel
theorem d_F_isPlain_22 : decode b_F_isPlain 22 = .ok (.ireturn, 1) := by decide +kernel
theorem d_F_isProcessFit_0 : decode b_F_isProcessFit 0 = .ok (.aload_n 0, 1) := by decide +kernel
theorem d_F_isProcessFit_1 : decode b_F_isProcessFit 1 = .ok (.aload_n 0, 1) := by decide +kernel
theorem d_F_isProcessFit_2 : decode b_F_isProcessFit 2 = .ok (.iload_n 1, 1) := by decide +kernel
theorem d_F_isProcessFit_3 : decode b_F_isProcessFit 3 = .ok (.iconst 1, 1) := by decide +kernel
theorem d_F_isProcessFit_4 : decode b_F_isProcessFit 4 = .ok (.invokevirtual 79, 3) := by decide +kernel
theorem d_F_isProcessFit_7 : decode b_F_isProcessFit 7 = .ok (.invokevirtual 34, 3) := by decide +kernel
theorem d_F_isProcessFit_10 : decode b_F_isProcessFit 10 = .ok (.istore_n 2, 1) := by decide +kernel
theorem d_F_isProcessFit_11 : decode b_F_isProcessFit 11 = .ok (.aload_n 0, 1) := by decide +kernel
theorem d_F_isProcessFit_12 : decode b_F_isProcessFit 12 = .ok (.iload_n 1, 1) := by decide +kernel
theorem d_F_isProcessFit_13 : decode b_F_isProcessFit 13 = .ok (.iconst 4, 1) := by decide +kernel
theorem d_F_isProcessFit_14 : decode b_F_isProcessFit 14 = .ok (.invokestatic 47, 3) := by decide +kernel
theorem d_F_isProcessFit_17 : decode b_F_isProcessFit 17 = .ok (.ifCond .eq 39, 3) := by decide +kernel
theorem d_F_isProcessFit_20 : decode b_F_isProcessFit 20 = .ok (.aload_n 0, 1) := by decide +kernel
theorem d_F_isProcessFit_21 : decode b_F_isProcessFit 21 = .ok (.iload_n 2, 1) := by decide +kernel
theorem d_F_isProcessFit_22 : decode b_F_isProcessFit 22 = .ok (.invokevirtual 111, 3) := by decide +kernel
theorem d_F_isProcessFit_25 : decode b_F_isProcessFit 25 = .ok (.ifCond .eq 31, 3) := by decide +kernel
theorem d_F_isProcessFit_28 : decode b_F_isProcessFit 28 = .ok (.aload_n 0, 1) := by decide +kernel
theorem d_F_isProcessFit_29 : decode b_F_isProcessFit 29 = .ok (.iload_n 2, 1) := by decide +kernel
theorem d_F_isProcessFit_30 : decode b_F_isProcessFit 30 = .ok (.iconst 1, 1) := by decide +kernel
theorem d_F_isProcessFit_31 : decode b_F_isProcessFit 31 = .ok (.invokevirtual 79, 3) := by decide +kernel
theorem d_F_isProcessFit_34 : decode b_F_isProcessFit 34 = .ok (.ifCond .eq 22, 3) := by decide +kernel
theorem d_F_isProcessFit_37 : decode b_F_isProcessFit 37 = .ok (.aload_n 0, 1) := by decide +kernel
theorem d_F_isProcessFit_38 : decode b_F_isProcessFit 38 = .ok (.iload_n 1, 1) := by decide +kernel
theorem d_F_isProcessFit_39 : decode b_F_isProcessFit 39 = .ok (.iconst 2, 1) := by decide +kernel
theorem d_F_isProcessFit_40 : decode b_F_isProcessFit 40 = .ok (.invokevirtual 79, 3) := by decide +kernel
theorem d_F_isProcessFit_43 : decode b_F_isProcessFit 43 = .ok (.iconst 1, 1) := by decide +kernel
theorem d_F_isProcessFit_44 : decode b_F_isProcessFit 44 = .ok (.bipush 8, 2) := by decide +kernel
theorem d_F_isProcessFit_46 : decode b_F_isProcessFit 46 = .ok (.invokestatic 101, 3) := by decide +kernel
theorem d_F_isProcessFit_49 : decode b_F_isProcessFit 49 = .ok (.ifCond .eq 7, 3) := by decide +kernel
theorem d_F_isProcessFit_52 : decode b_F_isProcessFit 52 = .ok (.iconst 1, 1) := by decide +kernel
theorem d_F_isProcessFit_53 : decode b_F_isProcessFit 53 = .ok (.goto 4, 3) := by decide +kernel
theorem d_F_isProcessFit_56 : decode b_F_isProcessFit 56 = .ok (.iconst 0, 1) := by decide +kernel
theorem d_F_isProcessFit_57 : decode b_F_isProcessFit 57 = .ok (.ireturn, 1) := by decide +kernel
theorem d_F_isSpecialFit_0 : decode b_F_isSpecialFit 0 = .ok (.aload_n 0, 1) := by decide +kernel
theorem d_F_isSpecialFit_1 : decode b_F_isSpecialFit 1 = .ok (.aload_n 0, 1) := by decide +kernel
theorem d_F_isSpecialFit_2 : decode b_F_isSpecialFit 2 = .ok (.iload_n 1, 1) := by decide +kernel
theorem d_F_isSpecialFit_3 : decode b_F_isSpecialFit 3 = .ok (.invokevirtual 30, 3) := by decide +kernel
theorem d_F_isSpecialFit_6 : decode b_F_isSpecialFit 6 = .ok (.invokevirtual 34, 3) := by decide +kernel
theorem d_F_isSpecialFit_9 : decode b_F_isSpecialFit 9 = .ok (.istore_n 2, 1) := by decide +kernel
theorem d_F_isSpecialFit_10 : decode b_F_isSpecialFit 10 = .ok (.iload_n 2, 1) := by decide +kernel
theorem d_F_isSpecialFit_11 : decode b_F_isSpecialFit 11 = .ok (.ifCond .ne 5, 3) := by decide +kernel
theorem d_F_isSpecialFit_14 : decode b_F_isSpecialFit 14 = .ok (.iconst 0, 1) := by decide +kernel
theorem d_F_isSpecialFit_15 : decode b_F_isSpecialFit 15 = .ok (.ireturn, 1) := by decide +kernel
theorem d_F_isSpecialFit_16 : decode b_F_isSpecialFit 16 = .ok (.iload_n 1, 1) := by decide +kernel
theorem d_F_isSpecialFit_17 : decode b_F_isSpecialFit 17 = .ok (.iconst 1, 1) := by decide +kernel
theorem d_F_isSpecialFit_18 : decode b_F_isSpecialFit 18 = .ok (.if_icmp .gt 10, 3) := by decide +kernel
theorem d_F_isSpecialFit_21 : decode b_F_isSpecialFit 21 = .ok (.aload_n 0, 1) := by decide +kernel
theorem d_F_isSpecialFit_22 : decode b_F_isSpecialFit 22 = .ok (.iconst 0, 1) := by decide +kernel
theorem d_F_isSpecialFit_23 : decode b_F_isSpecialFit 23 = .ok (.iload_n 1, 1) := by decide +kernel
theorem d_F_isSpecialFit_24 : decode b_F_isSpecialFit 24 = .ok (.invokestatic 37, 3) := by decide +kernel
theorem d_F_isSpecialFit_27 : decode b_F_isSpecialFit 27 = .ok (.ireturn, 1) := by decide +kernel
theorem d_F_isSpecialFit_28 : decode b_F_isSpecialFit 28 = .ok (.iload_n 1, 1) := by decide +kernel
theorem d_F_isSpecialFit_29 : decode b_F_isSpecialFit 29 = .ok (.bipush 12, 2) := by decide +kernel
theorem d_F_isSpecialFit_31 : decode b_F_isSpecialFit 31 = .ok (.if_icmp .gt 26, 3) := by decide +kernel
theorem d_F_isSpecialFit_34 : decode b_F_isSpecialFit 34 = .ok (.aload_n 0, 1) := by decide +kernel
theorem d_F_isSpecialFit_35 : decode b_F_isSpecialFit 35 = .ok (.iload_n 2, 1) := by decide +kernel
theorem d_F_isSpecialFit_36 : decode b_F_isSpecialFit 36 = .ok (.invokestatic 41, 3) := by decide +kernel
theorem d_F_isSpecialFit_39 : decode b_F_isSpecialFit 39 = .ok (.ifCond .eq 16, 3) := by decide +kernel
theorem d_F_isSpecialFit_42 : decode b_F_isSpecialFit 42 = .ok (.aload_n 0, 1) := by decide +kernel
theorem d_F_isSpecialFit_43 : decode b_F_isSpecialFit 43 = .ok (.iconst 2, 1) := by decide +kernel
theorem d_F_isSpecialFit_44 : decode b_F_isSpecialFit 44 = .ok (.iload_n 1, 1) := by decide +kernel
theorem d_F_isSpecialFit_45 : decode b_F_isSpecialFit 45 = .ok (.invokestatic 37, 3) := by decide +kernel
theorem d_F_isSpecialFit_48 : decode b_F_isSpecialFit 48 = .ok (.ifCond .eq 7, 3) := by decide +kernel
theorem d_F_isSpecialFit_51 : decode b_F_isSpecialFit 51 = .ok (.iconst 1, 1) := by decide +kernel
theorem d_F_isSpecialFit_52 : decode b_F_isSpecialFit 52 = .ok (.goto 4, 3) := by decide +kernel
theorem d_F_isSpecialFit_55 : decode b_F_isSpecialFit 55 = .ok (.iconst 0, 1) := by decide +kernel
theorem d_F_isSpecialFit_56 : decode b_F_isSpecialFit 56 = .ok (.ireturn, 1) := by decide +kernel
theorem d_F_isSpecialFit_57 : decode b_F_isSpecialFit 57 = .ok (.iload_n 1, 1) := by decide +kernel
theorem d_F_isSpecialFit_58 : decode b_F_isSpecialFit 58 = .ok (.bipush 13, 2) := by decide +kernel
theorem d_F_isSpecialFit_60 : decode b_F_isSpecialFit 60 = .ok (.if_icmp .ne 20, 3) := by decide +kernel
theorem d_F_isSpecialFit_63 : decode b_F_isSpecialFit 63 = .ok (.aload_n 0, 1) := by decide +kernel
theorem d_F_isSpecialFit_64 : decode b_F_isSpecialFit 64 = .ok (.iload_n 2, 1) := by decide +kernel
theorem d_F_isSpecialFit_65 : decode b_F_isSpecialFit 65 = .ok (.invokevirtual 44, 3) := by decide +kernel
theorem d_F_isSpecialFit_68 : decode b_F_isSpecialFit 68 = .ok (.sipush 256, 3) := by decide +kernel
theorem d_F_isSpecialFit_71 : decode b_F_isSpecialFit 71 = .ok (.if_icmp .ne 7, 3) := by decide +kernel
theorem d_F_isSpecialFit_74 : decode b_F_isSpecialFit 74 = .ok (.iconst 1, 1) := by decide +kernel
theorem d_F_isSpecialFit_75 : decode b_F_isSpecialFit 75 = .ok (.goto 4, 3) := by decide +kernel
theorem d_F_isSpecialFit_78 : decode b_F_isSpecialFit 78 = .ok (.iconst 0, 1) := by decide +kernel
theorem d_F_isSpecialFit_79 : decode b_F_isSpecialFit 79 = .ok (.ireturn, 1) := by decide +kernel
theorem d_F_isSpecialFit_80 : decode b_F_isSpecialFit 80 = .ok (.aload_n 0, 1) := by decide +kernel
theorem d_F_isSpecialFit_81 : decode b_F_isSpecialFit 81 = .ok (.iload_n 2, 1) := by decide +kernel
theorem d_F_isSpecialFit_82 : decode b_F_isSpecialFit 82 = .ok (.iconst 2, 1) := by decide +kernel
theorem d_F_isSpecialFit_83 : decode b_F_isSpecialFit 83 = .ok (.invokestatic 47, 3) := by decide +kernel
theorem d_F_isSpecialFit_86 : decode b_F_isSpecialFit 86 = .ok (.ireturn, 1) := by decide +kernel
theorem d_F_objectsPlace_0 : decode b_F_objectsPlace 0 = .ok (.sipush 208, 3) := by decide +kernel
theorem d_F_objectsPlace_3 : decode b_F_objectsPlace 3 = .ok (.istore_n 1, 1) := by decide +kernel
theorem d_F_objectsPlace_4 : decode b_F_objectsPlace 4 = .ok (.iconst 1, 1) := by decide +kernel
theorem d_F_objectsPlace_5 : decode b_F_objectsPlace 5 = .ok (.istore_n 2, 1) := by decide +kernel
theorem d_F_objectsPlace_6 : decode b_F_objectsPlace 6 = .ok (.iload_n 2, 1) := by decide +kernel
theorem d_F_objectsPlace_7 : decode b_F_objectsPlace 7 = .ok (.aload_n 0, 1) := by decide +kernel
theorem d_F_objectsPlace_8 : decode b_F_objectsPlace 8 = .ok (.getfield 18, 3) := by decide +kernel
theorem d_F_objectsPlace_11 : decode b_F_objectsPlace 11 = .ok (.if_icmp .gt 76, 3) := by decide +kernel
theorem d_F_objectsPlace_14 : decode b_F_objectsPlace 14 = .ok (.aload_n 0, 1) := by decide +kernel
theorem d_F_objectsPlace_15 : decode b_F_objectsPlace 15 = .ok (.iload_n 2, 1) := by decide +kernel
theorem d_F_objectsPlace_16 : decode b_F_objectsPlace 16 = .ok (.invokestatic 50, 3) := by decide +kernel
theorem d_F_objectsPlace_19 : decode b_F_objectsPlace 19 = .ok (.ifCond .eq 39, 3) := by decide +kernel
theorem d_F_objectsPlace_22 : decode b_F_objectsPlace 22 = .ok (.aload_n 0, 1) := by decide +kernel
theorem d_F_objectsPlace_23 : decode b_F_objectsPlace 23 = .ok (.iload_n 2, 1) := by decide +kernel
theorem d_F_objectsPlace_24 : decode b_F_objectsPlace 24 = .ok (.bipush 7, 2) := by decide +kernel
theorem d_F_objectsPlace_26 : decode b_F_objectsPlace 26 = .ok (.invokevirtual 53, 3) := by decide +kernel
theorem d_F_objectsPlace_29 : decode b_F_objectsPlace 29 = .ok (.ifCond .eq 11, 3) := by decide +kernel
theorem d_F_objectsPlace_32 : decode b_F_objectsPlace 32 = .ok (.aload_n 0, 1) := by decide +kernel
theorem d_F_objectsPlace_33 : decode b_F_objectsPlace 33 = .ok (.iload_n 2, 1) := by decide +kernel
theorem d_F_objectsPlace_34 : decode b_F_objectsPlace 34 = .ok (.invokestatic 57, 3) := by decide +kernel
theorem d_F_objectsPlace_37 : decode b_F_objectsPlace 37 = .ok (.ifCond .eq 21, 3) := by decide +kernel
theorem d_F_objectsPlace_40 : decode b_F_objectsPlace 40 = .ok (.aload_n 0, 1) := by decide +kernel
theorem d_F_objectsPlace_41 : decode b_F_objectsPlace 41 = .ok (.iload_n 2, 1) := by decide +kernel
theorem d_F_objectsPlace_42 : decode b_F_objectsPlace 42 = .ok (.bipush 8, 2) := by decide +kernel
theorem d_F_objectsPlace_44 : decode b_F_objectsPlace 44 = .ok (.invokevirtual 53, 3) := by decide +kernel
theorem d_F_objectsPlace_47 : decode b_F_objectsPlace 47 = .ok (.ifCond .eq 13, 3) := by decide +kernel
theorem d_F_objectsPlace_50 : decode b_F_objectsPlace 50 = .ok (.aload_n 0, 1) := by decide +kernel
theorem d_F_objectsPlace_51 : decode b_F_objectsPlace 51 = .ok (.iload_n 2, 1) := by decide +kernel
theorem d_F_objectsPlace_52 : decode b_F_objectsPlace 52 = .ok (.invokestatic 60, 3) := by decide +kernel
theorem d_F_objectsPlace_55 : decode b_F_objectsPlace 55 = .ok (.ifCond .ne 5, 3) := by decide +kernel
theorem d_F_objectsPlace_58 : decode b_F_objectsPlace 58 = .ok (.iload_n 1, 1) := by decide +kernel
theorem d_F_objectsPlace_59 : decode b_F_objectsPlace 59 = .ok (.ireturn, 1) := by decide +kernel
theorem d_F_objectsPlace_60 : decode b_F_objectsPlace 60 = .ok (.iload_n 1, 1) := by decide +kernel
theorem d_F_objectsPlace_61 : decode b_F_objectsPlace 61 = .ok (.bipush 7, 2) := by decide +kernel
theorem d_F_objectsPlace_63 : decode b_F_objectsPlace 63 = .ok (.aload_n 0, 1) := by decide +kernel
theorem d_F_objectsPlace_64 : decode b_F_objectsPlace 64 = .ok (.getfield 63, 3) := by decide +kernel
theorem d_F_objectsPlace_67 : decode b_F_objectsPlace 67 = .ok (.iload_n 2, 1) := by decide +kernel
theorem d_F_objectsPlace_68 : decode b_F_objectsPlace 68 = .ok (.iaload, 1) := by decide +kernel
theorem d_F_objectsPlace_69 : decode b_F_objectsPlace 69 = .ok (.aload_n 0, 1) := by decide +kernel
theorem d_F_objectsPlace_70 : decode b_F_objectsPlace 70 = .ok (.getfield 67, 3) := by decide +kernel
theorem d_F_objectsPlace_73 : decode b_F_objectsPlace 73 = .ok (.iload_n 2, 1) := by decide +kernel
theorem d_F_objectsPlace_74 : decode b_F_objectsPlace 74 = .ok (.iaload, 1) := by decide +kernel
theorem d_F_objectsPlace_75 : decode b_F_objectsPlace 75 = .ok (.invokestatic 70, 3) := by decide +kernel
theorem d_F_objectsPlace_78 : decode b_F_objectsPlace 78 = .ok (.iadd, 1) := by decide +kernel
theorem d_F_objectsPlace_79 : decode b_F_objectsPlace 79 = .ok (.iadd, 1) := by decide +kernel
theorem d_F_objectsPlace_80 : decode b_F_objectsPlace 80 = .ok (.istore_n 1, 1) := by decide +kernel
theorem d_F_objectsPlace_81 : decode b_F_objectsPlace 81 = .ok (.iinc 2 1, 3) := by decide +kernel
theorem d_F_objectsPlace_84 : decode b_F_objectsPlace 84 = .ok (.goto (-78), 3) := by decide +kernel
theorem d_F_objectsPlace_87 : decode b_F_objectsPlace 87 = .ok (.iconst (-1), 1) := by decide +kernel
theorem d_F_objectsPlace_88 : decode b_F_objectsPlace 88 = .ok (.ireturn, 1) := by decide +kernel
theorem d_F_roomPlace_0 : decode b_F_roomPlace 0 = .ok (.aload_n 0, 1) := by decide +kernel
theorem d_F_roomPlace_1 : decode b_F_roomPlace 1 = .ok (.getfield 9, 3) := by decide +kernel
theorem d_F_roomPlace_4 : decode b_F_roomPlace 4 = .ok (.iconst 1, 1) := by decide +kernel
theorem d_F_roomPlace_5 : decode b_F_roomPlace 5 = .ok (.aload_n 0, 1) := by decide +kernel
theorem d_F_roomPlace_6 : decode b_F_roomPlace 6 = .ok (.getfield 15, 3) := by decide +kernel
theorem d_F_roomPlace_9 : decode b_F_roomPlace 9 = .ok (.ishl, 1) := by decide +kernel
theorem d_F_roomPlace_10 : decode b_F_roomPlace 10 = .ok (.if_icmp .le 5, 3) := by decide +kernel
theorem d_F_roomPlace_13 : decode b_F_roomPlace 13 = .ok (.iconst 4, 1) := by decide +kernel
theorem d_F_roomPlace_14 : decode b_F_roomPlace 14 = .ok (.ireturn, 1) := by decide +kernel
theorem d_F_roomPlace_15 : decode b_F_roomPlace 15 = .ok (.aload_n 0, 1) := by decide +kernel
theorem d_F_roomPlace_16 : decode b_F_roomPlace 16 = .ok (.getfield 18, 3) := by decide +kernel
theorem d_F_roomPlace_19 : decode b_F_roomPlace 19 = .ok (.iconst 1, 1) := by decide +kernel
theorem d_F_roomPlace_20 : decode b_F_roomPlace 20 = .ok (.aload_n 0, 1) := by decide +kernel
theorem d_F_roomPlace_21 : decode b_F_roomPlace 21 = .ok (.getfield 21, 3) := by decide +kernel
theorem d_F_roomPlace_24 : decode b_F_roomPlace 24 = .ok (.ishl, 1) := by decide +kernel
theorem d_F_roomPlace_25 : decode b_F_roomPlace 25 = .ok (.if_icmp .le 7, 3) := by decide +kernel
theorem d_F_roomPlace_28 : decode b_F_roomPlace 28 = .ok (.iconst 5, 1) := by decide +kernel
theorem d_F_roomPlace_29 : decode b_F_roomPlace 29 = .ok (.goto 4, 3) := by decide +kernel
theorem d_F_roomPlace_32 : decode b_F_roomPlace 32 = .ok (.iconst (-1), 1) := by decide +kernel
theorem d_F_roomPlace_33 : decode b_F_roomPlace 33 = .ok (.ireturn, 1) := by decide +kernel
theorem d_F_schedulerPlace_0 : decode b_F_schedulerPlace 0 = .ok (.aload_n 0, 1) := by decide +kernel
theorem d_F_schedulerPlace_1 : decode b_F_schedulerPlace 1 = .ok (.aload_n 0, 1) := by decide +kernel
theorem d_F_schedulerPlace_2 : decode b_F_schedulerPlace 2 = .ok (.bipush 14, 2) := by decide +kernel
theorem d_F_schedulerPlace_4 : decode b_F_schedulerPlace 4 = .ok (.invokevirtual 30, 3) := by decide +kernel
theorem d_F_schedulerPlace_7 : decode b_F_schedulerPlace 7 = .ok (.invokevirtual 34, 3) := by decide +kernel
theorem d_F_schedulerPlace_10 : decode b_F_schedulerPlace 10 = .ok (.istore_n 1, 1) := by decide +kernel
theorem d_F_schedulerPlace_11 : decode b_F_schedulerPlace 11 = .ok (.aload_n 0, 1) := by decide +kernel
theorem d_F_schedulerPlace_12 : decode b_F_schedulerPlace 12 = .ok (.aload_n 0, 1) := by decide +kernel
theorem d_F_schedulerPlace_13 : decode b_F_schedulerPlace 13 = .ok (.iload_n 1, 1) := by decide +kernel
theorem d_F_schedulerPlace_14 : decode b_F_schedulerPlace 14 = .ok (.iconst 0, 1) := by decide +kernel
theorem d_F_schedulerPlace_15 : decode b_F_schedulerPlace 15 = .ok (.invokevirtual 79, 3) := by decide +kernel
theorem d_F_schedulerPlace_18 : decode b_F_schedulerPlace 18 = .ok (.invokevirtual 34, 3) := by decide +kernel
theorem d_F_schedulerPlace_21 : decode b_F_schedulerPlace 21 = .ok (.istore_n 2, 1) := by decide +kernel
theorem d_F_schedulerPlace_22 : decode b_F_schedulerPlace 22 = .ok (.aload_n 0, 1) := by decide +kernel
theorem d_F_schedulerPlace_23 : decode b_F_schedulerPlace 23 = .ok (.aload_n 0, 1) := by decide +kernel
theorem d_F_schedulerPlace_24 : decode b_F_schedulerPlace 24 = .ok (.iload_n 1, 1) := by decide +kernel
theorem d_F_schedulerPlace_25 : decode b_F_schedulerPlace 25 = .ok (.iconst 1, 1) := by decide +kernel
theorem d_F_schedulerPlace_26 : decode b_F_schedulerPlace 26 = .ok (.invokevirtual 79, 3) := by decide +kernel
theorem d_F_schedulerPlace_29 : decode b_F_schedulerPlace 29 = .ok (.invokevirtual 34, 3) := by decide +kernel
theorem d_F_schedulerPlace_32 : decode b_F_schedulerPlace 32 = .ok (.istore_n 3, 1) := by decide +kernel
theorem d_F_schedulerPlace_33 : decode b_F_schedulerPlace 33 = .ok (.aload_n 0, 1) := by decide +kernel
theorem d_F_schedulerPlace_34 : decode b_F_schedulerPlace 34 = .ok (.iload_n 2, 1) := by decide +kernel
theorem d_F_schedulerPlace_35 : decode b_F_schedulerPlace 35 = .ok (.invokestatic 122, 3) := by decide +kernel
theorem d_F_schedulerPlace_38 : decode b_F_schedulerPlace 38 = .ok (.ifCond .eq 15, 3) := by decide +kernel
theorem d_F_schedulerPlace_41 : decode b_F_schedulerPlace 41 = .ok (.aload_n 0, 1) := by decide +kernel
theorem d_F_schedulerPlace_42 : decode b_F_schedulerPlace 42 = .ok (.iload_n 3, 1) := by decide +kernel
theorem d_F_schedulerPlace_43 : decode b_F_schedulerPlace 43 = .ok (.invokestatic 125, 3) := by decide +kernel
theorem d_F_schedulerPlace_46 : decode b_F_schedulerPlace 46 = .ok (.ifCond .eq 7, 3) := by decide +kernel
theorem d_F_schedulerPlace_49 : decode b_F_schedulerPlace 49 = .ok (.iconst (-1), 1) := by decide +kernel
theorem d_F_schedulerPlace_50 : decode b_F_schedulerPlace 50 = .ok (.goto 5, 3) := by decide +kernel
theorem d_F_schedulerPlace_53 : decode b_F_schedulerPlace 53 = .ok (.bipush 64, 2) := by decide +kernel
theorem d_F_schedulerPlace_55 : decode b_F_schedulerPlace 55 = .ok (.ireturn, 1) := by decide +kernel
theorem d_F_specialsPlace_0 : decode b_F_specialsPlace 0 = .ok (.iconst 0, 1) := by decide +kernel
theorem d_F_specialsPlace_1 : decode b_F_specialsPlace 1 = .ok (.istore_n 1, 1) := by decide +kernel
theorem d_F_specialsPlace_2 : decode b_F_specialsPlace 2 = .ok (.iload_n 1, 1) := by decide +kernel
theorem d_F_specialsPlace_3 : decode b_F_specialsPlace 3 = .ok (.bipush 14, 2) := by decide +kernel
theorem d_F_specialsPlace_5 : decode b_F_specialsPlace 5 = .ok (.if_icmp .gt 24, 3) := by decide +kernel
theorem d_F_specialsPlace_8 : decode b_F_specialsPlace 8 = .ok (.aload_n 0, 1) := by decide +kernel
theorem d_F_specialsPlace_9 : decode b_F_specialsPlace 9 = .ok (.iload_n 1, 1) := by decide +kernel
theorem d_F_specialsPlace_10 : decode b_F_specialsPlace 10 = .ok (.invokestatic 24, 3) := by decide +kernel
theorem d_F_specialsPlace_13 : decode b_F_specialsPlace 13 = .ok (.ifCond .ne 10, 3) := by decide +kernel
theorem d_F_specialsPlace_16 : decode b_F_specialsPlace 16 = .ok (.bipush 8, 2) := by decide +kernel
theorem d_F_specialsPlace_18 : decode b_F_specialsPlace 18 = .ok (.iconst 4, 1) := by decide +kernel
theorem d_F_specialsPlace_19 : decode b_F_specialsPlace 19 = .ok (.iload_n 1, 1) := by decide +kernel
theorem d_F_specialsPlace_20 : decode b_F_specialsPlace 20 = .ok (.imul, 1) := by decide +kernel
theorem d_F_specialsPlace_21 : decode b_F_specialsPlace 21 = .ok (.iadd, 1) := by decide +kernel
theorem d_F_specialsPlace_22 : decode b_F_specialsPlace 22 = .ok (.ireturn, 1) := by decide +kernel
theorem d_F_specialsPlace_23 : decode b_F_specialsPlace 23 = .ok (.iinc 1 1, 3) := by decide +kernel
theorem d_F_specialsPlace_26 : decode b_F_specialsPlace 26 = .ok (.goto (-24), 3) := by decide +kernel
theorem d_F_specialsPlace_29 : decode b_F_specialsPlace 29 = .ok (.iconst (-1), 1) := by decide +kernel
theorem d_F_specialsPlace_30 : decode b_F_specialsPlace 30 = .ok (.ireturn, 1) := by decide +kernel
theorem d_F_temporariesOf_0 : decode b_F_temporariesOf 0 = .ok (.iload_n 0, 1) := by decide +kernel
theorem d_F_temporariesOf_1 : decode b_F_temporariesOf 1 = .ok (.iconst 4, 1) := by decide +kernel
theorem d_F_temporariesOf_2 : decode b_F_temporariesOf 2 = .ok (.ishr, 1) := by decide +kernel
theorem d_F_temporariesOf_3 : decode b_F_temporariesOf 3 = .ok (.bipush 31, 2) := by decide +kernel
theorem d_F_temporariesOf_5 : decode b_F_temporariesOf 5 = .ok (.iand, 1) := by decide +kernel
theorem d_F_temporariesOf_6 : decode b_F_temporariesOf 6 = .ok (.ireturn, 1) := by decide +kernel
