theorem d_P_pairs_0 : decode b_P_pairs 0 = .ok (.aload_n 0, 1) := by decide +kernel
theorem d_P_pairs_1 : decode b_P_pairs 1 = .ok (.aload_n 1, 1) := by decide +kernel
theorem d_P_pairs_2 : decode b_P_pairs 2 = .ok (.aload_n 2, 1) := by decide +kernel
theorem d_P_pairs_3 : decode b_P_pairs 3 = .ok (.invokevirtual 21, 3) := by decide +kernel
theorem d_P_pairs_6 : decode b_P_pairs 6 = .ok (.aload_n 1, 1) := by decide +kernel
theorem d_P_pairs_7 : decode b_P_pairs 7 = .ok (.getfield 25, 3) := by decide +kernel
theorem d_P_pairs_10 : decode b_P_pairs 10 = .ok (.aload_n 2, 1) := by decide +kernel
theorem d_P_pairs_11 : decode b_P_pairs 11 = .ok (.getfield 25, 3) := by decide +kernel
theorem d_P_pairs_14 : decode b_P_pairs 14 = .ok (.if_icmp .ne 14, 3) := by decide +kernel
theorem d_P_pairs_17 : decode b_P_pairs 17 = .ok (.aload_n 1, 1) := by decide +kernel
theorem d_P_pairs_18 : decode b_P_pairs 18 = .ok (.getfield 31, 3) := by decide +kernel
theorem d_P_pairs_21 : decode b_P_pairs 21 = .ok (.aload_n 2, 1) := by decide +kernel
theorem d_P_pairs_22 : decode b_P_pairs 22 = .ok (.getfield 31, 3) := by decide +kernel
theorem d_P_pairs_25 : decode b_P_pairs 25 = .ok (.if_icmp .eq 5, 3) := by decide +kernel
theorem d_P_pairs_28 : decode b_P_pairs 28 = .ok (.iconst 0, 1) := by decide +kernel
theorem d_P_pairs_29 : decode b_P_pairs 29 = .ok (.ireturn, 1) := by decide +kernel
theorem d_P_pairs_30 : decode b_P_pairs 30 = .ok (.iconst 0, 1) := by decide +kernel
theorem d_P_pairs_31 : decode b_P_pairs 31 = .ok (.istore_n 3, 1) := by decide +kernel
theorem d_P_pairs_32 : decode b_P_pairs 32 = .ok (.iload_n 3, 1) := by decide +kernel
theorem d_P_pairs_33 : decode b_P_pairs 33 = .ok (.bipush 50, 2) := by decide +kernel
theorem d_P_pairs_35 : decode b_P_pairs 35 = .ok (.if_icmp .ge 32, 3) := by decide +kernel
theorem d_P_pairs_38 : decode b_P_pairs 38 = .ok (.aload_n 0, 1) := by decide +kernel
theorem d_P_pairs_39 : decode b_P_pairs 39 = .ok (.aload_n 1, 1) := by decide +kernel
theorem d_P_pairs_40 : decode b_P_pairs 40 = .ok (.aload_n 1, 1) := by decide +kernel
theorem d_P_pairs_41 : decode b_P_pairs 41 = .ok (.getfield 34, 3) := by decide +kernel
theorem d_P_pairs_44 : decode b_P_pairs 44 = .ok (.iload_n 3, 1) := by decide +kernel
theorem d_P_pairs_45 : decode b_P_pairs 45 = .ok (.iaload, 1) := by decide +kernel
theorem d_P_pairs_46 : decode b_P_pairs 46 = .ok (.aload_n 2, 1) := by decide +kernel
theorem d_P_pairs_47 : decode b_P_pairs 47 = .ok (.aload_n 2, 1) := by decide +kernel
theorem d_P_pairs_48 : decode b_P_pairs 48 = .ok (.getfield 34, 3) := by decide +kernel
theorem d_P_pairs_51 : decode b_P_pairs 51 = .ok (.iload_n 3, 1) := by decide +kernel
theorem d_P_pairs_52 : decode b_P_pairs 52 = .ok (.iaload, 1) := by decide +kernel
theorem d_P_pairs_53 : decode b_P_pairs 53 = .ok (.invokevirtual 37, 3) := by decide +kernel
theorem d_P_pairs_56 : decode b_P_pairs 56 = .ok (.ifCond .ne 5, 3) := by decide +kernel
theorem d_P_pairs_59 : decode b_P_pairs 59 = .ok (.iconst 0, 1) := by decide +kernel
theorem d_P_pairs_60 : decode b_P_pairs 60 = .ok (.ireturn, 1) := by decide +kernel
theorem d_P_pairs_61 : decode b_P_pairs 61 = .ok (.iinc 3 1, 3) := by decide +kernel
theorem d_P_pairs_64 : decode b_P_pairs 64 = .ok (.goto (-32), 3) := by decide +kernel
theorem d_P_pairs_67 : decode b_P_pairs 67 = .ok (.iconst 0, 1) := by decide +kernel
theorem d_P_pairs_68 : decode b_P_pairs 68 = .ok (.istore_n 3, 1) := by decide +kernel
theorem d_P_pairs_69 : decode b_P_pairs 69 = .ok (.iload_n 3, 1) := by decide +kernel
theorem d_P_pairs_70 : decode b_P_pairs 70 = .ok (.aload_n 0, 1) := by decide +kernel
theorem d_P_pairs_71 : decode b_P_pairs 71 = .ok (.getfield 41, 3) := by decide +kernel
theorem d_P_pairs_74 : decode b_P_pairs 74 = .ok (.if_icmp .ge 45, 3) := by decide +kernel
theorem d_P_pairs_77 : decode b_P_pairs 77 = .ok (.iload_n 3, 1) := by decide +kernel
theorem d_P_pairs_78 : decode b_P_pairs 78 = .ok (.aload_n 1, 1) := by decide +kernel
theorem d_P_pairs_79 : decode b_P_pairs 79 = .ok (.getfield 44, 3) := by decide +kernel
theorem d_P_pairs_82 : decode b_P_pairs 82 = .ok (.if_icmp .ge 37, 3) := by decide +kernel
theorem d_P_pairs_85 : decode b_P_pairs 85 = .ok (.aload_n 0, 1) := by decide +kernel
theorem d_P_pairs_86 : decode b_P_pairs 86 = .ok (.aload_n 1, 1) := by decide +kernel
theorem d_P_pairs_87 : decode b_P_pairs 87 = .ok (.aload_n 0, 1) := by decide +kernel
theorem d_P_pairs_88 : decode b_P_pairs 88 = .ok (.getfield 18, 3) := by decide +kernel
theorem d_P_pairs_91 : decode b_P_pairs 91 = .ok (.iload_n 3, 1) := by decide +kernel
theorem d_P_pairs_92 : decode b_P_pairs 92 = .ok (.iaload, 1) := by decide +kernel
theorem d_P_pairs_93 : decode b_P_pairs 93 = .ok (.aload_n 2, 1) := by decide +kernel
theorem d_P_pairs_94 : decode b_P_pairs 94 = .ok (.aload_n 0, 1) := by decide +kernel
theorem d_P_pairs_95 : decode b_P_pairs 95 = .ok (.getfield 9, 3) := by decide +kernel
theorem d_P_pairs_98 : decode b_P_pairs 98 = .ok (.aload_n 0, 1) := by decide +kernel
theorem d_P_pairs_99 : decode b_P_pairs 99 = .ok (.getfield 18, 3) := by decide +kernel
theorem d_P_pairs_102 : decode b_P_pairs 102 = .ok (.iload_n 3, 1) := by decide +kernel
theorem d_P_pairs_103 : decode b_P_pairs 103 = .ok (.iaload, 1) := by decide +kernel
theorem d_P_pairs_104 : decode b_P_pairs 104 = .ok (.iaload, 1) := by decide +kernel
theorem d_P_pairs_105 : decode b_P_pairs 105 = .ok (.invokevirtual 47, 3) := by decide +kernel
theorem d_P_pairs_108 : decode b_P_pairs 108 = .ok (.ifCond .ne 5, 3) := by decide +kernel
theorem d_P_pairs_111 : decode b_P_pairs 111 = .ok (.iconst 0, 1) := by decide +kernel
theorem d_P_pairs_112 : decode b_P_pairs 112 = .ok (.ireturn, 1) := by decide +kernel
theorem d_P_pairs_113 : decode b_P_pairs 113 = .ok (.iinc 3 1, 3) := by decide +kernel
theorem d_P_pairs_116 : decode b_P_pairs 116 = .ok (.goto (-47), 3) := by decide +kernel
theorem d_P_pairs_119 : decode b_P_pairs 119 = .ok (.iconst 1, 1) := by decide +kernel
theorem d_P_pairs_120 : decode b_P_pairs 120 = .ok (.ireturn, 1) := by decide +kernel
theorem d_R_byteAt_0 : decode b_R_byteAt 0 = .ok (.aload_n 0, 1) := by decide +kernel
theorem d_R_byteAt_1 : decode b_R_byteAt 1 = .ok (.getfield 43, 3) := by decide +kernel
theorem d_R_byteAt_4 : decode b_R_byteAt 4 = .ok (.iload_n 1, 1) := by decide +kernel
theorem d_R_byteAt_5 : decode b_R_byteAt 5 = .ok (.iload_n 2, 1) := by decide +kernel
theorem d_R_byteAt_6 : decode b_R_byteAt 6 = .ok (.invokevirtual 117, 3) := by decide +kernel
theorem d_R_byteAt_9 : decode b_R_byteAt 9 = .ok (.ireturn, 1) := by decide +kernel
theorem d_R_came_0 : decode b_R_came 0 = .ok (.aload_n 0, 1) := by decide +kernel
theorem d_R_came_1 : decode b_R_came 1 = .ok (.getfield 10, 3) := by decide +kernel
theorem d_R_came_4 : decode b_R_came 4 = .ok (.iload_n 1, 1) := by decide +kernel
theorem d_R_came_5 : decode b_R_came 5 = .ok (.invokevirtual 70, 3) := by decide +kernel
theorem d_R_came_8 : decode b_R_came 8 = .ok (.ireturn, 1) := by decide +kernel
theorem d_R_change_0 : decode b_R_change 0 = .ok (.aload_n 0, 1) := by decide +kernel
theorem d_R_change_1 : decode b_R_change 1 = .ok (.getfield 10, 3) := by decide +kernel
theorem d_R_change_4 : decode b_R_change 4 = .ok (.iload_n 1, 1) := by decide +kernel
theorem d_R_change_5 : decode b_R_change 5 = .ok (.invokevirtual 70, 3) := by decide +kernel
theorem d_R_change_8 : decode b_R_change 8 = .ok (.istore_n 3, 1) := by decide +kernel
theorem d_R_change_9 : decode b_R_change 9 = .ok (.iload_n 3, 1) := by decide +kernel
theorem d_R_change_10 : decode b_R_change 10 = .ok (.iconst (-1), 1) := by decide +kernel
theorem d_R_change_11 : decode b_R_change 11 = .ok (.if_icmp .eq 14, 3) := by decide +kernel
theorem d_R_change_14 : decode b_R_change 14 = .ok (.iload_n 2, 1) := by decide +kernel
theorem d_R_change_15 : decode b_R_change 15 = .ok (.ifCond .lt 10, 3) := by decide +kernel
theorem d_R_change_18 : decode b_R_change 18 = .ok (.iload_n 2, 1) := by decide +kernel
theorem d_R_change_19 : decode b_R_change 19 = .ok (.sipush 255, 3) := by decide +kernel
theorem d_R_change_22 : decode b_R_change 22 = .ok (.if_icmp .le 5, 3) := by decide +kernel
theorem d_R_change_25 : decode b_R_change 25 = .ok (.iconst (-1), 1) := by decide +kernel
theorem d_R_change_26 : decode b_R_change 26 = .ok (.ireturn, 1) := by decide +kernel
theorem d_R_change_27 : decode b_R_change 27 = .ok (.aload_n 0, 1) := by decide +kernel
theorem d_R_change_28 : decode b_R_change 28 = .ok (.getfield 10, 3) := by decide +kernel
theorem d_R_change_31 : decode b_R_change 31 = .ok (.getfield 74, 3) := by decide +kernel
theorem d_R_change_34 : decode b_R_change 34 = .ok (.iload_n 1, 1) := by decide +kernel
theorem d_R_change_35 : decode b_R_change 35 = .ok (.iload_n 2, 1) := by decide +kernel
theorem d_R_change_36 : decode b_R_change 36 = .ok (.i2b, 1) := by decide +kernel
theorem d_R_change_37 : decode b_R_change 37 = .ok (.bastore, 1) := by decide +kernel
theorem d_R_change_38 : decode b_R_change 38 = .ok (.iload_n 3, 1) := by decide +kernel
theorem d_R_change_39 : decode b_R_change 39 = .ok (.ireturn, 1) := by decide +kernel
theorem d_R_classOf_0 : decode b_R_classOf 0 = .ok (.aload_n 0, 1) := by decide +kernel
theorem d_R_classOf_1 : decode b_R_classOf 1 = .ok (.getfield 43, 3) := by decide +kernel
theorem d_R_classOf_4 : decode b_R_classOf 4 = .ok (.iload_n 1, 1) := by decide +kernel
theorem d_R_classOf_5 : decode b_R_classOf 5 = .ok (.invokevirtual 107, 3) := by decide +kernel
theorem d_R_classOf_8 : decode b_R_classOf 8 = .ok (.ireturn, 1) := by decide +kernel
theorem d_R_end_0 : decode b_R_end 0 = .ok (.iload_n 1, 1) := by decide +kernel
theorem d_R_end_1 : decode b_R_end 1 = .ok (.ifCond .lt 14, 3) := by decide +kernel
theorem d_R_end_4 : decode b_R_end 4 = .ok (.iload_n 1, 1) := by decide +kernel
theorem d_R_end_5 : decode b_R_end 5 = .ok (.aload_n 0, 1) := by decide +kernel
theorem d_R_end_6 : decode b_R_end 6 = .ok (.getfield 10, 3) := by decide +kernel
theorem d_R_end_9 : decode b_R_end 9 = .ok (.getfield 49, 3) := by decide +kernel
theorem d_R_end_12 : decode b_R_end 12 = .ok (.if_icmp .le 13, 3) := by decide +kernel
theorem d_R_end_15 : decode b_R_end 15 = .ok (.new 65, 3) := by decide +kernel
theorem d_R_end_18 : decode b_R_end 18 = .ok (.dup, 1) := by decide +kernel
theorem d_R_end_19 : decode b_R_end 19 = .ok (.ldc 67, 2) := by decide +kernel
theorem d_R_end_21 : decode b_R_end 21 = .ok (.invokespecial 69, 3) := by decide +kernel
theorem d_R_end_24 : decode b_R_end 24 = .ok (.athrow, 1) := by decide +kernel
theorem d_R_end_25 : decode b_R_end 25 = .ok (.aload_n 0, 1) := by decide +kernel
theorem d_R_end_26 : decode b_R_end 26 = .ok (.getfield 10, 3) := by decide +kernel
theorem d_R_end_29 : decode b_R_end 29 = .ok (.getfield 49, 3) := by decide +kernel
theorem d_R_end_32 : decode b_R_end 32 = .ok (.istore_n 2, 1) := by decide +kernel
theorem d_R_end_33 : decode b_R_end 33 = .ok (.aload_n 0, 1) := by decide +kernel
theorem d_R_end_34 : decode b_R_end 34 = .ok (.getfield 10, 3) := by decide +kernel
theorem d_R_end_37 : decode b_R_end 37 = .ok (.iload_n 1, 1) := by decide +kernel
theorem d_R_end_38 : decode b_R_end 38 = .ok (.putfield 49, 3) := by decide +kernel
theorem d_R_end_41 : decode b_R_end 41 = .ok (.iload_n 2, 1) := by decide +kernel
theorem d_R_end_42 : decode b_R_end 42 = .ok (.ireturn, 1) := by decide +kernel
theorem d_R_feed_0 : decode b_R_feed 0 = .ok (.aload_n 0, 1) := by decide +kernel
theorem d_R_feed_1 : decode b_R_feed 1 = .ok (.getfield 10, 3) := by decide +kernel
theorem d_R_feed_4 : decode b_R_feed 4 = .ok (.getfield 49, 3) := by decide +kernel
theorem d_R_feed_7 : decode b_R_feed 7 = .ok (.bipush 20, 2) := by decide +kernel
theorem d_R_feed_9 : decode b_R_feed 9 = .ok (.iadd, 1) := by decide +kernel
theorem d_R_feed_10 : decode b_R_feed 10 = .ok (.ldc 53, 2) := by decide +kernel
theorem d_R_feed_12 : decode b_R_feed 12 = .ok (.if_icmp .le 13, 3) := by decide +kernel
theorem d_R_feed_15 : decode b_R_feed 15 = .ok (.new 54, 3) := by decide +kernel
theorem d_R_feed_18 : decode b_R_feed 18 = .ok (.dup, 1) := by decide +kernel
theorem d_R_feed_19 : decode b_R_feed 19 = .ok (.ldc 56, 2) := by decide +kernel
theorem d_R_feed_21 : decode b_R_feed 21 = .ok (.invokespecial 58, 3) := by decide +kernel
theorem d_R_feed_24 : decode b_R_feed 24 = .ok (.athrow, 1) := by decide +kernel
theorem d_R_feed_25 : decode b_R_feed 25 = .ok (.aload_n 0, 1) := by decide +kernel
theorem d_R_feed_26 : decode b_R_feed 26 = .ok (.getfield 10, 3) := by decide +kernel
theorem d_R_feed_29 : decode b_R_feed 29 = .ok (.iload_n 1, 1) := by decide +kernel
theorem d_R_feed_30 : decode b_R_feed 30 = .ok (.invokevirtual 61, 3) := by decide +kernel
theorem d_R_feed_33 : decode b_R_feed 33 = .ok (.aload_n 0, 1) := by decide +kernel
theorem d_R_feed_34 : decode b_R_feed 34 = .ok (.getfield 10, 3) := by decide +kernel
theorem d_R_feed_37 : decode b_R_feed 37 = .ok (.iload_n 2, 1) := by decide +kernel
theorem d_R_feed_38 : decode b_R_feed 38 = .ok (.invokevirtual 61, 3) := by decide +kernel
theorem d_R_feed_41 : decode b_R_feed 41 = .ok (.aload_n 0, 1) := by decide +kernel
theorem d_R_feed_42 : decode b_R_feed 42 = .ok (.getfield 10, 3) := by decide +kernel
theorem d_R_feed_45 : decode b_R_feed 45 = .ok (.iload_n 3, 1) := by decide +kernel
theorem d_R_feed_46 : decode b_R_feed 46 = .ok (.invokevirtual 61, 3) := by decide +kernel
theorem d_R_feed_49 : decode b_R_feed 49 = .ok (.aload_n 0, 1) := by decide +kernel
theorem d_R_feed_50 : decode b_R_feed 50 = .ok (.getfield 10, 3) := by decide +kernel
theorem d_R_feed_53 : decode b_R_feed 53 = .ok (.iload 4, 2) := by decide +kernel
theorem d_R_feed_55 : decode b_R_feed 55 = .ok (.invokevirtual 61, 3) := by decide +kernel
theorem d_R_feed_58 : decode b_R_feed 58 = .ok (.aload_n 0, 1) := by decide +kernel
theorem d_R_feed_59 : decode b_R_feed 59 = .ok (.getfield 10, 3) := by decide +kernel
theorem d_R_feed_62 : decode b_R_feed 62 = .ok (.iload 5, 2) := by decide +kernel
theorem d_R_feed_64 : decode b_R_feed 64 = .ok (.invokevirtual 61, 3) := by decide +kernel
theorem d_R_feed_67 : decode b_R_feed 67 = .ok (.return_, 1) := by decide +kernel
theorem d_R_field_0 : decode b_R_field 0 = .ok (.aload_n 0, 1) := by decide +kernel
theorem d_R_field_1 : decode b_R_field 1 = .ok (.getfield 43, 3) := by decide +kernel
theorem d_R_field_4 : decode b_R_field 4 = .ok (.iload_n 1, 1) := by decide +kernel
theorem d_R_field_5 : decode b_R_field 5 = .ok (.iload_n 2, 1) := by decide +kernel
theorem d_R_field_6 : decode b_R_field 6 = .ok (.invokevirtual 113, 3) := by decide +kernel
theorem d_R_field_9 : decode b_R_field 9 = .ok (.ireturn, 1) := by decide +kernel
theorem d_R_init_0 : decode b_R_init 0 = .ok (.aload_n 0, 1) := by decide +kernel
theorem d_R_init_1 : decode b_R_init 1 = .ok (.invokespecial 1, 3) := by decide +kernel
theorem d_R_init_4 : decode b_R_init 4 = .ok (.aload_n 0, 1) := by decide +kernel
theorem d_R_init_5 : decode b_R_init 5 = .ok (.new 7, 3) := by decide +kernel
theorem d_R_init_8 : decode b_R_init 8 = .ok (.dup, 1) := by decide +kernel
theorem d_R_init_9 : decode b_R_init 9 = .ok (.invokespecial 9, 3) := by decide +kernel
theorem d_R_init_12 : decode b_R_init 12 = .ok (.putfield 10, 3) := by decide +kernel
theorem d_R_init_15 : decode b_R_init 15 = .ok (.aload_n 0, 1) := by decide +kernel
theorem d_R_init_16 : decode b_R_init 16 = .ok (.new 16, 3) := by decide +kernel
theorem d_R_init_19 : decode b_R_init 19 = .ok (.dup, 1) := by decide +kernel
theorem d_R_init_20 : decode b_R_init 20 = .ok (.invokespecial 18, 3) := by decide +kernel
theorem d_R_init_23 : decode b_R_init 23 = .ok (.putfield 19, 3) := by decide +kernel
theorem d_R_init_26 : decode b_R_init 26 = .ok (.aload_n 0, 1) := by decide +kernel
theorem d_R_init_27 : decode b_R_init 27 = .ok (.new 16, 3) := by decide +kernel
theorem d_R_init_30 : decode b_R_init 30 = .ok (.dup, 1) := by decide +kernel
theorem d_R_init_31 : decode b_R_init 31 = .ok (.invokespecial 18, 3) := by decide +kernel
theorem d_R_init_34 : decode b_R_init 34 = .ok (.putfield 23, 3) := by decide +kernel
theorem d_R_init_37 : decode b_R_init 37 = .ok (.aload_n 0, 1) := by decide +kernel
theorem d_R_init_38 : decode b_R_init 38 = .ok (.new 16, 3) := by decide +kernel
theorem d_R_init_41 : decode b_R_init 41 = .ok (.dup, 1) := by decide +kernel
theorem d_R_init_42 : decode b_R_init 42 = .ok (.invokespecial 18, 3) := by decide +kernel
theorem d_R_init_45 : decode b_R_init 45 = .ok (.putfield 26, 3) := by decide +kernel
theorem d_R_init_48 : decode b_R_init 48 = .ok (.aload_n 0, 1) := by decide +kernel
theorem d_R_init_49 : decode b_R_init 49 = .ok (.new 29, 3) := by decide +kernel
theorem d_R_init_52 : decode b_R_init 52 = .ok (.dup, 1) := by decide +kernel
theorem d_R_init_53 : decode b_R_init 53 = .ok (.invokespecial 31, 3) := by decide +kernel
theorem d_R_init_56 : decode b_R_init 56 = .ok (.putfield 32, 3) := by decide +kernel
theorem d_R_init_59 : decode b_R_init 59 = .ok (.aload_n 0, 1) := by decide +kernel
theorem d_R_init_60 : decode b_R_init 60 = .ok (.new 36, 3) := by decide +kernel
theorem d_R_init_63 : decode b_R_init 63 = .ok (.dup, 1) := by decide +kernel
theorem d_R_init_64 : decode b_R_init 64 = .ok (.invokespecial 38, 3) := by decide +kernel
theorem d_R_init_67 : decode b_R_init 67 = .ok (.putfield 39, 3) := by decide +kernel
theorem d_R_init_70 : decode b_R_init 70 = .ok (.aload_n 0, 1) := by decide +kernel
theorem d_R_init_71 : decode b_R_init 71 = .ok (.aload_n 0, 1) := by decide +kernel
theorem d_R_init_72 : decode b_R_init 72 = .ok (.getfield 19, 3) := by decide +kernel
theorem d_R_init_75 : decode b_R_init 75 = .ok (.putfield 43, 3) := by decide +kernel
theorem d_R_init_78 : decode b_R_init 78 = .ok (.aload_n 0, 1) := by decide +kernel
theorem d_R_init_79 : decode b_R_init 79 = .ok (.aload_n 0, 1) := by decide +kernel
theorem d_R_init_80 : decode b_R_init 80 = .ok (.getfield 19, 3) := by decide +kernel
theorem d_R_init_83 : decode b_R_init 83 = .ok (.putfield 46, 3) := by decide +kernel
theorem d_R_init_86 : decode b_R_init 86 = .ok (.return_, 1) := by decide +kernel
theorem d_R_isNumber_0 : decode b_R_isNumber 0 = .ok (.iload_n 0, 1) := by decide +kernel
theorem d_R_isNumber_1 : decode b_R_isNumber 1 = .ok (.iconst 1, 1) := by decide +kernel
theorem d_R_isNumber_2 : decode b_R_isNumber 2 = .ok (.iand, 1) := by decide +kernel
theorem d_R_isNumber_3 : decode b_R_isNumber 3 = .ok (.ifCond .eq 7, 3) := by decide +kernel
theorem d_R_isNumber_6 : decode b_R_isNumber 6 = .ok (.iconst 1, 1) := by decide +kernel
theorem d_R_isNumber_7 : decode b_R_isNumber 7 = .ok (.goto 4, 3) := by decide +kernel
theorem d_R_isNumber_10 : decode b_R_isNumber 10 = .ok (.iconst 0, 1) := by decide +kernel
theorem d_R_isNumber_11 : decode b_R_isNumber 11 = .ok (.ireturn, 1) := by decide +kernel
theorem d_R_isNumberWithin_0 : decode b_R_isNumberWithin 0 = .ok (.iload_n 0, 1) := by decide +kernel
theorem d_R_isNumberWithin_1 : decode b_R_isNumberWithin 1 = .ok (.invokestatic 198, 3) := by decide +kernel
theorem d_R_isNumberWithin_4 : decode b_R_isNumberWithin 4 = .ok (.ifCond .eq 23, 3) := by decide +kernel
theorem d_R_isNumberWithin_7 : decode b_R_isNumberWithin 7 = .ok (.iload_n 0, 1) := by decide +kernel
theorem d_R_isNumberWithin_8 : decode b_R_isNumberWithin 8 = .ok (.invokestatic 201, 3) := by decide +kernel
theorem d_R_isNumberWithin_11 : decode b_R_isNumberWithin 11 = .ok (.iload_n 1, 1) := by decide +kernel
theorem d_R_isNumberWithin_12 : decode b_R_isNumberWithin 12 = .ok (.if_icmp .lt 15, 3) := by decide +kernel
theorem d_R_isNumberWithin_15 : decode b_R_isNumberWithin 15 = .ok (.iload_n 0, 1) := by decide +kernel
theorem d_R_isNumberWithin_16 : decode b_R_isNumberWithin 16 = .ok (.invokestatic 201, 3) := by decide +kernel
theorem d_R_isNumberWithin_19 : decode b_R_isNumberWithin 19 = .ok (.iload_n 2, 1) := by decide +kernel
theorem d_R_isNumberWithin_20 : decode b_R_isNumberWithin 20 = .ok (.if_icmp .gt 7, 3) := by decide +kernel
theorem d_R_isNumberWithin_23 : decode b_R_isNumberWithin 23 = .ok (.iconst 1, 1) := by decide +kernel
theorem d_R_isNumberWithin_24 : decode b_R_isNumberWithin 24 = .ok (.goto 4, 3) := by decide +kernel
theorem d_R_isNumberWithin_27 : decode b_R_isNumberWithin 27 = .ok (.iconst 0, 1) := by decide +kernel
theorem d_R_isNumberWithin_28 : decode b_R_isNumberWithin 28 = .ok (.ireturn, 1) := by decide +kernel
theorem d_R_keep_0 : decode b_R_keep 0 = .ok (.aload_n 0, 1) := by decide +kernel
theorem d_R_keep_1 : decode b_R_keep 1 = .ok (.getfield 43, 3) := by decide +kernel
theorem d_R_keep_4 : decode b_R_keep 4 = .ok (.getfield 86, 3) := by decide +kernel
theorem d_R_keep_7 : decode b_R_keep 7 = .ok (.ifCond .ne 5, 3) := by decide +kernel
theorem d_R_keep_10 : decode b_R_keep 10 = .ok (.iconst 0, 1) := by decide +kernel
theorem d_R_keep_11 : decode b_R_keep 11 = .ok (.ireturn, 1) := by decide +kernel
theorem d_R_keep_12 : decode b_R_keep 12 = .ok (.aload_n 0, 1) := by decide +kernel
theorem d_R_keep_13 : decode b_R_keep 13 = .ok (.aload_n 0, 1) := by decide +kernel
theorem d_R_keep_14 : decode b_R_keep 14 = .ok (.getfield 43, 3) := by decide +kernel
theorem d_R_keep_17 : decode b_R_keep 17 = .ok (.putfield 46, 3) := by decide +kernel
theorem d_R_keep_20 : decode b_R_keep 20 = .ok (.iconst 1, 1) := by decide +kernel
theorem d_R_keep_21 : decode b_R_keep 21 = .ok (.ireturn, 1) := by decide +kernel
theorem d_R_kind_0 : decode b_R_kind 0 = .ok (.aload_n 0, 1) := by decide +kernel
theorem d_R_kind_1 : decode b_R_kind 1 = .ok (.getfield 43, 3) := by decide +kernel
theorem d_R_kind_4 : decode b_R_kind 4 = .ok (.iload_n 1, 1) := by decide +kernel
theorem d_R_kind_5 : decode b_R_kind 5 = .ok (.invokevirtual 95, 3) := by decide +kernel
theorem d_R_kind_8 : decode b_R_kind 8 = .ok (.ifCond .ne 5, 3) := by decide +kernel
theorem d_R_kind_11 : decode b_R_kind 11 = .ok (.iconst (-1), 1) := by decide +kernel
theorem d_R_kind_12 : decode b_R_kind 12 = .ok (.ireturn, 1) := by decide +kernel
theorem d_R_kind_13 : decode b_R_kind 13 = .ok (.aload_n 0, 1) := by decide +kernel
theorem d_R_kind_14 : decode b_R_kind 14 = .ok (.getfield 43, 3) := by decide +kernel
theorem d_R_kind_17 : decode b_R_kind 17 = .ok (.iload_n 1, 1) := by decide +kernel
theorem d_R_kind_18 : decode b_R_kind 18 = .ok (.bipush 7, 2) := by decide +kernel
theorem d_R_kind_20 : decode b_R_kind 20 = .ok (.invokevirtual 99, 3) := by decide +kernel
theorem d_R_kind_23 : decode b_R_kind 23 = .ok (.ifCond .eq 5, 3) := by decide +kernel
theorem d_R_kind_26 : decode b_R_kind 26 = .ok (.iconst 2, 1) := by decide +kernel
theorem d_R_kind_27 : decode b_R_kind 27 = .ok (.ireturn, 1) := by decide +kernel
theorem d_R_kind_28 : decode b_R_kind 28 = .ok (.aload_n 0, 1) := by decide +kernel
theorem d_R_kind_29 : decode b_R_kind 29 = .ok (.getfield 43, 3) := by decide +kernel
theorem d_R_kind_32 : decode b_R_kind 32 = .ok (.iload_n 1, 1) := by decide +kernel
theorem d_R_kind_33 : decode b_R_kind 33 = .ok (.bipush 8, 2) := by decide +kernel
theorem d_R_kind_35 : decode b_R_kind 35 = .ok (.invokevirtual 99, 3) := by decide +kernel
theorem d_R_kind_38 : decode b_R_kind 38 = .ok (.ifCond .eq 7, 3) := by decide +kernel
theorem d_R_kind_41 : decode b_R_kind 41 = .ok (.iconst 3, 1) := by decide +kernel
theorem d_R_kind_42 : decode b_R_kind 42 = .ok (.goto 12, 3) := by decide +kernel
theorem d_R_kind_45 : decode b_R_kind 45 = .ok (.aload_n 0, 1) := by decide +kernel
theorem d_R_kind_46 : decode b_R_kind 46 = .ok (.getfield 43, 3) := by decide +kernel
theorem d_R_kind_49 : decode b_R_kind 49 = .ok (.getfield 103, 3) := by decide +kernel
theorem d_R_kind_52 : decode b_R_kind 52 = .ok (.iload_n 1, 1) := by decide +kernel
theorem d_R_kind_53 : decode b_R_kind 53 = .ok (.iaload, 1) := by decide +kernel
theorem d_R_kind_54 : decode b_R_kind 54 = .ok (.ireturn, 1) := by decide +kernel
theorem d_R_numberOf_0 : decode b_R_numberOf 0 = .ok (.iload_n 0, 1) := by decide +kernel
theorem d_R_numberOf_1 : decode b_R_numberOf 1 = .ok (.iconst 1, 1) := by decide +kernel
theorem d_R_numberOf_2 : decode b_R_numberOf 2 = .ok (.ishr, 1) := by decide +kernel
theorem d_R_numberOf_3 : decode b_R_numberOf 3 = .ok (.ireturn, 1) := by decide +kernel
theorem d_R_objects_0 : decode b_R_objects 0 = .ok (.aload_n 0, 1) := by decide +kernel
theorem d_R_objects_1 : decode b_R_objects 1 = .ok (.getfield 43, 3) := by decide +kernel
theorem d_R_objects_4 : decode b_R_objects 4 = .ok (.getfield 86, 3) := by decide +kernel
theorem d_R_objects_7 : decode b_R_objects 7 = .ok (.ireturn, 1) := by decide +kernel
theorem d_R_placeOfRefusal_0 : decode b_R_placeOfRefusal 0 = .ok (.aload_n 0, 1) := by decide +kernel
theorem d_R_placeOfRefusal_1 : decode b_R_placeOfRefusal 1 = .ok (.getfield 10, 3) := by decide +kernel
theorem d_R_placeOfRefusal_4 : decode b_R_placeOfRefusal 4 = .ok (.invokestatic 147, 3) := by decide +kernel
theorem d_R_placeOfRefusal_7 : decode b_R_placeOfRefusal 7 = .ok (.istore_n 2, 1) := by decide +kernel
theorem d_R_placeOfRefusal_8 : decode b_R_placeOfRefusal 8 = .ok (.iload_n 2, 1) := by decide +kernel
theorem d_R_placeOfRefusal_9 : decode b_R_placeOfRefusal 9 = .ok (.iconst (-1), 1) := by decide +kernel
theorem d_R_placeOfRefusal_10 : decode b_R_placeOfRefusal 10 = .ok (.if_icmp .ne 12, 3) := by decide +kernel
theorem d_R_placeOfRefusal_13 : decode b_R_placeOfRefusal 13 = .ok (.aload_n 0, 1) := by decide +kernel
theorem d_R_placeOfRefusal_14 : decode b_R_placeOfRefusal 14 = .ok (.getfield 10, 3) := by decide +kernel
theorem d_R_placeOfRefusal_17 : decode b_R_placeOfRefusal 17 = .ok (.aload_n 1, 1) := by decide +kernel
theorem d_R_placeOfRefusal_18 : decode b_R_placeOfRefusal 18 = .ok (.invokestatic 153, 3) := by decide +kernel
theorem d_R_placeOfRefusal_21 : decode b_R_placeOfRefusal 21 = .ok (.istore_n 2, 1) := by decide +kernel
theorem d_R_placeOfRefusal_22 : decode b_R_placeOfRefusal 22 = .ok (.iload_n 2, 1) := by decide +kernel
theorem d_R_placeOfRefusal_23 : decode b_R_placeOfRefusal 23 = .ok (.iconst (-1), 1) := by decide +kernel
theorem d_R_placeOfRefusal_24 : decode b_R_placeOfRefusal 24 = .ok (.if_icmp .ne 12, 3) := by decide +kernel
theorem d_R_placeOfRefusal_27 : decode b_R_placeOfRefusal 27 = .ok (.aload_n 0, 1) := by decide +kernel
theorem d_R_placeOfRefusal_28 : decode b_R_placeOfRefusal 28 = .ok (.getfield 10, 3) := by decide +kernel
theorem d_R_placeOfRefusal_31 : decode b_R_placeOfRefusal 31 = .ok (.aload_n 1, 1) := by decide +kernel
theorem d_R_placeOfRefusal_32 : decode b_R_placeOfRefusal 32 = .ok (.invokestatic 157, 3) := by decide +kernel
theorem d_R_placeOfRefusal_35 : decode b_R_placeOfRefusal 35 = .ok (.istore_n 2, 1) := by decide +kernel
theorem d_R_placeOfRefusal_36 : decode b_R_placeOfRefusal 36 = .ok (.iload_n 2, 1) := by decide +kernel
theorem d_R_placeOfRefusal_37 : decode b_R_placeOfRefusal 37 = .ok (.iconst (-1), 1) := by decide +kernel
theorem d_R_placeOfRefusal_38 : decode b_R_placeOfRefusal 38 = .ok (.if_icmp .ne 8, 3) := by decide +kernel
theorem d_R_placeOfRefusal_41 : decode b_R_placeOfRefusal 41 = .ok (.aload_n 1, 1) := by decide +kernel
theorem d_R_placeOfRefusal_42 : decode b_R_placeOfRefusal 42 = .ok (.invokestatic 160, 3) := by decide +kernel
theorem d_R_placeOfRefusal_45 : decode b_R_placeOfRefusal 45 = .ok (.istore_n 2, 1) := by decide +kernel
theorem d_R_placeOfRefusal_46 : decode b_R_placeOfRefusal 46 = .ok (.iload_n 2, 1) := by decide +kernel
theorem d_R_placeOfRefusal_47 : decode b_R_placeOfRefusal 47 = .ok (.iconst (-1), 1) := by decide +kernel
theorem d_R_placeOfRefusal_48 : decode b_R_placeOfRefusal 48 = .ok (.if_icmp .ne 8, 3) := by decide +kernel
theorem d_R_placeOfRefusal_51 : decode b_R_placeOfRefusal 51 = .ok (.aload_n 1, 1) := by decide +kernel
theorem d_R_placeOfRefusal_52 : decode b_R_placeOfRefusal 52 = .ok (.invokestatic 165, 3) := by decide +kernel
theorem d_R_placeOfRefusal_55 : decode b_R_placeOfRefusal 55 = .ok (.istore_n 2, 1) := by decide +kernel
theorem d_R_placeOfRefusal_56 : decode b_R_placeOfRefusal 56 = .ok (.iload_n 2, 1) := by decide +kernel
theorem d_R_placeOfRefusal_57 : decode b_R_placeOfRefusal 57 = .ok (.iconst (-1), 1) := by decide +kernel
theorem d_R_placeOfRefusal_58 : decode b_R_placeOfRefusal 58 = .ok (.if_icmp .ne 8, 3) := by decide +kernel
theorem d_R_placeOfRefusal_61 : decode b_R_placeOfRefusal 61 = .ok (.aload_n 1, 1) := by decide +kernel
theorem d_R_placeOfRefusal_62 : decode b_R_placeOfRefusal 62 = .ok (.invokestatic 168, 3) := by decide +kernel
theorem d_R_placeOfRefusal_65 : decode b_R_placeOfRefusal 65 = .ok (.istore_n 2, 1) := by decide +kernel
theorem d_R_placeOfRefusal_66 : decode b_R_placeOfRefusal 66 = .ok (.iload_n 2, 1) := by decide +kernel
theorem d_R_placeOfRefusal_67 : decode b_R_placeOfRefusal 67 = .ok (.iconst (-1), 1) := by decide +kernel
theorem d_R_placeOfRefusal_68 : decode b_R_placeOfRefusal 68 = .ok (.if_icmp .ne 8, 3) := by decide +kernel
theorem d_R_placeOfRefusal_71 : decode b_R_placeOfRefusal 71 = .ok (.aload_n 1, 1) := by decide +kernel
theorem d_R_placeOfRefusal_72 : decode b_R_placeOfRefusal 72 = .ok (.invokestatic 171, 3) := by decide +kernel
theorem d_R_placeOfRefusal_75 : decode b_R_placeOfRefusal 75 = .ok (.istore_n 2, 1) := by decide +kernel
theorem d_R_placeOfRefusal_76 : decode b_R_placeOfRefusal 76 = .ok (.iload_n 2, 1) := by decide +kernel
theorem d_R_placeOfRefusal_77 : decode b_R_placeOfRefusal 77 = .ok (.ireturn, 1) := by decide +kernel
theorem d_R_reachable_0 : decode b_R_reachable 0 = .ok (.aload_n 0, 1) := by decide +kernel
theorem d_R_reachable_1 : decode b_R_reachable 1 = .ok (.getfield 32, 3) := by decide +kernel
theorem d_R_reachable_4 : decode b_R_reachable 4 = .ok (.aload_n 0, 1) := by decide +kernel
theorem d_R_reachable_5 : decode b_R_reachable 5 = .ok (.getfield 43, 3) := by decide +kernel
theorem d_R_reachable_8 : decode b_R_reachable 8 = .ok (.invokevirtual 120, 3) := by decide +kernel
theorem d_R_reachable_11 : decode b_R_reachable 11 = .ok (.ireturn, 1) := by decide +kernel
theorem d_R_read_0 : decode b_R_read 0 = .ok (.aload_n 0, 1) := by decide +kernel
theorem d_R_read_1 : decode b_R_read 1 = .ok (.invokevirtual 78, 3) := by decide +kernel
theorem d_R_read_4 : decode b_R_read 4 = .ok (.astore_n 1, 1) := by decide +kernel
theorem d_R_read_5 : decode b_R_read 5 = .ok (.aload_n 0, 1) := by decide +kernel
theorem d_R_read_6 : decode b_R_read 6 = .ok (.aload_n 1, 1) := by decide +kernel
theorem d_R_read_7 : decode b_R_read 7 = .ok (.invokevirtual 82, 3) := by decide +kernel
theorem d_R_read_10 : decode b_R_read 10 = .ok (.istore_n 2, 1) := by decide +kernel
theorem d_R_read_11 : decode b_R_read 11 = .ok (.aload_n 0, 1) := by decide +kernel
theorem d_R_read_12 : decode b_R_read 12 = .ok (.getfield 10, 3) := by decide +kernel
theorem d_R_read_15 : decode b_R_read 15 = .ok (.iconst 0, 1) := by decide +kernel
theorem d_R_read_16 : decode b_R_read 16 = .ok (.putfield 49, 3) := by decide +kernel
theorem d_R_read_19 : decode b_R_read 19 = .ok (.iload_n 2, 1) := by decide +kernel
theorem d_R_read_20 : decode b_R_read 20 = .ok (.iconst (-1), 1) := by decide +kernel
theorem d_R_read_21 : decode b_R_read 21 = .ok (.if_icmp .ne 8, 3) := by decide +kernel
theorem d_R_read_24 : decode b_R_read 24 = .ok (.aload_n 0, 1) := by decide +kernel
theorem d_R_read_25 : decode b_R_read 25 = .ok (.aload_n 1, 1) := by decide +kernel
theorem d_R_read_26 : decode b_R_read 26 = .ok (.putfield 43, 3) := by decide +kernel
theorem d_R_read_29 : decode b_R_read 29 = .ok (.iload_n 2, 1) := by decide +kernel
theorem d_R_read_30 : decode b_R_read 30 = .ok (.ireturn, 1) := by decide +kernel
theorem d_R_same_0 : decode b_R_same 0 = .ok (.aload_n 0, 1) := by decide +kernel
theorem d_R_same_1 : decode b_R_same 1 = .ok (.getfield 43, 3) := by decide +kernel
theorem d_R_same_4 : decode b_R_same 4 = .ok (.getfield 86, 3) := by decide +kernel
theorem d_R_same_7 : decode b_R_same 7 = .ok (.ifCond .eq 35, 3) := by decide +kernel
theorem d_R_same_10 : decode b_R_same 10 = .ok (.aload_n 0, 1) := by decide +kernel
theorem d_R_same_11 : decode b_R_same 11 = .ok (.getfield 46, 3) := by decide +kernel
theorem d_R_same_14 : decode b_R_same 14 = .ok (.getfield 86, 3) := by decide +kernel
theorem d_R_same_17 : decode b_R_same 17 = .ok (.ifCond .eq 25, 3) := by decide +kernel
theorem d_R_same_20 : decode b_R_same 20 = .ok (.aload_n 0, 1) := by decide +kernel
theorem d_R_same_21 : decode b_R_same 21 = .ok (.getfield 39, 3) := by decide +kernel
theorem d_R_same_24 : decode b_R_same 24 = .ok (.aload_n 0, 1) := by decide +kernel
theorem d_R_same_25 : decode b_R_same 25 = .ok (.getfield 43, 3) := by decide +kernel
theorem d_R_same_28 : decode b_R_same 28 = .ok (.aload_n 0, 1) := by decide +kernel
theorem d_R_same_29 : decode b_R_same 29 = .ok (.getfield 46, 3) := by decide +kernel
theorem d_R_same_32 : decode b_R_same 32 = .ok (.invokevirtual 143, 3) := by decide +kernel
theorem d_R_same_35 : decode b_R_same 35 = .ok (.ifCond .eq 7, 3) := by decide +kernel
theorem d_R_same_38 : decode b_R_same 38 = .ok (.iconst 1, 1) := by decide +kernel
theorem d_R_same_39 : decode b_R_same 39 = .ok (.goto 4, 3) := by decide +kernel
theorem d_R_same_42 : decode b_R_same 42 = .ok (.iconst 0, 1) := by decide +kernel
theorem d_R_same_43 : decode b_R_same 43 = .ok (.ireturn, 1) := by decide +kernel
theorem d_R_size_0 : decode b_R_size 0 = .ok (.aload_n 0, 1) := by decide +kernel
theorem d_R_size_1 : decode b_R_size 1 = .ok (.getfield 43, 3) := by decide +kernel
theorem d_R_size_4 : decode b_R_size 4 = .ok (.iload_n 1, 1) := by decide +kernel
theorem d_R_size_5 : decode b_R_size 5 = .ok (.invokevirtual 95, 3) := by decide +kernel
theorem d_R_size_8 : decode b_R_size 8 = .ok (.ifCond .eq 15, 3) := by decide +kernel
theorem d_R_size_11 : decode b_R_size 11 = .ok (.aload_n 0, 1) := by decide +kernel
theorem d_R_size_12 : decode b_R_size 12 = .ok (.getfield 43, 3) := by decide +kernel
theorem d_R_size_15 : decode b_R_size 15 = .ok (.getfield 110, 3) := by decide +kernel
theorem d_R_size_18 : decode b_R_size 18 = .ok (.iload_n 1, 1) := by decide +kernel
theorem d_R_size_19 : decode b_R_size 19 = .ok (.iaload, 1) := by decide +kernel
theorem d_R_size_20 : decode b_R_size 20 = .ok (.goto 4, 3) := by decide +kernel
theorem d_R_size_23 : decode b_R_size 23 = .ok (.iconst (-1), 1) := by decide +kernel
theorem d_R_size_24 : decode b_R_size 24 = .ok (.ireturn, 1) := by decide +kernel
theorem d_R_spareImage_0 : decode b_R_spareImage 0 = .ok (.aload_n 0, 1) := by decide +kernel
theorem d_R_spareImage_1 : decode b_R_spareImage 1 = .ok (.getfield 19, 3) := by decide +kernel
theorem d_R_spareImage_4 : decode b_R_spareImage 4 = .ok (.aload_n 0, 1) := by decide +kernel
theorem d_R_spareImage_5 : decode b_R_spareImage 5 = .ok (.getfield 43, 3) := by decide +kernel
theorem d_R_spareImage_8 : decode b_R_spareImage 8 = .ok (.if_acmp .eq 19, 3) := by decide +kernel
theorem d_R_spareImage_11 : decode b_R_spareImage 11 = .ok (.aload_n 0, 1) := by decide +kernel
theorem d_R_spareImage_12 : decode b_R_spareImage 12 = .ok (.getfield 19, 3) := by decide +kernel
theorem d_R_spareImage_15 : decode b_R_spareImage 15 = .ok (.aload_n 0, 1) := by decide +kernel
theorem d_R_spareImage_16 : decode b_R_spareImage 16 = .ok (.getfield 46, 3) := by decide +kernel
theorem d_R_spareImage_19 : decode b_R_spareImage 19 = .ok (.if_acmp .eq 8, 3) := by decide +kernel
theorem d_R_spareImage_22 : decode b_R_spareImage 22 = .ok (.aload_n 0, 1) := by decide +kernel
theorem d_R_spareImage_23 : decode b_R_spareImage 23 = .ok (.getfield 19, 3) := by decide +kernel
theorem d_R_spareImage_26 : decode b_R_spareImage 26 = .ok (.areturn, 1) := by decide +kernel
theorem d_R_spareImage_27 : decode b_R_spareImage 27 = .ok (.aload_n 0, 1) := by decide +kernel
theorem d_R_spareImage_28 : decode b_R_spareImage 28 = .ok (.getfield 23, 3) := by decide +kernel
theorem d_R_spareImage_31 : decode b_R_spareImage 31 = .ok (.aload_n 0, 1) := by decide +kernel
theorem d_R_spareImage_32 : decode b_R_spareImage 32 = .ok (.getfield 43, 3) := by decide +kernel
theorem d_R_spareImage_35 : decode b_R_spareImage 35 = .ok (.if_acmp .eq 21, 3) := by decide +kernel
theorem d_R_spareImage_38 : decode b_R_spareImage 38 = .ok (.aload_n 0, 1) := by decide +kernel
theorem d_R_spareImage_39 : decode b_R_spareImage 39 = .ok (.getfield 23, 3) := by decide +kernel
theorem d_R_spareImage_42 : decode b_R_spareImage 42 = .ok (.aload_n 0, 1) := by decide +kernel
theorem d_R_spareImage_43 : decode b_R_spareImage 43 = .ok (.getfield 46, 3) := by decide +kernel
theorem d_R_spareImage_46 : decode b_R_spareImage 46 = .ok (.if_acmp .eq 10, 3) := by decide +kernel
theorem d_R_spareImage_49 : decode b_R_spareImage 49 = .ok (.aload_n 0, 1) := by decide +kernel
theorem d_R_spareImage_50 : decode b_R_spareImage 50 = .ok (.getfield 23, 3) := by decide +kernel
theorem d_R_spareImage_53 : decode b_R_spareImage 53 = .ok (.goto 7, 3) := by decide +kernel
theorem d_R_spareImage_56 : decode b_R_spareImage 56 = .ok (.aload_n 0, 1) := by decide +kernel
theorem d_R_spareImage_57 : decode b_R_spareImage 57 = .ok (.getfield 26, 3) := by decide +kernel
theorem d_R_spareImage_60 : decode b_R_spareImage 60 = .ok (.areturn, 1) := by decide +kernel
theorem d_R_special_0 : decode b_R_special 0 = .ok (.aload_n 0, 1) := by decide +kernel
theorem d_R_special_1 : decode b_R_special 1 = .ok (.getfield 43, 3) := by decide +kernel
theorem d_R_special_4 : decode b_R_special 4 = .ok (.iload_n 1, 1) := by decide +kernel
theorem d_R_special_5 : decode b_R_special 5 = .ok (.invokevirtual 92, 3) := by decide +kernel
theorem d_R_special_8 : decode b_R_special 8 = .ok (.ireturn, 1) := by decide +kernel
theorem d_R_words_0 : decode b_R_words 0 = .ok (.aload_n 0, 1) := by decide +kernel
theorem d_R_words_1 : decode b_R_words 1 = .ok (.getfield 43, 3) := by decide +kernel
theorem d_R_words_4 : decode b_R_words 4 = .ok (.getfield 89, 3) := by decide +kernel
theorem d_R_words_7 : decode b_R_words 7 = .ok (.ireturn, 1) := by decide +kernel
theorem d_R_write_0 : decode b_R_write 0 = .ok (.aload_n 0, 1) := by decide +kernel
theorem d_R_write_1 : decode b_R_write 1 = .ok (.getfield 43, 3) := by decide +kernel
theorem d_R_write_4 : decode b_R_write 4 = .ok (.getfield 86, 3) := by decide +kernel
theorem d_R_write_7 : decode b_R_write 7 = .ok (.ifCond .ne 5, 3) := by decide +kernel
theorem d_R_write_10 : decode b_R_write 10 = .ok (.iconst (-1), 1) := by decide +kernel
theorem d_R_write_11 : decode b_R_write 11 = .ok (.ireturn, 1) := by decide +kernel
theorem d_R_write_12 : decode b_R_write 12 = .ok (.aload_n 0, 1) := by decide +kernel
theorem d_R_write_13 : decode b_R_write 13 = .ok (.getfield 32, 3) := by decide +kernel
theorem d_R_write_16 : decode b_R_write 16 = .ok (.aload_n 0, 1) := by decide +kernel
theorem d_R_write_17 : decode b_R_write 17 = .ok (.getfield 43, 3) := by decide +kernel
theorem d_R_write_20 : decode b_R_write 20 = .ok (.invokevirtual 120, 3) := by decide +kernel
theorem d_R_write_23 : decode b_R_write 23 = .ok (.istore_n 1, 1) := by decide +kernel
theorem d_R_write_24 : decode b_R_write 24 = .ok (.aload_n 0, 1) := by decide +kernel
theorem d_R_write_25 : decode b_R_write 25 = .ok (.getfield 32, 3) := by decide +kernel
theorem d_R_write_28 : decode b_R_write 28 = .ok (.aload_n 0, 1) := by decide +kernel
theorem d_R_write_29 : decode b_R_write 29 = .ok (.getfield 43, 3) := by decide +kernel
theorem d_R_write_32 : decode b_R_write 32 = .ok (.invokevirtual 123, 3) := by decide +kernel
theorem d_R_write_35 : decode b_R_write 35 = .ok (.aload_n 0, 1) := by decide +kernel
theorem d_R_write_36 : decode b_R_write 36 = .ok (.getfield 10, 3) := by decide +kernel
theorem d_R_write_39 : decode b_R_write 39 = .ok (.iconst 0, 1) := by decide +kernel
theorem d_R_write_40 : decode b_R_write 40 = .ok (.putfield 49, 3) := by decide +kernel
theorem d_R_write_43 : decode b_R_write 43 = .ok (.aload_n 0, 1) := by decide +kernel
theorem d_R_write_44 : decode b_R_write 44 = .ok (.iload_n 1, 1) := by decide +kernel
theorem d_R_write_45 : decode b_R_write 45 = .ok (.invokevirtual 127, 3) := by decide +kernel
theorem d_R_write_48 : decode b_R_write 48 = .ok (.iconst 0, 1) := by decide +kernel
theorem d_R_write_49 : decode b_R_write 49 = .ok (.istore_n 2, 1) := by decide +kernel
theorem d_R_write_50 : decode b_R_write 50 = .ok (.iload_n 2, 1) := by decide +kernel
theorem d_R_write_51 : decode b_R_write 51 = .ok (.bipush 50, 2) := by decide +kernel
theorem d_R_write_53 : decode b_R_write 53 = .ok (.if_icmp .ge 36, 3) := by decide +kernel
theorem d_R_write_56 : decode b_R_write 56 = .ok (.aload_n 0, 1) := by decide +kernel
theorem d_R_write_57 : decode b_R_write 57 = .ok (.getfield 10, 3) := by decide +kernel
theorem d_R_write_60 : decode b_R_write 60 = .ok (.aload_n 0, 1) := by decide +kernel
theorem d_R_write_61 : decode b_R_write 61 = .ok (.getfield 32, 3) := by decide +kernel
theorem d_R_write_64 : decode b_R_write 64 = .ok (.aload_n 0, 1) := by decide +kernel
theorem d_R_write_65 : decode b_R_write 65 = .ok (.getfield 43, 3) := by decide +kernel
theorem d_R_write_68 : decode b_R_write 68 = .ok (.aload_n 0, 1) := by decide +kernel
theorem d_R_write_69 : decode b_R_write 69 = .ok (.getfield 43, 3) := by decide +kernel
theorem d_R_write_72 : decode b_R_write 72 = .ok (.getfield 130, 3) := by decide +kernel
theorem d_R_write_75 : decode b_R_write 75 = .ok (.iload_n 2, 1) := by decide +kernel
theorem d_R_write_76 : decode b_R_write 76 = .ok (.iaload, 1) := by decide +kernel
theorem d_R_write_77 : decode b_R_write 77 = .ok (.invokevirtual 133, 3) := by decide +kernel
theorem d_R_write_80 : decode b_R_write 80 = .ok (.invokevirtual 61, 3) := by decide +kernel
theorem d_R_write_83 : decode b_R_write 83 = .ok (.iinc 2 1, 3) := by decide +kernel
theorem d_R_write_86 : decode b_R_write 86 = .ok (.goto (-36), 3) := by decide +kernel
theorem d_R_write_89 : decode b_R_write 89 = .ok (.iconst 1, 1) := by decide +kernel
theorem d_R_write_90 : decode b_R_write 90 = .ok (.istore_n 2, 1) := by decide +kernel
theorem d_R_write_91 : decode b_R_write 91 = .ok (.iload_n 2, 1) := by decide +kernel
theorem d_R_write_92 : decode b_R_write 92 = .ok (.aload_n 0, 1) := by decide +kernel
theorem d_R_write_93 : decode b_R_write 93 = .ok (.getfield 43, 3) := by decide +kernel
theorem d_R_write_96 : decode b_R_write 96 = .ok (.getfield 86, 3) := by decide +kernel
theorem d_R_write_99 : decode b_R_write 99 = .ok (.if_icmp .gt 26, 3) := by decide +kernel
theorem d_R_write_102 : decode b_R_write 102 = .ok (.aload_n 0, 1) := by decide +kernel
theorem d_R_write_103 : decode b_R_write 103 = .ok (.getfield 32, 3) := by decide +kernel
theorem d_R_write_106 : decode b_R_write 106 = .ok (.getfield 137, 3) := by decide +kernel
theorem d_R_write_109 : decode b_R_write 109 = .ok (.iload_n 2, 1) := by decide +kernel
theorem d_R_write_110 : decode b_R_write 110 = .ok (.iaload, 1) := by decide +kernel
theorem d_R_write_111 : decode b_R_write 111 = .ok (.ifCond .eq 8, 3) := by decide +kernel
theorem d_R_write_114 : decode b_R_write 114 = .ok (.aload_n 0, 1) := by decide +kernel
theorem d_R_write_115 : decode b_R_write 115 = .ok (.iload_n 2, 1) := by decide +kernel
theorem d_R_write_116 : decode b_R_write 116 = .ok (.invokevirtual 140, 3) := by decide +kernel
theorem d_R_write_119 : decode b_R_write 119 = .ok (.iinc 2 1, 3) := by decide +kernel
theorem d_R_write_122 : decode b_R_write 122 = .ok (.goto (-31), 3) := by decide +kernel
theorem d_R_write_125 : decode b_R_write 125 = .ok (.aload_n 0, 1) := by decide +kernel
theorem d_R_write_126 : decode b_R_write 126 = .ok (.getfield 10, 3) := by decide +kernel
theorem d_R_write_129 : decode b_R_write 129 = .ok (.getfield 49, 3) := by decide +kernel
theorem d_R_write_132 : decode b_R_write 132 = .ok (.ireturn, 1) := by decide +kernel
theorem d_R_writeHead_0 : decode b_R_writeHead 0 = .ok (.iconst 0, 1) := by decide +kernel
theorem d_R_writeHead_1 : decode b_R_writeHead 1 = .ok (.istore_n 2, 1) := by decide +kernel
theorem d_R_writeHead_2 : decode b_R_writeHead 2 = .ok (.iload_n 2, 1) := by decide +kernel
theorem d_R_writeHead_3 : decode b_R_writeHead 3 = .ok (.iconst 4, 1) := by decide +kernel
theorem d_R_writeHead_4 : decode b_R_writeHead 4 = .ok (.if_icmp .ge 21, 3) := by decide +kernel
theorem d_R_writeHead_7 : decode b_R_writeHead 7 = .ok (.aload_n 0, 1) := by decide +kernel
theorem d_R_writeHead_8 : decode b_R_writeHead 8 = .ok (.getfield 10, 3) := by decide +kernel
theorem d_R_writeHead_11 : decode b_R_writeHead 11 = .ok (.getstatic 174, 3) := by decide +kernel
theorem d_R_writeHead_14 : decode b_R_writeHead 14 = .ok (.iload_n 2, 1) := by decide +kernel
theorem d_R_writeHead_15 : decode b_R_writeHead 15 = .ok (.iaload, 1) := by decide +kernel
theorem d_R_writeHead_16 : decode b_R_writeHead 16 = .ok (.invokevirtual 177, 3) := by decide +kernel
theorem d_R_writeHead_19 : decode b_R_writeHead 19 = .ok (.iinc 2 1, 3) := by decide +kernel
theorem d_R_writeHead_22 : decode b_R_writeHead 22 = .ok (.goto (-20), 3) := by decide +kernel
theorem d_R_writeHead_25 : decode b_R_writeHead 25 = .ok (.aload_n 0, 1) := by decide +kernel
theorem d_R_writeHead_26 : decode b_R_writeHead 26 = .ok (.getfield 10, 3) := by decide +kernel
theorem d_R_writeHead_29 : decode b_R_writeHead 29 = .ok (.aload_n 0, 1) := by decide +kernel
theorem d_R_writeHead_30 : decode b_R_writeHead 30 = .ok (.getfield 43, 3) := by decide +kernel
theorem d_R_writeHead_33 : decode b_R_writeHead 33 = .ok (.getfield 180, 3) := by decide +kernel
theorem d_R_writeHead_36 : decode b_R_writeHead 36 = .ok (.invokevirtual 177, 3) := by decide +kernel
theorem d_R_writeHead_39 : decode b_R_writeHead 39 = .ok (.aload_n 0, 1) := by decide +kernel
theorem d_R_writeHead_40 : decode b_R_writeHead 40 = .ok (.getfield 10, 3) := by decide +kernel
theorem d_R_writeHead_43 : decode b_R_writeHead 43 = .ok (.aload_n 0, 1) := by decide +kernel
theorem d_R_writeHead_44 : decode b_R_writeHead 44 = .ok (.getfield 43, 3) := by decide +kernel
theorem d_R_writeHead_47 : decode b_R_writeHead 47 = .ok (.getfield 183, 3) := by decide +kernel
theorem d_R_writeHead_50 : decode b_R_writeHead 50 = .ok (.invokevirtual 177, 3) := by decide +kernel
theorem d_R_writeHead_53 : decode b_R_writeHead 53 = .ok (.aload_n 0, 1) := by decide +kernel
theorem d_R_writeHead_54 : decode b_R_writeHead 54 = .ok (.getfield 10, 3) := by decide +kernel
theorem d_R_writeHead_57 : decode b_R_writeHead 57 = .ok (.iload_n 1, 1) := by decide +kernel
theorem d_R_writeHead_58 : decode b_R_writeHead 58 = .ok (.invokevirtual 186, 3) := by decide +kernel
theorem d_R_writeHead_61 : decode b_R_writeHead 61 = .ok (.return_, 1) := by decide +kernel
theorem d_R_writeObject_0 : decode b_R_writeObject 0 = .ok (.aload_n 0, 1) := by decide +kernel
theorem d_R_writeObject_1 : decode b_R_writeObject 1 = .ok (.getfield 10, 3) := by decide +kernel
theorem d_R_writeObject_4 : decode b_R_writeObject 4 = .ok (.aload_n 0, 1) := by decide +kernel
theorem d_R_writeObject_5 : decode b_R_writeObject 5 = .ok (.getfield 32, 3) := by decide +kernel
theorem d_R_writeObject_8 : decode b_R_writeObject 8 = .ok (.aload_n 0, 1) := by decide +kernel
theorem d_R_writeObject_9 : decode b_R_writeObject 9 = .ok (.getfield 43, 3) := by decide +kernel
theorem d_R_writeObject_12 : decode b_R_writeObject 12 = .ok (.aload_n 0, 1) := by decide +kernel
theorem d_R_writeObject_13 : decode b_R_writeObject 13 = .ok (.getfield 43, 3) := by decide +kernel
theorem d_R_writeObject_16 : decode b_R_writeObject 16 = .ok (.getfield 189, 3) := by decide +kernel
theorem d_R_writeObject_19 : decode b_R_writeObject 19 = .ok (.iload_n 1, 1) := by decide +kernel
theorem d_R_writeObject_20 : decode b_R_writeObject 20 = .ok (.iaload, 1) := by decide +kernel
theorem d_R_writeObject_21 : decode b_R_writeObject 21 = .ok (.invokevirtual 133, 3) := by decide +kernel
theorem d_R_writeObject_24 : decode b_R_writeObject 24 = .ok (.invokevirtual 61, 3) := by decide +kernel
theorem d_R_writeObject_27 : decode b_R_writeObject 27 = .ok (.aload_n 0, 1) := by decide +kernel
theorem d_R_writeObject_28 : decode b_R_writeObject 28 = .ok (.getfield 10, 3) := by decide +kernel
theorem d_R_writeObject_31 : decode b_R_writeObject 31 = .ok (.aload_n 0, 1) := by decide +kernel
theorem d_R_writeObject_32 : decode b_R_writeObject 32 = .ok (.getfield 43, 3) := by decide +kernel
theorem d_R_writeObject_35 : decode b_R_writeObject 35 = .ok (.getfield 103, 3) := by decide +kernel
theorem d_R_writeObject_38 : decode b_R_writeObject 38 = .ok (.iload_n 1, 1) := by decide +kernel
theorem d_R_writeObject_39 : decode b_R_writeObject 39 = .ok (.iaload, 1) := by decide +kernel
theorem d_R_writeObject_40 : decode b_R_writeObject 40 = .ok (.invokevirtual 177, 3) := by decide +kernel
theorem d_R_writeObject_43 : decode b_R_writeObject 43 = .ok (.aload_n 0, 1) := by decide +kernel
theorem d_R_writeObject_44 : decode b_R_writeObject 44 = .ok (.getfield 10, 3) := by decide +kernel
theorem d_R_writeObject_47 : decode b_R_writeObject 47 = .ok (.aload_n 0, 1) := by decide +kernel
theorem d_R_writeObject_48 : decode b_R_writeObject 48 = .ok (.getfield 43, 3) := by decide +kernel
theorem d_R_writeObject_51 : decode b_R_writeObject 51 = .ok (.getfield 110, 3) := by decide +kernel
theorem d_R_writeObject_54 : decode b_R_writeObject 54 = .ok (.iload_n 1, 1) := by decide +kernel
theorem d_R_writeObject_55 : decode b_R_writeObject 55 = .ok (.iaload, 1) := by decide +kernel
theorem d_R_writeObject_56 : decode b_R_writeObject 56 = .ok (.invokevirtual 186, 3) := by decide +kernel
theorem d_R_writeObject_59 : decode b_R_writeObject 59 = .ok (.iconst 0, 1) := by decide +kernel
theorem d_R_writeObject_60 : decode b_R_writeObject 60 = .ok (.istore_n 2, 1) := by decide +kernel
theorem d_R_writeObject_61 : decode b_R_writeObject 61 = .ok (.iload_n 2, 1) := by decide +kernel
theorem d_R_writeObject_62 : decode b_R_writeObject 62 = .ok (.aload_n 0, 1) := by decide +kernel
theorem d_R_writeObject_63 : decode b_R_writeObject 63 = .ok (.getfield 43, 3) := by decide +kernel
theorem d_R_writeObject_66 : decode b_R_writeObject 66 = .ok (.getfield 110, 3) := by decide +kernel
theorem d_R_writeObject_69 : decode b_R_writeObject 69 = .ok (.iload_n 1, 1) := by decide +kernel
theorem d_R_writeObject_70 : decode b_R_writeObject 70 = .ok (.iaload, 1) := by decide +kernel
theorem d_R_writeObject_71 : decode b_R_writeObject 71 = .ok (.if_icmp .ge 72, 3) := by decide +kernel
theorem d_R_writeObject_74 : decode b_R_writeObject 74 = .ok (.aload_n 0, 1) := by decide +kernel
theorem d_R_writeObject_75 : decode b_R_writeObject 75 = .ok (.getfield 43, 3) := by decide +kernel
theorem d_R_writeObject_78 : decode b_R_writeObject 78 = .ok (.getfield 192, 3) := by decide +kernel
theorem d_R_writeObject_81 : decode b_R_writeObject 81 = .ok (.aload_n 0, 1) := by decide +kernel
theorem d_R_writeObject_82 : decode b_R_writeObject 82 = .ok (.getfield 43, 3) := by decide +kernel
theorem d_R_writeObject_85 : decode b_R_writeObject 85 = .ok (.getfield 195, 3) := by decide +kernel
theorem d_R_writeObject_88 : decode b_R_writeObject 88 = .ok (.iload_n 1, 1) := by decide +kernel
theorem d_R_writeObject_89 : decode b_R_writeObject 89 = .ok (.iaload, 1) := by decide +kernel
theorem d_R_writeObject_90 : decode b_R_writeObject 90 = .ok (.iload_n 2, 1) := by decide +kernel
theorem d_R_writeObject_91 : decode b_R_writeObject 91 = .ok (.iadd, 1) := by decide +kernel
theorem d_R_writeObject_92 : decode b_R_writeObject 92 = .ok (.iaload, 1) := by decide +kernel
theorem d_R_writeObject_93 : decode b_R_writeObject 93 = .ok (.istore_n 3, 1) := by decide +kernel
theorem d_R_writeObject_94 : decode b_R_writeObject 94 = .ok (.aload_n 0, 1) := by decide +kernel
theorem d_R_writeObject_95 : decode b_R_writeObject 95 = .ok (.getfield 43, 3) := by decide +kernel
theorem d_R_writeObject_98 : decode b_R_writeObject 98 = .ok (.getfield 103, 3) := by decide +kernel
theorem d_R_writeObject_101 : decode b_R_writeObject 101 = .ok (.iload_n 1, 1) := by decide +kernel
theorem d_R_writeObject_102 : decode b_R_writeObject 102 = .ok (.iaload, 1) := by decide +kernel
theorem d_R_writeObject_103 : decode b_R_writeObject 103 = .ok (.iconst 1, 1) := by decide +kernel
theorem d_R_writeObject_104 : decode b_R_writeObject 104 = .ok (.if_icmp .ne 14, 3) := by decide +kernel
theorem d_R_writeObject_107 : decode b_R_writeObject 107 = .ok (.aload_n 0, 1) := by decide +kernel
theorem d_R_writeObject_108 : decode b_R_writeObject 108 = .ok (.getfield 10, 3) := by decide +kernel
theorem d_R_writeObject_111 : decode b_R_writeObject 111 = .ok (.iload_n 3, 1) := by decide +kernel
theorem d_R_writeObject_112 : decode b_R_writeObject 112 = .ok (.invokevirtual 177, 3) := by decide +kernel
theorem d_R_writeObject_115 : decode b_R_writeObject 115 = .ok (.goto 22, 3) := by decide +kernel
theorem d_R_writeObject_118 : decode b_R_writeObject 118 = .ok (.aload_n 0, 1) := by decide +kernel
theorem d_R_writeObject_119 : decode b_R_writeObject 119 = .ok (.getfield 10, 3) := by decide +kernel
theorem d_R_writeObject_122 : decode b_R_writeObject 122 = .ok (.aload_n 0, 1) := by decide +kernel
theorem d_R_writeObject_123 : decode b_R_writeObject 123 = .ok (.getfield 32, 3) := by decide +kernel
theorem d_R_writeObject_126 : decode b_R_writeObject 126 = .ok (.aload_n 0, 1) := by decide +kernel
theorem d_R_writeObject_127 : decode b_R_writeObject 127 = .ok (.getfield 43, 3) := by decide +kernel
theorem d_R_writeObject_130 : decode b_R_writeObject 130 = .ok (.iload_n 3, 1) := by decide +kernel
theorem d_R_writeObject_131 : decode b_R_writeObject 131 = .ok (.invokevirtual 133, 3) := by decide +kernel
theorem d_R_writeObject_134 : decode b_R_writeObject 134 = .ok (.invokevirtual 61, 3) := by decide +kernel
theorem d_R_writeObject_137 : decode b_R_writeObject 137 = .ok (.iinc 2 1, 3) := by decide +kernel
theorem d_R_writeObject_140 : decode b_R_writeObject 140 = .ok (.goto (-79), 3) := by decide +kernel
theorem d_R_writeObject_143 : decode b_R_writeObject 143 = .ok (.return_, 1) := by decide +kernel
theorem d_W_clear_0 : decode b_W_clear 0 = .ok (.aload_n 0, 1) := by decide +kernel
theorem d_W_clear_1 : decode b_W_clear 1 = .ok (.iconst 0, 1) := by decide +kernel
theorem d_W_clear_2 : decode b_W_clear 2 = .ok (.putfield 35, 3) := by decide +kernel
theorem d_W_clear_5 : decode b_W_clear 5 = .ok (.aload_n 0, 1) := by decide +kernel
theorem d_W_clear_6 : decode b_W_clear 6 = .ok (.getfield 9, 3) := by decide +kernel
theorem d_W_clear_9 : decode b_W_clear 9 = .ok (.arraylength, 1) := by decide +kernel
theorem d_W_clear_10 : decode b_W_clear 10 = .ok (.aload_n 1, 1) := by decide +kernel
theorem d_W_clear_11 : decode b_W_clear 11 = .ok (.getfield 52, 3) := by decide +kernel
theorem d_W_clear_14 : decode b_W_clear 14 = .ok (.arraylength, 1) := by decide +kernel
theorem d_W_clear_15 : decode b_W_clear 15 = .ok (.if_icmp .ge 25, 3) := by decide +kernel
theorem d_W_clear_18 : decode b_W_clear 18 = .ok (.aload_n 0, 1) := by decide +kernel
theorem d_W_clear_19 : decode b_W_clear 19 = .ok (.aload_n 1, 1) := by decide +kernel
theorem d_W_clear_20 : decode b_W_clear 20 = .ok (.getfield 52, 3) := by decide +kernel
theorem d_W_clear_23 : decode b_W_clear 23 = .ok (.arraylength, 1) := by decide +kernel
theorem d_W_clear_24 : decode b_W_clear 24 = .ok (.newarray .int, 2) := by decide +kernel
theorem d_W_clear_26 : decode b_W_clear 26 = .ok (.putfield 9, 3) := by decide +kernel
theorem d_W_clear_29 : decode b_W_clear 29 = .ok (.aload_n 0, 1) := by decide +kernel
theorem d_W_clear_30 : decode b_W_clear 30 = .ok (.aload_n 1, 1) := by decide +kernel
theorem d_W_clear_31 : decode b_W_clear 31 = .ok (.getfield 52, 3) := by decide +kernel
theorem d_W_clear_34 : decode b_W_clear 34 = .ok (.arraylength, 1) := by decide +kernel
theorem d_W_clear_35 : decode b_W_clear 35 = .ok (.newarray .int, 2) := by decide +kernel
theorem d_W_clear_37 : decode b_W_clear 37 = .ok (.putfield 15, 3) := by decide +kernel
theorem d_W_clear_40 : decode b_W_clear 40 = .ok (.aload_n 0, 1) := by decide +kernel
theorem d_W_clear_41 : decode b_W_clear 41 = .ok (.getfield 9, 3) := by decide +kernel
theorem d_W_clear_44 : decode b_W_clear 44 = .ok (.iconst 0, 1) := by decide +kernel
theorem d_W_clear_45 : decode b_W_clear 45 = .ok (.invokestatic 55, 3) := by decide +kernel
theorem d_W_clear_48 : decode b_W_clear 48 = .ok (.return_, 1) := by decide +kernel
theorem d_W_init_0 : decode b_W_init 0 = .ok (.aload_n 0, 1) := by decide +kernel
theorem d_W_init_1 : decode b_W_init 1 = .ok (.invokespecial 3, 3) := by decide +kernel
theorem d_W_init_4 : decode b_W_init 4 = .ok (.aload_n 0, 1) := by decide +kernel
theorem d_W_init_5 : decode b_W_init 5 = .ok (.bipush 64, 2) := by decide +kernel
theorem d_W_init_7 : decode b_W_init 7 = .ok (.newarray .int, 2) := by decide +kernel
theorem d_W_init_9 : decode b_W_init 9 = .ok (.putfield 9, 3) := by decide +kernel
theorem d_W_init_12 : decode b_W_init 12 = .ok (.aload_n 0, 1) := by decide +kernel
theorem d_W_init_13 : decode b_W_init 13 = .ok (.bipush 64, 2) := by decide +kernel
theorem d_W_init_15 : decode b_W_init 15 = .ok (.newarray .int, 2) := by decide +kernel
theorem d_W_init_17 : decode b_W_init 17 = .ok (.putfield 15, 3) := by decide +kernel
theorem d_W_init_20 : decode b_W_init 20 = .ok (.return_, 1) := by decide +kernel
theorem d_W_numberAnew_0 : decode b_W_numberAnew 0 = .ok (.iconst 0, 1) := by decide +kernel
theorem d_W_numberAnew_1 : decode b_W_numberAnew 1 = .ok (.istore_n 2, 1) := by decide +kernel
theorem d_W_numberAnew_2 : decode b_W_numberAnew 2 = .ok (.iconst 1, 1) := by decide +kernel
theorem d_W_numberAnew_3 : decode b_W_numberAnew 3 = .ok (.istore_n 3, 1) := by decide +kernel
theorem d_W_numberAnew_4 : decode b_W_numberAnew 4 = .ok (.iload_n 3, 1) := by decide +kernel
theorem d_W_numberAnew_5 : decode b_W_numberAnew 5 = .ok (.aload_n 1, 1) := by decide +kernel
theorem d_W_numberAnew_6 : decode b_W_numberAnew 6 = .ok (.getfield 39, 3) := by decide +kernel
theorem d_W_numberAnew_9 : decode b_W_numberAnew 9 = .ok (.if_icmp .gt 28, 3) := by decide +kernel
theorem d_W_numberAnew_12 : decode b_W_numberAnew 12 = .ok (.aload_n 0, 1) := by decide +kernel
theorem d_W_numberAnew_13 : decode b_W_numberAnew 13 = .ok (.getfield 9, 3) := by decide +kernel
theorem d_W_numberAnew_16 : decode b_W_numberAnew 16 = .ok (.iload_n 3, 1) := by decide +kernel
theorem d_W_numberAnew_17 : decode b_W_numberAnew 17 = .ok (.iaload, 1) := by decide +kernel
theorem d_W_numberAnew_18 : decode b_W_numberAnew 18 = .ok (.ifCond .eq 13, 3) := by decide +kernel
theorem d_W_numberAnew_21 : decode b_W_numberAnew 21 = .ok (.iinc 2 1, 3) := by decide +kernel
theorem d_W_numberAnew_24 : decode b_W_numberAnew 24 = .ok (.aload_n 0, 1) := by decide +kernel
theorem d_W_numberAnew_25 : decode b_W_numberAnew 25 = .ok (.getfield 9, 3) := by decide +kernel
theorem d_W_numberAnew_28 : decode b_W_numberAnew 28 = .ok (.iload_n 3, 1) := by decide +kernel
theorem d_W_numberAnew_29 : decode b_W_numberAnew 29 = .ok (.iload_n 2, 1) := by decide +kernel
theorem d_W_numberAnew_30 : decode b_W_numberAnew 30 = .ok (.iastore, 1) := by decide +kernel
theorem d_W_numberAnew_31 : decode b_W_numberAnew 31 = .ok (.iinc 3 1, 3) := by decide +kernel
theorem d_W_numberAnew_34 : decode b_W_numberAnew 34 = .ok (.goto (-30), 3) := by decide +kernel
theorem d_W_numberAnew_37 : decode b_W_numberAnew 37 = .ok (.return_, 1) := by decide +kernel
theorem d_W_reach_0 : decode b_W_reach 0 = .ok (.aload_n 0, 1) := by decide +kernel
theorem d_W_reach_1 : decode b_W_reach 1 = .ok (.aload_n 1, 1) := by decide +kernel
theorem d_W_reach_2 : decode b_W_reach 2 = .ok (.invokevirtual 18, 3) := by decide +kernel
theorem d_W_reach_5 : decode b_W_reach 5 = .ok (.iconst 0, 1) := by decide +kernel
theorem d_W_reach_6 : decode b_W_reach 6 = .ok (.istore_n 2, 1) := by decide +kernel
theorem d_W_reach_7 : decode b_W_reach 7 = .ok (.iload_n 2, 1) := by decide +kernel
theorem d_W_reach_8 : decode b_W_reach 8 = .ok (.bipush 50, 2) := by decide +kernel
theorem d_W_reach_10 : decode b_W_reach 10 = .ok (.if_icmp .ge 23, 3) := by decide +kernel
theorem d_W_reach_13 : decode b_W_reach 13 = .ok (.aload_n 0, 1) := by decide +kernel
theorem d_W_reach_14 : decode b_W_reach 14 = .ok (.aload_n 1, 1) := by decide +kernel
theorem d_W_reach_15 : decode b_W_reach 15 = .ok (.aload_n 1, 1) := by decide +kernel
theorem d_W_reach_16 : decode b_W_reach 16 = .ok (.getfield 22, 3) := by decide +kernel
theorem d_W_reach_19 : decode b_W_reach 19 = .ok (.iload_n 2, 1) := by decide +kernel
theorem d_W_reach_20 : decode b_W_reach 20 = .ok (.iaload, 1) := by decide +kernel
theorem d_W_reach_21 : decode b_W_reach 21 = .ok (.invokevirtual 27, 3) := by decide +kernel
theorem d_W_reach_24 : decode b_W_reach 24 = .ok (.invokevirtual 31, 3) := by decide +kernel
theorem d_W_reach_27 : decode b_W_reach 27 = .ok (.iinc 2 1, 3) := by decide +kernel
theorem d_W_reach_30 : decode b_W_reach 30 = .ok (.goto (-23), 3) := by decide +kernel
theorem d_W_reach_33 : decode b_W_reach 33 = .ok (.iconst 0, 1) := by decide +kernel
theorem d_W_reach_34 : decode b_W_reach 34 = .ok (.istore_n 2, 1) := by decide +kernel
theorem d_W_reach_35 : decode b_W_reach 35 = .ok (.iload_n 2, 1) := by decide +kernel
theorem d_W_reach_36 : decode b_W_reach 36 = .ok (.aload_n 0, 1) := by decide +kernel
theorem d_W_reach_37 : decode b_W_reach 37 = .ok (.getfield 35, 3) := by decide +kernel
theorem d_W_reach_40 : decode b_W_reach 40 = .ok (.if_icmp .ge 75, 3) := by decide +kernel
theorem d_W_reach_43 : decode b_W_reach 43 = .ok (.iload_n 2, 1) := by decide +kernel
theorem d_W_reach_44 : decode b_W_reach 44 = .ok (.aload_n 1, 1) := by decide +kernel
theorem d_W_reach_45 : decode b_W_reach 45 = .ok (.getfield 39, 3) := by decide +kernel
theorem d_W_reach_48 : decode b_W_reach 48 = .ok (.if_icmp .ge 67, 3) := by decide +kernel
theorem d_W_reach_51 : decode b_W_reach 51 = .ok (.aload_n 0, 1) := by decide +kernel
theorem d_W_reach_52 : decode b_W_reach 52 = .ok (.getfield 15, 3) := by decide +kernel
theorem d_W_reach_55 : decode b_W_reach 55 = .ok (.iload_n 2, 1) := by decide +kernel
theorem d_W_reach_56 : decode b_W_reach 56 = .ok (.iaload, 1) := by decide +kernel
theorem d_W_reach_57 : decode b_W_reach 57 = .ok (.istore_n 3, 1) := by decide +kernel
theorem d_W_reach_58 : decode b_W_reach 58 = .ok (.aload_n 0, 1) := by decide +kernel
theorem d_W_reach_59 : decode b_W_reach 59 = .ok (.aload_n 1, 1) := by decide +kernel
theorem d_W_reach_60 : decode b_W_reach 60 = .ok (.aload_n 1, 1) := by decide +kernel
theorem d_W_reach_61 : decode b_W_reach 61 = .ok (.iload_n 3, 1) := by decide +kernel
theorem d_W_reach_62 : decode b_W_reach 62 = .ok (.invokevirtual 42, 3) := by decide +kernel
theorem d_W_reach_65 : decode b_W_reach 65 = .ok (.invokevirtual 27, 3) := by decide +kernel
theorem d_W_reach_68 : decode b_W_reach 68 = .ok (.invokevirtual 31, 3) := by decide +kernel
theorem d_W_reach_71 : decode b_W_reach 71 = .ok (.aload_n 1, 1) := by decide +kernel
theorem d_W_reach_72 : decode b_W_reach 72 = .ok (.iload_n 3, 1) := by decide +kernel
theorem d_W_reach_73 : decode b_W_reach 73 = .ok (.invokevirtual 45, 3) := by decide +kernel
theorem d_W_reach_76 : decode b_W_reach 76 = .ok (.istore 4, 2) := by decide +kernel
theorem d_W_reach_78 : decode b_W_reach 78 = .ok (.iconst 0, 1) := by decide +kernel
theorem d_W_reach_79 : decode b_W_reach 79 = .ok (.istore 5, 2) := by decide +kernel
theorem d_W_reach_81 : decode b_W_reach 81 = .ok (.iload 5, 2) := by decide +kernel
theorem d_W_reach_83 : decode b_W_reach 83 = .ok (.iload 4, 2) := by decide +kernel
theorem d_W_reach_85 : decode b_W_reach 85 = .ok (.if_icmp .ge 24, 3) := by decide +kernel
theorem d_W_reach_88 : decode b_W_reach 88 = .ok (.aload_n 0, 1) := by decide +kernel
theorem d_W_reach_89 : decode b_W_reach 89 = .ok (.aload_n 1, 1) := by decide +kernel
theorem d_W_reach_90 : decode b_W_reach 90 = .ok (.aload_n 1, 1) := by decide +kernel
theorem d_W_reach_91 : decode b_W_reach 91 = .ok (.iload_n 3, 1) := by decide +kernel
theorem d_W_reach_92 : decode b_W_reach 92 = .ok (.iload 5, 2) := by decide +kernel
theorem d_W_reach_94 : decode b_W_reach 94 = .ok (.invokevirtual 48, 3) := by decide +kernel
theorem d_W_reach_97 : decode b_W_reach 97 = .ok (.invokevirtual 27, 3) := by decide +kernel
theorem d_W_reach_100 : decode b_W_reach 100 = .ok (.invokevirtual 31, 3) := by decide +kernel
theorem d_W_reach_103 : decode b_W_reach 103 = .ok (.iinc 5 1, 3) := by decide +kernel
theorem d_W_reach_106 : decode b_W_reach 106 = .ok (.goto (-25), 3) := by decide +kernel
theorem d_W_reach_109 : decode b_W_reach 109 = .ok (.iinc 2 1, 3) := by decide +kernel
theorem d_W_reach_112 : decode b_W_reach 112 = .ok (.goto (-77), 3) := by decide +kernel
theorem d_W_reach_115 : decode b_W_reach 115 = .ok (.aload_n 0, 1) := by decide +kernel
theorem d_W_reach_116 : decode b_W_reach 116 = .ok (.getfield 35, 3) := by decide +kernel
theorem d_W_reach_119 : decode b_W_reach 119 = .ok (.ireturn, 1) := by decide +kernel
theorem d_W_renumbered_0 : decode b_W_renumbered 0 = .ok (.aload_n 1, 1) := by decide +kernel
theorem d_W_renumbered_1 : decode b_W_renumbered 1 = .ok (.iload_n 2, 1) := by decide +kernel
theorem d_W_renumbered_2 : decode b_W_renumbered 2 = .ok (.invokevirtual 27, 3) := by decide +kernel
theorem d_W_renumbered_5 : decode b_W_renumbered 5 = .ok (.istore_n 3, 1) := by decide +kernel
theorem d_W_renumbered_6 : decode b_W_renumbered 6 = .ok (.iload_n 3, 1) := by decide +kernel
theorem d_W_renumbered_7 : decode b_W_renumbered 7 = .ok (.ifCond .ne 7, 3) := by decide +kernel
theorem d_W_renumbered_10 : decode b_W_renumbered 10 = .ok (.iload_n 2, 1) := by decide +kernel
theorem d_W_renumbered_11 : decode b_W_renumbered 11 = .ok (.goto 11, 3) := by decide +kernel
theorem d_W_renumbered_14 : decode b_W_renumbered 14 = .ok (.iconst 2, 1) := by decide +kernel
theorem d_W_renumbered_15 : decode b_W_renumbered 15 = .ok (.aload_n 0, 1) := by decide +kernel
theorem d_W_renumbered_16 : decode b_W_renumbered 16 = .ok (.getfield 9, 3) := by decide +kernel
theorem d_W_renumbered_19 : decode b_W_renumbered 19 = .ok (.iload_n 3, 1) := by decide +kernel
theorem d_W_renumbered_20 : decode b_W_renumbered 20 = .ok (.iaload, 1) := by decide +kernel
theorem d_W_renumbered_21 : decode b_W_renumbered 21 = .ok (.imul, 1) := by decide +kernel
theorem d_W_renumbered_22 : decode b_W_renumbered 22 = .ok (.ireturn, 1) := by decide +kernel
theorem d_W_visit_0 : decode b_W_visit 0 = .ok (.iload_n 1, 1) := by decide +kernel
theorem d_W_visit_1 : decode b_W_visit 1 = .ok (.ifCond .eq 39, 3) := by decide +kernel
theorem d_W_visit_4 : decode b_W_visit 4 = .ok (.aload_n 0, 1) := by decide +kernel
theorem d_W_visit_5 : decode b_W_visit 5 = .ok (.getfield 9, 3) := by decide +kernel
theorem d_W_visit_8 : decode b_W_visit 8 = .ok (.iload_n 1, 1) := by decide +kernel
theorem d_W_visit_9 : decode b_W_visit 9 = .ok (.iaload, 1) := by decide +kernel
theorem d_W_visit_10 : decode b_W_visit 10 = .ok (.ifCond .ne 30, 3) := by decide +kernel
theorem d_W_visit_13 : decode b_W_visit 13 = .ok (.aload_n 0, 1) := by decide +kernel
theorem d_W_visit_14 : decode b_W_visit 14 = .ok (.getfield 9, 3) := by decide +kernel
theorem d_W_visit_17 : decode b_W_visit 17 = .ok (.iload_n 1, 1) := by decide +kernel
theorem d_W_visit_18 : decode b_W_visit 18 = .ok (.iload_n 1, 1) := by decide +kernel
theorem d_W_visit_19 : decode b_W_visit 19 = .ok (.iastore, 1) := by decide +kernel
theorem d_W_visit_20 : decode b_W_visit 20 = .ok (.aload_n 0, 1) := by decide +kernel
theorem d_W_visit_21 : decode b_W_visit 21 = .ok (.getfield 15, 3) := by decide +kernel
theorem d_W_visit_24 : decode b_W_visit 24 = .ok (.aload_n 0, 1) := by decide +kernel
theorem d_W_visit_25 : decode b_W_visit 25 = .ok (.getfield 35, 3) := by decide +kernel
theorem d_W_visit_28 : decode b_W_visit 28 = .ok (.iload_n 1, 1) := by decide +kernel
theorem d_W_visit_29 : decode b_W_visit 29 = .ok (.iastore, 1) := by decide +kernel
theorem d_W_visit_30 : decode b_W_visit 30 = .ok (.aload_n 0, 1) := by decide +kernel
theorem d_W_visit_31 : decode b_W_visit 31 = .ok (.dup, 1) := by decide +kernel
theorem d_W_visit_32 : decode b_W_visit 32 = .ok (.getfield 35, 3) := by decide +kernel
theorem d_W_visit_35 : decode b_W_visit 35 = .ok (.iconst 1, 1) := by decide +kernel
theorem d_W_visit_36 : decode b_W_visit 36 = .ok (.iadd, 1) := by decide +kernel
theorem d_W_visit_37 : decode b_W_visit 37 = .ok (.putfield 35, 3) := by decide +kernel
theorem d_W_visit_40 : decode b_W_visit 40 = .ok (.return_, 1) := by decide +kernel
theorem d_M_byteAt_0 : decode b_M_byteAt 0 = .ok (.aload_n 0, 1) := by decide +kernel
theorem d_M_byteAt_1 : decode b_M_byteAt 1 = .ok (.iconst 0, 1) := by decide +kernel
theorem d_M_byteAt_2 : decode b_M_byteAt 2 = .ok (.putfield 36, 3) := by decide +kernel
theorem d_M_byteAt_5 : decode b_M_byteAt 5 = .ok (.aload_n 0, 1) := by decide +kernel
theorem d_M_byteAt_6 : decode b_M_byteAt 6 = .ok (.iload_n 1, 1) := by decide +kernel
theorem d_M_byteAt_7 : decode b_M_byteAt 7 = .ok (.invokevirtual 156, 3) := by decide +kernel
theorem d_M_byteAt_10 : decode b_M_byteAt 10 = .ok (.ifCond .eq 44, 3) := by decide +kernel
theorem d_M_byteAt_13 : decode b_M_byteAt 13 = .ok (.aload_n 0, 1) := by decide +kernel
theorem d_M_byteAt_14 : decode b_M_byteAt 14 = .ok (.getfield 14, 3) := by decide +kernel
theorem d_M_byteAt_17 : decode b_M_byteAt 17 = .ok (.aload_n 0, 1) := by decide +kernel
theorem d_M_byteAt_18 : decode b_M_byteAt 18 = .ok (.getfield 20, 3) := by decide +kernel
theorem d_M_byteAt_21 : decode b_M_byteAt 21 = .ok (.iload_n 1, 1) := by decide +kernel
theorem d_M_byteAt_22 : decode b_M_byteAt 22 = .ok (.iaload, 1) := by decide +kernel
theorem d_M_byteAt_23 : decode b_M_byteAt 23 = .ok (.invokestatic 50, 3) := by decide +kernel
theorem d_M_byteAt_26 : decode b_M_byteAt 26 = .ok (.ifCond .eq 28, 3) := by decide +kernel
theorem d_M_byteAt_29 : decode b_M_byteAt 29 = .ok (.iload_n 2, 1) := by decide +kernel
theorem d_M_byteAt_30 : decode b_M_byteAt 30 = .ok (.ifCond .lt 24, 3) := by decide +kernel
theorem d_M_byteAt_33 : decode b_M_byteAt 33 = .ok (.iload_n 2, 1) := by decide +kernel
theorem d_M_byteAt_34 : decode b_M_byteAt 34 = .ok (.aload_n 0, 1) := by decide +kernel
theorem d_M_byteAt_35 : decode b_M_byteAt 35 = .ok (.getfield 14, 3) := by decide +kernel
theorem d_M_byteAt_38 : decode b_M_byteAt 38 = .ok (.aload_n 0, 1) := by decide +kernel
theorem d_M_byteAt_39 : decode b_M_byteAt 39 = .ok (.getfield 20, 3) := by decide +kernel
theorem d_M_byteAt_42 : decode b_M_byteAt 42 = .ok (.iload_n 1, 1) := by decide +kernel
theorem d_M_byteAt_43 : decode b_M_byteAt 43 = .ok (.iaload, 1) := by decide +kernel
theorem d_M_byteAt_44 : decode b_M_byteAt 44 = .ok (.invokestatic 54, 3) := by decide +kernel
theorem d_M_byteAt_47 : decode b_M_byteAt 47 = .ok (.if_icmp .ge 7, 3) := by decide +kernel
theorem d_M_byteAt_50 : decode b_M_byteAt 50 = .ok (.iconst 1, 1) := by decide +kernel
theorem d_M_byteAt_51 : decode b_M_byteAt 51 = .ok (.goto 4, 3) := by decide +kernel
theorem d_M_byteAt_54 : decode b_M_byteAt 54 = .ok (.iconst 0, 1) := by decide +kernel
theorem d_M_byteAt_55 : decode b_M_byteAt 55 = .ok (.istore_n 3, 1) := by decide +kernel
theorem d_M_byteAt_56 : decode b_M_byteAt 56 = .ok (.iload_n 3, 1) := by decide +kernel
theorem d_M_byteAt_57 : decode b_M_byteAt 57 = .ok (.ifCond .eq 26, 3) := by decide +kernel
theorem d_M_byteAt_60 : decode b_M_byteAt 60 = .ok (.aload_n 0, 1) := by decide +kernel
theorem d_M_byteAt_61 : decode b_M_byteAt 61 = .ok (.getfield 14, 3) := by decide +kernel
theorem d_M_byteAt_64 : decode b_M_byteAt 64 = .ok (.aload_n 0, 1) := by decide +kernel
theorem d_M_byteAt_65 : decode b_M_byteAt 65 = .ok (.getfield 20, 3) := by decide +kernel
theorem d_M_byteAt_68 : decode b_M_byteAt 68 = .ok (.iload_n 1, 1) := by decide +kernel
theorem d_M_byteAt_69 : decode b_M_byteAt 69 = .ok (.iaload, 1) := by decide +kernel
theorem d_M_byteAt_70 : decode b_M_byteAt 70 = .ok (.bipush 7, 2) := by decide +kernel
theorem d_M_byteAt_72 : decode b_M_byteAt 72 = .ok (.iadd, 1) := by decide +kernel
theorem d_M_byteAt_73 : decode b_M_byteAt 73 = .ok (.iload_n 2, 1) := by decide +kernel
theorem d_M_byteAt_74 : decode b_M_byteAt 74 = .ok (.iadd, 1) := by decide +kernel
theorem d_M_byteAt_75 : decode b_M_byteAt 75 = .ok (.baload, 1) := by decide +kernel
theorem d_M_byteAt_76 : decode b_M_byteAt 76 = .ok (.sipush 255, 3) := by decide +kernel
theorem d_M_byteAt_79 : decode b_M_byteAt 79 = .ok (.iand, 1) := by decide +kernel
theorem d_M_byteAt_80 : decode b_M_byteAt 80 = .ok (.goto 4, 3) := by decide +kernel
theorem d_M_byteAt_83 : decode b_M_byteAt 83 = .ok (.iconst (-1), 1) := by decide +kernel
theorem d_M_byteAt_84 : decode b_M_byteAt 84 = .ok (.ireturn, 1) := by decide +kernel
theorem d_M_came_0 : decode b_M_came 0 = .ok (.aload_n 0, 1) := by decide +kernel
theorem d_M_came_1 : decode b_M_came 1 = .ok (.iconst 0, 1) := by decide +kernel
theorem d_M_came_2 : decode b_M_came 2 = .ok (.putfield 36, 3) := by decide +kernel
theorem d_M_came_5 : decode b_M_came 5 = .ok (.iload_n 1, 1) := by decide +kernel
theorem d_M_came_6 : decode b_M_came 6 = .ok (.ifCond .lt 11, 3) := by decide +kernel
theorem d_M_came_9 : decode b_M_came 9 = .ok (.iload_n 1, 1) := by decide +kernel
theorem d_M_came_10 : decode b_M_came 10 = .ok (.aload_n 0, 1) := by decide +kernel
theorem d_M_came_11 : decode b_M_came 11 = .ok (.getfield 40, 3) := by decide +kernel
theorem d_M_came_14 : decode b_M_came 14 = .ok (.if_icmp .lt 7, 3) := by decide +kernel
theorem d_M_came_17 : decode b_M_came 17 = .ok (.iconst (-1), 1) := by decide +kernel
theorem d_M_came_18 : decode b_M_came 18 = .ok (.goto 13, 3) := by decide +kernel
theorem d_M_came_21 : decode b_M_came 21 = .ok (.aload_n 0, 1) := by decide +kernel
theorem d_M_came_22 : decode b_M_came 22 = .ok (.getfield 8, 3) := by decide +kernel
theorem d_M_came_25 : decode b_M_came 25 = .ok (.iload_n 1, 1) := by decide +kernel
theorem d_M_came_26 : decode b_M_came 26 = .ok (.baload, 1) := by decide +kernel
theorem d_M_came_27 : decode b_M_came 27 = .ok (.sipush 255, 3) := by decide +kernel
theorem d_M_came_30 : decode b_M_came 30 = .ok (.iand, 1) := by decide +kernel
theorem d_M_came_31 : decode b_M_came 31 = .ok (.ireturn, 1) := by decide +kernel
