theorem d_M_change_0 : decode b_M_change 0 = .ok (.aload_n 0, 1) := by decide +kernel
theorem d_M_change_1 : decode b_M_change 1 = .ok (.iconst 0, 1) := by decide +kernel
theorem d_M_change_2 : decode b_M_change 2 = .ok (.putfield 36, 3) := by decide +kernel
theorem d_M_change_5 : decode b_M_change 5 = .ok (.iload_n 1, 1) := by decide +kernel
theorem d_M_change_6 : decode b_M_change 6 = .ok (.ifCond .lt 22, 3) := by decide +kernel
theorem d_M_change_9 : decode b_M_change 9 = .ok (.iload_n 1, 1) := by decide +kernel
theorem d_M_change_10 : decode b_M_change 10 = .ok (.aload_n 0, 1) := by decide +kernel
theorem d_M_change_11 : decode b_M_change 11 = .ok (.getfield 40, 3) := by decide +kernel
theorem d_M_change_14 : decode b_M_change 14 = .ok (.if_icmp .ge 14, 3) := by decide +kernel
theorem d_M_change_17 : decode b_M_change 17 = .ok (.iload_n 2, 1) := by decide +kernel
theorem d_M_change_18 : decode b_M_change 18 = .ok (.ifCond .lt 10, 3) := by decide +kernel
theorem d_M_change_21 : decode b_M_change 21 = .ok (.iload_n 2, 1) := by decide +kernel
theorem d_M_change_22 : decode b_M_change 22 = .ok (.sipush 255, 3) := by decide +kernel
theorem d_M_change_25 : decode b_M_change 25 = .ok (.if_icmp .le 5, 3) := by decide +kernel
theorem d_M_change_28 : decode b_M_change 28 = .ok (.iconst (-1), 1) := by decide +kernel
theorem d_M_change_29 : decode b_M_change 29 = .ok (.ireturn, 1) := by decide +kernel
theorem d_M_change_30 : decode b_M_change 30 = .ok (.aload_n 0, 1) := by decide +kernel
theorem d_M_change_31 : decode b_M_change 31 = .ok (.getfield 8, 3) := by decide +kernel
theorem d_M_change_34 : decode b_M_change 34 = .ok (.iload_n 1, 1) := by decide +kernel
theorem d_M_change_35 : decode b_M_change 35 = .ok (.baload, 1) := by decide +kernel
theorem d_M_change_36 : decode b_M_change 36 = .ok (.sipush 255, 3) := by decide +kernel
theorem d_M_change_39 : decode b_M_change 39 = .ok (.iand, 1) := by decide +kernel
theorem d_M_change_40 : decode b_M_change 40 = .ok (.istore_n 3, 1) := by decide +kernel
theorem d_M_change_41 : decode b_M_change 41 = .ok (.aload_n 0, 1) := by decide +kernel
theorem d_M_change_42 : decode b_M_change 42 = .ok (.getfield 8, 3) := by decide +kernel
theorem d_M_change_45 : decode b_M_change 45 = .ok (.iload_n 1, 1) := by decide +kernel
theorem d_M_change_46 : decode b_M_change 46 = .ok (.iload_n 2, 1) := by decide +kernel
theorem d_M_change_47 : decode b_M_change 47 = .ok (.i2b, 1) := by decide +kernel
theorem d_M_change_48 : decode b_M_change 48 = .ok (.bastore, 1) := by decide +kernel
theorem d_M_change_49 : decode b_M_change 49 = .ok (.iload_n 3, 1) := by decide +kernel
theorem d_M_change_50 : decode b_M_change 50 = .ok (.ireturn, 1) := by decide +kernel
theorem d_M_classOf_0 : decode b_M_classOf 0 = .ok (.aload_n 0, 1) := by decide +kernel
theorem d_M_classOf_1 : decode b_M_classOf 1 = .ok (.iconst 0, 1) := by decide +kernel
theorem d_M_classOf_2 : decode b_M_classOf 2 = .ok (.putfield 36, 3) := by decide +kernel
theorem d_M_classOf_5 : decode b_M_classOf 5 = .ok (.aload_n 0, 1) := by decide +kernel
theorem d_M_classOf_6 : decode b_M_classOf 6 = .ok (.iload_n 1, 1) := by decide +kernel
theorem d_M_classOf_7 : decode b_M_classOf 7 = .ok (.invokevirtual 156, 3) := by decide +kernel
theorem d_M_classOf_10 : decode b_M_classOf 10 = .ok (.ifCond .eq 19, 3) := by decide +kernel
theorem d_M_classOf_13 : decode b_M_classOf 13 = .ok (.aload_n 0, 1) := by decide +kernel
theorem d_M_classOf_14 : decode b_M_classOf 14 = .ok (.getfield 14, 3) := by decide +kernel
theorem d_M_classOf_17 : decode b_M_classOf 17 = .ok (.aload_n 0, 1) := by decide +kernel
theorem d_M_classOf_18 : decode b_M_classOf 18 = .ok (.getfield 20, 3) := by decide +kernel
theorem d_M_classOf_21 : decode b_M_classOf 21 = .ok (.iload_n 1, 1) := by decide +kernel
theorem d_M_classOf_22 : decode b_M_classOf 22 = .ok (.iaload, 1) := by decide +kernel
theorem d_M_classOf_23 : decode b_M_classOf 23 = .ok (.invokestatic 47, 3) := by decide +kernel
theorem d_M_classOf_26 : decode b_M_classOf 26 = .ok (.goto 4, 3) := by decide +kernel
theorem d_M_classOf_29 : decode b_M_classOf 29 = .ok (.iconst 0, 1) := by decide +kernel
theorem d_M_classOf_30 : decode b_M_classOf 30 = .ok (.ireturn, 1) := by decide +kernel
theorem d_M_depth_0 : decode b_M_depth 0 = .ok (.aload_n 0, 1) := by decide +kernel
theorem d_M_depth_1 : decode b_M_depth 1 = .ok (.iload_n 1, 1) := by decide +kernel
theorem d_M_depth_2 : decode b_M_depth 2 = .ok (.iconst 0, 1) := by decide +kernel
theorem d_M_depth_3 : decode b_M_depth 3 = .ok (.invokevirtual 72, 3) := by decide +kernel
theorem d_M_depth_6 : decode b_M_depth 6 = .ok (.bipush 10, 2) := by decide +kernel
theorem d_M_depth_8 : decode b_M_depth 8 = .ok (.ishr, 1) := by decide +kernel
theorem d_M_depth_9 : decode b_M_depth 9 = .ok (.bipush 63, 2) := by decide +kernel
theorem d_M_depth_11 : decode b_M_depth 11 = .ok (.iand, 1) := by decide +kernel
theorem d_M_depth_12 : decode b_M_depth 12 = .ok (.ireturn, 1) := by decide +kernel
theorem d_M_end_0 : decode b_M_end 0 = .ok (.aload_n 0, 1) := by decide +kernel
theorem d_M_end_1 : decode b_M_end 1 = .ok (.iload_n 1, 1) := by decide +kernel
theorem d_M_end_2 : decode b_M_end 2 = .ok (.ifCond .lt 11, 3) := by decide +kernel
theorem d_M_end_5 : decode b_M_end 5 = .ok (.iload_n 1, 1) := by decide +kernel
theorem d_M_end_6 : decode b_M_end 6 = .ok (.aload_n 0, 1) := by decide +kernel
theorem d_M_end_7 : decode b_M_end 7 = .ok (.getfield 40, 3) := by decide +kernel
theorem d_M_end_10 : decode b_M_end 10 = .ok (.if_icmp .le 7, 3) := by decide +kernel
theorem d_M_end_13 : decode b_M_end 13 = .ok (.iconst 1, 1) := by decide +kernel
theorem d_M_end_14 : decode b_M_end 14 = .ok (.goto 4, 3) := by decide +kernel
theorem d_M_end_17 : decode b_M_end 17 = .ok (.iconst 0, 1) := by decide +kernel
theorem d_M_end_18 : decode b_M_end 18 = .ok (.putfield 36, 3) := by decide +kernel
theorem d_M_end_21 : decode b_M_end 21 = .ok (.aload_n 0, 1) := by decide +kernel
theorem d_M_end_22 : decode b_M_end 22 = .ok (.getfield 36, 3) := by decide +kernel
theorem d_M_end_25 : decode b_M_end 25 = .ok (.ifCond .le 5, 3) := by decide +kernel
theorem d_M_end_28 : decode b_M_end 28 = .ok (.iconst 0, 1) := by decide +kernel
theorem d_M_end_29 : decode b_M_end 29 = .ok (.ireturn, 1) := by decide +kernel
theorem d_M_end_30 : decode b_M_end 30 = .ok (.aload_n 0, 1) := by decide +kernel
theorem d_M_end_31 : decode b_M_end 31 = .ok (.getfield 40, 3) := by decide +kernel
theorem d_M_end_34 : decode b_M_end 34 = .ok (.istore_n 2, 1) := by decide +kernel
theorem d_M_end_35 : decode b_M_end 35 = .ok (.aload_n 0, 1) := by decide +kernel
theorem d_M_end_36 : decode b_M_end 36 = .ok (.iload_n 1, 1) := by decide +kernel
theorem d_M_end_37 : decode b_M_end 37 = .ok (.putfield 40, 3) := by decide +kernel
theorem d_M_end_40 : decode b_M_end 40 = .ok (.iload_n 2, 1) := by decide +kernel
theorem d_M_end_41 : decode b_M_end 41 = .ok (.ireturn, 1) := by decide +kernel
theorem d_M_endAt_0 : decode b_M_endAt 0 = .ok (.iload_n 1, 1) := by decide +kernel
theorem d_M_endAt_1 : decode b_M_endAt 1 = .ok (.bipush 7, 2) := by decide +kernel
theorem d_M_endAt_3 : decode b_M_endAt 3 = .ok (.iadd, 1) := by decide +kernel
theorem d_M_endAt_4 : decode b_M_endAt 4 = .ok (.aload_n 0, 1) := by decide +kernel
theorem d_M_endAt_5 : decode b_M_endAt 5 = .ok (.iload_n 1, 1) := by decide +kernel
theorem d_M_endAt_6 : decode b_M_endAt 6 = .ok (.invokestatic 50, 3) := by decide +kernel
theorem d_M_endAt_9 : decode b_M_endAt 9 = .ok (.ifCond .eq 7, 3) := by decide +kernel
theorem d_M_endAt_12 : decode b_M_endAt 12 = .ok (.iconst 1, 1) := by decide +kernel
theorem d_M_endAt_13 : decode b_M_endAt 13 = .ok (.goto 4, 3) := by decide +kernel
theorem d_M_endAt_16 : decode b_M_endAt 16 = .ok (.iconst 4, 1) := by decide +kernel
theorem d_M_endAt_17 : decode b_M_endAt 17 = .ok (.aload_n 0, 1) := by decide +kernel
theorem d_M_endAt_18 : decode b_M_endAt 18 = .ok (.iload_n 1, 1) := by decide +kernel
theorem d_M_endAt_19 : decode b_M_endAt 19 = .ok (.invokestatic 54, 3) := by decide +kernel
theorem d_M_endAt_22 : decode b_M_endAt 22 = .ok (.imul, 1) := by decide +kernel
theorem d_M_endAt_23 : decode b_M_endAt 23 = .ok (.iadd, 1) := by decide +kernel
theorem d_M_endAt_24 : decode b_M_endAt 24 = .ok (.ireturn, 1) := by decide +kernel
theorem d_M_feed_0 : decode b_M_feed 0 = .ok (.aload_n 0, 1) := by decide +kernel
theorem d_M_feed_1 : decode b_M_feed 1 = .ok (.aload_n 0, 1) := by decide +kernel
theorem d_M_feed_2 : decode b_M_feed 2 = .ok (.getfield 40, 3) := by decide +kernel
theorem d_M_feed_5 : decode b_M_feed 5 = .ok (.bipush 20, 2) := by decide +kernel
theorem d_M_feed_7 : decode b_M_feed 7 = .ok (.iadd, 1) := by decide +kernel
theorem d_M_feed_8 : decode b_M_feed 8 = .ok (.ldc 7, 2) := by decide +kernel
theorem d_M_feed_10 : decode b_M_feed 10 = .ok (.if_icmp .le 7, 3) := by decide +kernel
theorem d_M_feed_13 : decode b_M_feed 13 = .ok (.iconst 1, 1) := by decide +kernel
theorem d_M_feed_14 : decode b_M_feed 14 = .ok (.goto 4, 3) := by decide +kernel
theorem d_M_feed_17 : decode b_M_feed 17 = .ok (.iconst 0, 1) := by decide +kernel
theorem d_M_feed_18 : decode b_M_feed 18 = .ok (.putfield 36, 3) := by decide +kernel
theorem d_M_feed_21 : decode b_M_feed 21 = .ok (.iconst 0, 1) := by decide +kernel
theorem d_M_feed_22 : decode b_M_feed 22 = .ok (.istore 6, 2) := by decide +kernel
theorem d_M_feed_24 : decode b_M_feed 24 = .ok (.iload 6, 2) := by decide +kernel
theorem d_M_feed_26 : decode b_M_feed 26 = .ok (.bipush 20, 2) := by decide +kernel
theorem d_M_feed_28 : decode b_M_feed 28 = .ok (.if_icmp .ge 97, 3) := by decide +kernel
theorem d_M_feed_31 : decode b_M_feed 31 = .ok (.aload_n 0, 1) := by decide +kernel
theorem d_M_feed_32 : decode b_M_feed 32 = .ok (.getfield 36, 3) := by decide +kernel
theorem d_M_feed_35 : decode b_M_feed 35 = .ok (.ifCond .ne 90, 3) := by decide +kernel
theorem d_M_feed_38 : decode b_M_feed 38 = .ok (.iload 6, 2) := by decide +kernel
theorem d_M_feed_40 : decode b_M_feed 40 = .ok (.iconst 4, 1) := by decide +kernel
theorem d_M_feed_41 : decode b_M_feed 41 = .ok (.if_icmp .ge 7, 3) := by decide +kernel
theorem d_M_feed_44 : decode b_M_feed 44 = .ok (.iload_n 1, 1) := by decide +kernel
theorem d_M_feed_45 : decode b_M_feed 45 = .ok (.goto 39, 3) := by decide +kernel
theorem d_M_feed_48 : decode b_M_feed 48 = .ok (.iload 6, 2) := by decide +kernel
theorem d_M_feed_50 : decode b_M_feed 50 = .ok (.bipush 8, 2) := by decide +kernel
theorem d_M_feed_52 : decode b_M_feed 52 = .ok (.if_icmp .ge 7, 3) := by decide +kernel
theorem d_M_feed_55 : decode b_M_feed 55 = .ok (.iload_n 2, 1) := by decide +kernel
theorem d_M_feed_56 : decode b_M_feed 56 = .ok (.goto 28, 3) := by decide +kernel
theorem d_M_feed_59 : decode b_M_feed 59 = .ok (.iload 6, 2) := by decide +kernel
theorem d_M_feed_61 : decode b_M_feed 61 = .ok (.bipush 12, 2) := by decide +kernel
theorem d_M_feed_63 : decode b_M_feed 63 = .ok (.if_icmp .ge 7, 3) := by decide +kernel
theorem d_M_feed_66 : decode b_M_feed 66 = .ok (.iload_n 3, 1) := by decide +kernel
theorem d_M_feed_67 : decode b_M_feed 67 = .ok (.goto 17, 3) := by decide +kernel
theorem d_M_feed_70 : decode b_M_feed 70 = .ok (.iload 6, 2) := by decide +kernel
theorem d_M_feed_72 : decode b_M_feed 72 = .ok (.bipush 16, 2) := by decide +kernel
theorem d_M_feed_74 : decode b_M_feed 74 = .ok (.if_icmp .ge 8, 3) := by decide +kernel
theorem d_M_feed_77 : decode b_M_feed 77 = .ok (.iload 4, 2) := by decide +kernel
theorem d_M_feed_79 : decode b_M_feed 79 = .ok (.goto 5, 3) := by decide +kernel
theorem d_M_feed_82 : decode b_M_feed 82 = .ok (.iload 5, 2) := by decide +kernel
theorem d_M_feed_84 : decode b_M_feed 84 = .ok (.istore 7, 2) := by decide +kernel
theorem d_M_feed_86 : decode b_M_feed 86 = .ok (.aload_n 0, 1) := by decide +kernel
theorem d_M_feed_87 : decode b_M_feed 87 = .ok (.getfield 8, 3) := by decide +kernel
theorem d_M_feed_90 : decode b_M_feed 90 = .ok (.aload_n 0, 1) := by decide +kernel
theorem d_M_feed_91 : decode b_M_feed 91 = .ok (.getfield 40, 3) := by decide +kernel
theorem d_M_feed_94 : decode b_M_feed 94 = .ok (.iload 7, 2) := by decide +kernel
theorem d_M_feed_96 : decode b_M_feed 96 = .ok (.bipush 24, 2) := by decide +kernel
theorem d_M_feed_98 : decode b_M_feed 98 = .ok (.bipush 8, 2) := by decide +kernel
theorem d_M_feed_100 : decode b_M_feed 100 = .ok (.iload 6, 2) := by decide +kernel
theorem d_M_feed_102 : decode b_M_feed 102 = .ok (.iconst 4, 1) := by decide +kernel
theorem d_M_feed_103 : decode b_M_feed 103 = .ok (.irem, 1) := by decide +kernel
theorem d_M_feed_104 : decode b_M_feed 104 = .ok (.imul, 1) := by decide +kernel
theorem d_M_feed_105 : decode b_M_feed 105 = .ok (.isub, 1) := by decide +kernel
theorem d_M_feed_106 : decode b_M_feed 106 = .ok (.ishr, 1) := by decide +kernel
theorem d_M_feed_107 : decode b_M_feed 107 = .ok (.i2b, 1) := by decide +kernel
theorem d_M_feed_108 : decode b_M_feed 108 = .ok (.bastore, 1) := by decide +kernel
theorem d_M_feed_109 : decode b_M_feed 109 = .ok (.aload_n 0, 1) := by decide +kernel
theorem d_M_feed_110 : decode b_M_feed 110 = .ok (.dup, 1) := by decide +kernel
theorem d_M_feed_111 : decode b_M_feed 111 = .ok (.getfield 40, 3) := by decide +kernel
theorem d_M_feed_114 : decode b_M_feed 114 = .ok (.iconst 1, 1) := by decide +kernel
theorem d_M_feed_115 : decode b_M_feed 115 = .ok (.iadd, 1) := by decide +kernel
theorem d_M_feed_116 : decode b_M_feed 116 = .ok (.putfield 40, 3) := by decide +kernel
theorem d_M_feed_119 : decode b_M_feed 119 = .ok (.iinc 6 1, 3) := by decide +kernel
theorem d_M_feed_122 : decode b_M_feed 122 = .ok (.goto (-98), 3) := by decide +kernel
theorem d_M_feed_125 : decode b_M_feed 125 = .ok (.return_, 1) := by decide +kernel
theorem d_M_field_0 : decode b_M_field 0 = .ok (.aload_n 0, 1) := by decide +kernel
theorem d_M_field_1 : decode b_M_field 1 = .ok (.iconst 0, 1) := by decide +kernel
theorem d_M_field_2 : decode b_M_field 2 = .ok (.putfield 36, 3) := by decide +kernel
theorem d_M_field_5 : decode b_M_field 5 = .ok (.aload_n 0, 1) := by decide +kernel
theorem d_M_field_6 : decode b_M_field 6 = .ok (.iload_n 1, 1) := by decide +kernel
theorem d_M_field_7 : decode b_M_field 7 = .ok (.invokevirtual 156, 3) := by decide +kernel
theorem d_M_field_10 : decode b_M_field 10 = .ok (.ifCond .eq 44, 3) := by decide +kernel
theorem d_M_field_13 : decode b_M_field 13 = .ok (.aload_n 0, 1) := by decide +kernel
theorem d_M_field_14 : decode b_M_field 14 = .ok (.getfield 14, 3) := by decide +kernel
theorem d_M_field_17 : decode b_M_field 17 = .ok (.aload_n 0, 1) := by decide +kernel
theorem d_M_field_18 : decode b_M_field 18 = .ok (.getfield 20, 3) := by decide +kernel
theorem d_M_field_21 : decode b_M_field 21 = .ok (.iload_n 1, 1) := by decide +kernel
theorem d_M_field_22 : decode b_M_field 22 = .ok (.iaload, 1) := by decide +kernel
theorem d_M_field_23 : decode b_M_field 23 = .ok (.invokestatic 50, 3) := by decide +kernel
theorem d_M_field_26 : decode b_M_field 26 = .ok (.ifCond .ne 28, 3) := by decide +kernel
theorem d_M_field_29 : decode b_M_field 29 = .ok (.iload_n 2, 1) := by decide +kernel
theorem d_M_field_30 : decode b_M_field 30 = .ok (.ifCond .lt 24, 3) := by decide +kernel
theorem d_M_field_33 : decode b_M_field 33 = .ok (.iload_n 2, 1) := by decide +kernel
theorem d_M_field_34 : decode b_M_field 34 = .ok (.aload_n 0, 1) := by decide +kernel
theorem d_M_field_35 : decode b_M_field 35 = .ok (.getfield 14, 3) := by decide +kernel
theorem d_M_field_38 : decode b_M_field 38 = .ok (.aload_n 0, 1) := by decide +kernel
theorem d_M_field_39 : decode b_M_field 39 = .ok (.getfield 20, 3) := by decide +kernel
theorem d_M_field_42 : decode b_M_field 42 = .ok (.iload_n 1, 1) := by decide +kernel
theorem d_M_field_43 : decode b_M_field 43 = .ok (.iaload, 1) := by decide +kernel
theorem d_M_field_44 : decode b_M_field 44 = .ok (.invokestatic 54, 3) := by decide +kernel
theorem d_M_field_47 : decode b_M_field 47 = .ok (.if_icmp .ge 7, 3) := by decide +kernel
theorem d_M_field_50 : decode b_M_field 50 = .ok (.iconst 1, 1) := by decide +kernel
theorem d_M_field_51 : decode b_M_field 51 = .ok (.goto 4, 3) := by decide +kernel
theorem d_M_field_54 : decode b_M_field 54 = .ok (.iconst 0, 1) := by decide +kernel
theorem d_M_field_55 : decode b_M_field 55 = .ok (.istore_n 3, 1) := by decide +kernel
theorem d_M_field_56 : decode b_M_field 56 = .ok (.iload_n 3, 1) := by decide +kernel
theorem d_M_field_57 : decode b_M_field 57 = .ok (.ifCond .eq 20, 3) := by decide +kernel
theorem d_M_field_60 : decode b_M_field 60 = .ok (.aload_n 0, 1) := by decide +kernel
theorem d_M_field_61 : decode b_M_field 61 = .ok (.getfield 14, 3) := by decide +kernel
theorem d_M_field_64 : decode b_M_field 64 = .ok (.aload_n 0, 1) := by decide +kernel
theorem d_M_field_65 : decode b_M_field 65 = .ok (.getfield 20, 3) := by decide +kernel
theorem d_M_field_68 : decode b_M_field 68 = .ok (.iload_n 1, 1) := by decide +kernel
theorem d_M_field_69 : decode b_M_field 69 = .ok (.iaload, 1) := by decide +kernel
theorem d_M_field_70 : decode b_M_field 70 = .ok (.iload_n 2, 1) := by decide +kernel
theorem d_M_field_71 : decode b_M_field 71 = .ok (.invokestatic 61, 3) := by decide +kernel
theorem d_M_field_74 : decode b_M_field 74 = .ok (.goto 4, 3) := by decide +kernel
theorem d_M_field_77 : decode b_M_field 77 = .ok (.iconst 0, 1) := by decide +kernel
theorem d_M_field_78 : decode b_M_field 78 = .ok (.ireturn, 1) := by decide +kernel
theorem d_M_fieldAt_0 : decode b_M_fieldAt 0 = .ok (.aload_n 0, 1) := by decide +kernel
theorem d_M_fieldAt_1 : decode b_M_fieldAt 1 = .ok (.iload_n 1, 1) := by decide +kernel
theorem d_M_fieldAt_2 : decode b_M_fieldAt 2 = .ok (.bipush 7, 2) := by decide +kernel
theorem d_M_fieldAt_4 : decode b_M_fieldAt 4 = .ok (.iadd, 1) := by decide +kernel
theorem d_M_fieldAt_5 : decode b_M_fieldAt 5 = .ok (.iconst 4, 1) := by decide +kernel
theorem d_M_fieldAt_6 : decode b_M_fieldAt 6 = .ok (.iload_n 2, 1) := by decide +kernel
theorem d_M_fieldAt_7 : decode b_M_fieldAt 7 = .ok (.imul, 1) := by decide +kernel
theorem d_M_fieldAt_8 : decode b_M_fieldAt 8 = .ok (.iadd, 1) := by decide +kernel
theorem d_M_fieldAt_9 : decode b_M_fieldAt 9 = .ok (.invokestatic 47, 3) := by decide +kernel
theorem d_M_fieldAt_12 : decode b_M_fieldAt 12 = .ok (.ireturn, 1) := by decide +kernel
theorem d_M_fieldOf_0 : decode b_M_fieldOf 0 = .ok (.aload_n 0, 1) := by decide +kernel
theorem d_M_fieldOf_1 : decode b_M_fieldOf 1 = .ok (.getfield 8, 3) := by decide +kernel
theorem d_M_fieldOf_4 : decode b_M_fieldOf 4 = .ok (.aload_n 0, 1) := by decide +kernel
theorem d_M_fieldOf_5 : decode b_M_fieldOf 5 = .ok (.getfield 20, 3) := by decide +kernel
theorem d_M_fieldOf_8 : decode b_M_fieldOf 8 = .ok (.iload_n 1, 1) := by decide +kernel
theorem d_M_fieldOf_9 : decode b_M_fieldOf 9 = .ok (.iconst 2, 1) := by decide +kernel
theorem d_M_fieldOf_10 : decode b_M_fieldOf 10 = .ok (.idiv, 1) := by decide +kernel
theorem d_M_fieldOf_11 : decode b_M_fieldOf 11 = .ok (.iaload, 1) := by decide +kernel
theorem d_M_fieldOf_12 : decode b_M_fieldOf 12 = .ok (.iload_n 2, 1) := by decide +kernel
theorem d_M_fieldOf_13 : decode b_M_fieldOf 13 = .ok (.invokestatic 61, 3) := by decide +kernel
theorem d_M_fieldOf_16 : decode b_M_fieldOf 16 = .ok (.ireturn, 1) := by decide +kernel
theorem d_M_goTogether_0 : decode b_M_goTogether 0 = .ok (.aload_n 0, 1) := by decide +kernel
theorem d_M_goTogether_1 : decode b_M_goTogether 1 = .ok (.getfield 20, 3) := by decide +kernel
theorem d_M_goTogether_4 : decode b_M_goTogether 4 = .ok (.iload_n 1, 1) := by decide +kernel
theorem d_M_goTogether_5 : decode b_M_goTogether 5 = .ok (.iaload, 1) := by decide +kernel
theorem d_M_goTogether_6 : decode b_M_goTogether 6 = .ok (.istore_n 2, 1) := by decide +kernel
theorem d_M_goTogether_7 : decode b_M_goTogether 7 = .ok (.aload_n 0, 1) := by decide +kernel
theorem d_M_goTogether_8 : decode b_M_goTogether 8 = .ok (.getfield 24, 3) := by decide +kernel
theorem d_M_goTogether_11 : decode b_M_goTogether 11 = .ok (.aload_n 0, 1) := by decide +kernel
theorem d_M_goTogether_12 : decode b_M_goTogether 12 = .ok (.getfield 30, 3) := by decide +kernel
theorem d_M_goTogether_15 : decode b_M_goTogether 15 = .ok (.iload_n 1, 1) := by decide +kernel
theorem d_M_goTogether_16 : decode b_M_goTogether 16 = .ok (.iaload, 1) := by decide +kernel
theorem d_M_goTogether_17 : decode b_M_goTogether 17 = .ok (.iaload, 1) := by decide +kernel
theorem d_M_goTogether_18 : decode b_M_goTogether 18 = .ok (.istore_n 3, 1) := by decide +kernel
theorem d_M_goTogether_19 : decode b_M_goTogether 19 = .ok (.aload_n 0, 1) := by decide +kernel
theorem d_M_goTogether_20 : decode b_M_goTogether 20 = .ok (.aload_n 0, 1) := by decide +kernel
theorem d_M_goTogether_21 : decode b_M_goTogether 21 = .ok (.getfield 14, 3) := by decide +kernel
theorem d_M_goTogether_24 : decode b_M_goTogether 24 = .ok (.iload_n 2, 1) := by decide +kernel
theorem d_M_goTogether_25 : decode b_M_goTogether 25 = .ok (.invokestatic 47, 3) := by decide +kernel
theorem d_M_goTogether_28 : decode b_M_goTogether 28 = .ok (.aload_n 0, 1) := by decide +kernel
theorem d_M_goTogether_29 : decode b_M_goTogether 29 = .ok (.getfield 17, 3) := by decide +kernel
theorem d_M_goTogether_32 : decode b_M_goTogether 32 = .ok (.iload_n 3, 1) := by decide +kernel
theorem d_M_goTogether_33 : decode b_M_goTogether 33 = .ok (.invokestatic 47, 3) := by decide +kernel
theorem d_M_goTogether_36 : decode b_M_goTogether 36 = .ok (.invokevirtual 179, 3) := by decide +kernel
theorem d_M_goTogether_39 : decode b_M_goTogether 39 = .ok (.ifCond .eq 45, 3) := by decide +kernel
theorem d_M_goTogether_42 : decode b_M_goTogether 42 = .ok (.aload_n 0, 1) := by decide +kernel
theorem d_M_goTogether_43 : decode b_M_goTogether 43 = .ok (.getfield 14, 3) := by decide +kernel
theorem d_M_goTogether_46 : decode b_M_goTogether 46 = .ok (.iload_n 2, 1) := by decide +kernel
theorem d_M_goTogether_47 : decode b_M_goTogether 47 = .ok (.iconst 4, 1) := by decide +kernel
theorem d_M_goTogether_48 : decode b_M_goTogether 48 = .ok (.iadd, 1) := by decide +kernel
theorem d_M_goTogether_49 : decode b_M_goTogether 49 = .ok (.baload, 1) := by decide +kernel
theorem d_M_goTogether_50 : decode b_M_goTogether 50 = .ok (.aload_n 0, 1) := by decide +kernel
theorem d_M_goTogether_51 : decode b_M_goTogether 51 = .ok (.getfield 17, 3) := by decide +kernel
theorem d_M_goTogether_54 : decode b_M_goTogether 54 = .ok (.iload_n 3, 1) := by decide +kernel
theorem d_M_goTogether_55 : decode b_M_goTogether 55 = .ok (.iconst 4, 1) := by decide +kernel
theorem d_M_goTogether_56 : decode b_M_goTogether 56 = .ok (.iadd, 1) := by decide +kernel
theorem d_M_goTogether_57 : decode b_M_goTogether 57 = .ok (.baload, 1) := by decide +kernel
theorem d_M_goTogether_58 : decode b_M_goTogether 58 = .ok (.if_icmp .ne 26, 3) := by decide +kernel
theorem d_M_goTogether_61 : decode b_M_goTogether 61 = .ok (.aload_n 0, 1) := by decide +kernel
theorem d_M_goTogether_62 : decode b_M_goTogether 62 = .ok (.getfield 14, 3) := by decide +kernel
theorem d_M_goTogether_65 : decode b_M_goTogether 65 = .ok (.iload_n 2, 1) := by decide +kernel
theorem d_M_goTogether_66 : decode b_M_goTogether 66 = .ok (.invokestatic 54, 3) := by decide +kernel
theorem d_M_goTogether_69 : decode b_M_goTogether 69 = .ok (.aload_n 0, 1) := by decide +kernel
theorem d_M_goTogether_70 : decode b_M_goTogether 70 = .ok (.getfield 17, 3) := by decide +kernel
theorem d_M_goTogether_73 : decode b_M_goTogether 73 = .ok (.iload_n 3, 1) := by decide +kernel
theorem d_M_goTogether_74 : decode b_M_goTogether 74 = .ok (.invokestatic 54, 3) := by decide +kernel
theorem d_M_goTogether_77 : decode b_M_goTogether 77 = .ok (.if_icmp .ne 7, 3) := by decide +kernel
theorem d_M_goTogether_80 : decode b_M_goTogether 80 = .ok (.iconst 1, 1) := by decide +kernel
theorem d_M_goTogether_81 : decode b_M_goTogether 81 = .ok (.goto 4, 3) := by decide +kernel
theorem d_M_goTogether_84 : decode b_M_goTogether 84 = .ok (.iconst 0, 1) := by decide +kernel
theorem d_M_goTogether_85 : decode b_M_goTogether 85 = .ok (.istore 4, 2) := by decide +kernel
theorem d_M_goTogether_87 : decode b_M_goTogether 87 = .ok (.iconst 0, 1) := by decide +kernel
theorem d_M_goTogether_88 : decode b_M_goTogether 88 = .ok (.istore 5, 2) := by decide +kernel
theorem d_M_goTogether_90 : decode b_M_goTogether 90 = .ok (.iload 4, 2) := by decide +kernel
theorem d_M_goTogether_92 : decode b_M_goTogether 92 = .ok (.ifCond .eq 94, 3) := by decide +kernel
theorem d_M_goTogether_95 : decode b_M_goTogether 95 = .ok (.iload 5, 2) := by decide +kernel
theorem d_M_goTogether_97 : decode b_M_goTogether 97 = .ok (.aload_n 0, 1) := by decide +kernel
theorem d_M_goTogether_98 : decode b_M_goTogether 98 = .ok (.getfield 14, 3) := by decide +kernel
theorem d_M_goTogether_101 : decode b_M_goTogether 101 = .ok (.iload_n 2, 1) := by decide +kernel
theorem d_M_goTogether_102 : decode b_M_goTogether 102 = .ok (.invokestatic 54, 3) := by decide +kernel
theorem d_M_goTogether_105 : decode b_M_goTogether 105 = .ok (.if_icmp .ge 81, 3) := by decide +kernel
theorem d_M_goTogether_108 : decode b_M_goTogether 108 = .ok (.aload_n 0, 1) := by decide +kernel
theorem d_M_goTogether_109 : decode b_M_goTogether 109 = .ok (.getfield 14, 3) := by decide +kernel
theorem d_M_goTogether_112 : decode b_M_goTogether 112 = .ok (.iload_n 2, 1) := by decide +kernel
theorem d_M_goTogether_113 : decode b_M_goTogether 113 = .ok (.invokestatic 50, 3) := by decide +kernel
theorem d_M_goTogether_116 : decode b_M_goTogether 116 = .ok (.ifCond .eq 38, 3) := by decide +kernel
theorem d_M_goTogether_119 : decode b_M_goTogether 119 = .ok (.aload_n 0, 1) := by decide +kernel
theorem d_M_goTogether_120 : decode b_M_goTogether 120 = .ok (.getfield 14, 3) := by decide +kernel
theorem d_M_goTogether_123 : decode b_M_goTogether 123 = .ok (.iload_n 2, 1) := by decide +kernel
theorem d_M_goTogether_124 : decode b_M_goTogether 124 = .ok (.bipush 7, 2) := by decide +kernel
theorem d_M_goTogether_126 : decode b_M_goTogether 126 = .ok (.iadd, 1) := by decide +kernel
theorem d_M_goTogether_127 : decode b_M_goTogether 127 = .ok (.iload 5, 2) := by decide +kernel
theorem d_M_goTogether_129 : decode b_M_goTogether 129 = .ok (.iadd, 1) := by decide +kernel
theorem d_M_goTogether_130 : decode b_M_goTogether 130 = .ok (.baload, 1) := by decide +kernel
theorem d_M_goTogether_131 : decode b_M_goTogether 131 = .ok (.aload_n 0, 1) := by decide +kernel
theorem d_M_goTogether_132 : decode b_M_goTogether 132 = .ok (.getfield 17, 3) := by decide +kernel
theorem d_M_goTogether_135 : decode b_M_goTogether 135 = .ok (.iload_n 3, 1) := by decide +kernel
theorem d_M_goTogether_136 : decode b_M_goTogether 136 = .ok (.bipush 7, 2) := by decide +kernel
theorem d_M_goTogether_138 : decode b_M_goTogether 138 = .ok (.iadd, 1) := by decide +kernel
theorem d_M_goTogether_139 : decode b_M_goTogether 139 = .ok (.iload 5, 2) := by decide +kernel
theorem d_M_goTogether_141 : decode b_M_goTogether 141 = .ok (.iadd, 1) := by decide +kernel
theorem d_M_goTogether_142 : decode b_M_goTogether 142 = .ok (.baload, 1) := by decide +kernel
theorem d_M_goTogether_143 : decode b_M_goTogether 143 = .ok (.if_icmp .ne 7, 3) := by decide +kernel
theorem d_M_goTogether_146 : decode b_M_goTogether 146 = .ok (.iconst 1, 1) := by decide +kernel
theorem d_M_goTogether_147 : decode b_M_goTogether 147 = .ok (.goto 31, 3) := by decide +kernel
theorem d_M_goTogether_150 : decode b_M_goTogether 150 = .ok (.iconst 0, 1) := by decide +kernel
theorem d_M_goTogether_151 : decode b_M_goTogether 151 = .ok (.goto 27, 3) := by decide +kernel
theorem d_M_goTogether_154 : decode b_M_goTogether 154 = .ok (.aload_n 0, 1) := by decide +kernel
theorem d_M_goTogether_155 : decode b_M_goTogether 155 = .ok (.aload_n 0, 1) := by decide +kernel
theorem d_M_goTogether_156 : decode b_M_goTogether 156 = .ok (.getfield 14, 3) := by decide +kernel
theorem d_M_goTogether_159 : decode b_M_goTogether 159 = .ok (.iload_n 2, 1) := by decide +kernel
theorem d_M_goTogether_160 : decode b_M_goTogether 160 = .ok (.iload 5, 2) := by decide +kernel
theorem d_M_goTogether_162 : decode b_M_goTogether 162 = .ok (.invokestatic 61, 3) := by decide +kernel
theorem d_M_goTogether_165 : decode b_M_goTogether 165 = .ok (.aload_n 0, 1) := by decide +kernel
theorem d_M_goTogether_166 : decode b_M_goTogether 166 = .ok (.getfield 17, 3) := by decide +kernel
theorem d_M_goTogether_169 : decode b_M_goTogether 169 = .ok (.iload_n 3, 1) := by decide +kernel
theorem d_M_goTogether_170 : decode b_M_goTogether 170 = .ok (.iload 5, 2) := by decide +kernel
theorem d_M_goTogether_172 : decode b_M_goTogether 172 = .ok (.invokestatic 61, 3) := by decide +kernel
theorem d_M_goTogether_175 : decode b_M_goTogether 175 = .ok (.invokevirtual 179, 3) := by decide +kernel
theorem d_M_goTogether_178 : decode b_M_goTogether 178 = .ok (.istore 4, 2) := by decide +kernel
theorem d_M_goTogether_180 : decode b_M_goTogether 180 = .ok (.iinc 5 1, 3) := by decide +kernel
theorem d_M_goTogether_183 : decode b_M_goTogether 183 = .ok (.goto (-93), 3) := by decide +kernel
theorem d_M_goTogether_186 : decode b_M_goTogether 186 = .ok (.iload 4, 2) := by decide +kernel
theorem d_M_goTogether_188 : decode b_M_goTogether 188 = .ok (.ireturn, 1) := by decide +kernel
theorem d_M_goes_0 : decode b_M_goes 0 = .ok (.iload_n 1, 1) := by decide +kernel
theorem d_M_goes_1 : decode b_M_goes 1 = .ok (.invokestatic 57, 3) := by decide +kernel
theorem d_M_goes_4 : decode b_M_goes 4 = .ok (.ifCond .eq 10, 3) := by decide +kernel
theorem d_M_goes_7 : decode b_M_goes 7 = .ok (.iload_n 2, 1) := by decide +kernel
theorem d_M_goes_8 : decode b_M_goes 8 = .ok (.invokestatic 57, 3) := by decide +kernel
theorem d_M_goes_11 : decode b_M_goes 11 = .ok (.ifCond .ne 14, 3) := by decide +kernel
theorem d_M_goes_14 : decode b_M_goes 14 = .ok (.iload_n 1, 1) := by decide +kernel
theorem d_M_goes_15 : decode b_M_goes 15 = .ok (.iload_n 2, 1) := by decide +kernel
theorem d_M_goes_16 : decode b_M_goes 16 = .ok (.if_icmp .ne 7, 3) := by decide +kernel
theorem d_M_goes_19 : decode b_M_goes 19 = .ok (.iconst 1, 1) := by decide +kernel
theorem d_M_goes_20 : decode b_M_goes 20 = .ok (.goto 4, 3) := by decide +kernel
theorem d_M_goes_23 : decode b_M_goes 23 = .ok (.iconst 0, 1) := by decide +kernel
theorem d_M_goes_24 : decode b_M_goes 24 = .ok (.ireturn, 1) := by decide +kernel
theorem d_M_goes_25 : decode b_M_goes 25 = .ok (.aload_n 0, 1) := by decide +kernel
theorem d_M_goes_26 : decode b_M_goes 26 = .ok (.getfield 30, 3) := by decide +kernel
theorem d_M_goes_29 : decode b_M_goes 29 = .ok (.iload_n 1, 1) := by decide +kernel
theorem d_M_goes_30 : decode b_M_goes 30 = .ok (.iconst 2, 1) := by decide +kernel
theorem d_M_goes_31 : decode b_M_goes 31 = .ok (.idiv, 1) := by decide +kernel
theorem d_M_goes_32 : decode b_M_goes 32 = .ok (.iaload, 1) := by decide +kernel
theorem d_M_goes_33 : decode b_M_goes 33 = .ok (.ifCond .ne 58, 3) := by decide +kernel
theorem d_M_goes_36 : decode b_M_goes 36 = .ok (.aload_n 0, 1) := by decide +kernel
theorem d_M_goes_37 : decode b_M_goes 37 = .ok (.getfield 33, 3) := by decide +kernel
theorem d_M_goes_40 : decode b_M_goes 40 = .ok (.iload_n 2, 1) := by decide +kernel
theorem d_M_goes_41 : decode b_M_goes 41 = .ok (.iconst 2, 1) := by decide +kernel
theorem d_M_goes_42 : decode b_M_goes 42 = .ok (.idiv, 1) := by decide +kernel
theorem d_M_goes_43 : decode b_M_goes 43 = .ok (.iaload, 1) := by decide +kernel
theorem d_M_goes_44 : decode b_M_goes 44 = .ok (.ifCond .ne 47, 3) := by decide +kernel
theorem d_M_goes_47 : decode b_M_goes 47 = .ok (.aload_n 0, 1) := by decide +kernel
theorem d_M_goes_48 : decode b_M_goes 48 = .ok (.getfield 30, 3) := by decide +kernel
theorem d_M_goes_51 : decode b_M_goes 51 = .ok (.iload_n 1, 1) := by decide +kernel
theorem d_M_goes_52 : decode b_M_goes 52 = .ok (.iconst 2, 1) := by decide +kernel
theorem d_M_goes_53 : decode b_M_goes 53 = .ok (.idiv, 1) := by decide +kernel
theorem d_M_goes_54 : decode b_M_goes 54 = .ok (.iload_n 2, 1) := by decide +kernel
theorem d_M_goes_55 : decode b_M_goes 55 = .ok (.iconst 2, 1) := by decide +kernel
theorem d_M_goes_56 : decode b_M_goes 56 = .ok (.idiv, 1) := by decide +kernel
theorem d_M_goes_57 : decode b_M_goes 57 = .ok (.iastore, 1) := by decide +kernel
theorem d_M_goes_58 : decode b_M_goes 58 = .ok (.aload_n 0, 1) := by decide +kernel
theorem d_M_goes_59 : decode b_M_goes 59 = .ok (.getfield 33, 3) := by decide +kernel
theorem d_M_goes_62 : decode b_M_goes 62 = .ok (.iload_n 2, 1) := by decide +kernel
theorem d_M_goes_63 : decode b_M_goes 63 = .ok (.iconst 2, 1) := by decide +kernel
theorem d_M_goes_64 : decode b_M_goes 64 = .ok (.idiv, 1) := by decide +kernel
theorem d_M_goes_65 : decode b_M_goes 65 = .ok (.iload_n 1, 1) := by decide +kernel
theorem d_M_goes_66 : decode b_M_goes 66 = .ok (.iconst 2, 1) := by decide +kernel
theorem d_M_goes_67 : decode b_M_goes 67 = .ok (.idiv, 1) := by decide +kernel
theorem d_M_goes_68 : decode b_M_goes 68 = .ok (.iastore, 1) := by decide +kernel
theorem d_M_goes_69 : decode b_M_goes 69 = .ok (.aload_n 0, 1) := by decide +kernel
theorem d_M_goes_70 : decode b_M_goes 70 = .ok (.getfield 27, 3) := by decide +kernel
theorem d_M_goes_73 : decode b_M_goes 73 = .ok (.aload_n 0, 1) := by decide +kernel
theorem d_M_goes_74 : decode b_M_goes 74 = .ok (.getfield 159, 3) := by decide +kernel
theorem d_M_goes_77 : decode b_M_goes 77 = .ok (.iload_n 1, 1) := by decide +kernel
theorem d_M_goes_78 : decode b_M_goes 78 = .ok (.iconst 2, 1) := by decide +kernel
theorem d_M_goes_79 : decode b_M_goes 79 = .ok (.idiv, 1) := by decide +kernel
theorem d_M_goes_80 : decode b_M_goes 80 = .ok (.iastore, 1) := by decide +kernel
theorem d_M_goes_81 : decode b_M_goes 81 = .ok (.aload_n 0, 1) := by decide +kernel
theorem d_M_goes_82 : decode b_M_goes 82 = .ok (.dup, 1) := by decide +kernel
theorem d_M_goes_83 : decode b_M_goes 83 = .ok (.getfield 159, 3) := by decide +kernel
theorem d_M_goes_86 : decode b_M_goes 86 = .ok (.iconst 1, 1) := by decide +kernel
theorem d_M_goes_87 : decode b_M_goes 87 = .ok (.iadd, 1) := by decide +kernel
theorem d_M_goes_88 : decode b_M_goes 88 = .ok (.putfield 159, 3) := by decide +kernel
theorem d_M_goes_91 : decode b_M_goes 91 = .ok (.aload_n 0, 1) := by decide +kernel
theorem d_M_goes_92 : decode b_M_goes 92 = .ok (.getfield 30, 3) := by decide +kernel
theorem d_M_goes_95 : decode b_M_goes 95 = .ok (.iload_n 1, 1) := by decide +kernel
theorem d_M_goes_96 : decode b_M_goes 96 = .ok (.iconst 2, 1) := by decide +kernel
theorem d_M_goes_97 : decode b_M_goes 97 = .ok (.idiv, 1) := by decide +kernel
theorem d_M_goes_98 : decode b_M_goes 98 = .ok (.iaload, 1) := by decide +kernel
theorem d_M_goes_99 : decode b_M_goes 99 = .ok (.iload_n 2, 1) := by decide +kernel
theorem d_M_goes_100 : decode b_M_goes 100 = .ok (.iconst 2, 1) := by decide +kernel
theorem d_M_goes_101 : decode b_M_goes 101 = .ok (.idiv, 1) := by decide +kernel
theorem d_M_goes_102 : decode b_M_goes 102 = .ok (.if_icmp .ne 21, 3) := by decide +kernel
theorem d_M_goes_105 : decode b_M_goes 105 = .ok (.aload_n 0, 1) := by decide +kernel
theorem d_M_goes_106 : decode b_M_goes 106 = .ok (.getfield 33, 3) := by decide +kernel
theorem d_M_goes_109 : decode b_M_goes 109 = .ok (.iload_n 2, 1) := by decide +kernel
theorem d_M_goes_110 : decode b_M_goes 110 = .ok (.iconst 2, 1) := by decide +kernel
theorem d_M_goes_111 : decode b_M_goes 111 = .ok (.idiv, 1) := by decide +kernel
theorem d_M_goes_112 : decode b_M_goes 112 = .ok (.iaload, 1) := by decide +kernel
theorem d_M_goes_113 : decode b_M_goes 113 = .ok (.iload_n 1, 1) := by decide +kernel
theorem d_M_goes_114 : decode b_M_goes 114 = .ok (.iconst 2, 1) := by decide +kernel
theorem d_M_goes_115 : decode b_M_goes 115 = .ok (.idiv, 1) := by decide +kernel
theorem d_M_goes_116 : decode b_M_goes 116 = .ok (.if_icmp .ne 7, 3) := by decide +kernel
theorem d_M_goes_119 : decode b_M_goes 119 = .ok (.iconst 1, 1) := by decide +kernel
theorem d_M_goes_120 : decode b_M_goes 120 = .ok (.goto 4, 3) := by decide +kernel
theorem d_M_goes_123 : decode b_M_goes 123 = .ok (.iconst 0, 1) := by decide +kernel
theorem d_M_goes_124 : decode b_M_goes 124 = .ok (.ireturn, 1) := by decide +kernel
theorem d_M_half_0 : decode b_M_half 0 = .ok (.aload_n 0, 1) := by decide +kernel
theorem d_M_half_1 : decode b_M_half 1 = .ok (.iload_n 1, 1) := by decide +kernel
theorem d_M_half_2 : decode b_M_half 2 = .ok (.baload, 1) := by decide +kernel
theorem d_M_half_3 : decode b_M_half 3 = .ok (.sipush 255, 3) := by decide +kernel
theorem d_M_half_6 : decode b_M_half 6 = .ok (.iand, 1) := by decide +kernel
theorem d_M_half_7 : decode b_M_half 7 = .ok (.bipush 8, 2) := by decide +kernel
theorem d_M_half_9 : decode b_M_half 9 = .ok (.ishl, 1) := by decide +kernel
theorem d_M_half_10 : decode b_M_half 10 = .ok (.aload_n 0, 1) := by decide +kernel
theorem d_M_half_11 : decode b_M_half 11 = .ok (.iload_n 1, 1) := by decide +kernel
theorem d_M_half_12 : decode b_M_half 12 = .ok (.iconst 1, 1) := by decide +kernel
theorem d_M_half_13 : decode b_M_half 13 = .ok (.iadd, 1) := by decide +kernel
theorem d_M_half_14 : decode b_M_half 14 = .ok (.baload, 1) := by decide +kernel
theorem d_M_half_15 : decode b_M_half 15 = .ok (.sipush 255, 3) := by decide +kernel
theorem d_M_half_18 : decode b_M_half 18 = .ok (.iand, 1) := by decide +kernel
theorem d_M_half_19 : decode b_M_half 19 = .ok (.ior, 1) := by decide +kernel
theorem d_M_half_20 : decode b_M_half 20 = .ok (.ireturn, 1) := by decide +kernel
theorem d_M_hasFields_0 : decode b_M_hasFields 0 = .ok (.iload_n 1, 1) := by decide +kernel
theorem d_M_hasFields_1 : decode b_M_hasFields 1 = .ok (.invokestatic 57, 3) := by decide +kernel
theorem d_M_hasFields_4 : decode b_M_hasFields 4 = .ok (.ifCond .eq 44, 3) := by decide +kernel
theorem d_M_hasFields_7 : decode b_M_hasFields 7 = .ok (.aload_n 0, 1) := by decide +kernel
theorem d_M_hasFields_8 : decode b_M_hasFields 8 = .ok (.getfield 8, 3) := by decide +kernel
theorem d_M_hasFields_11 : decode b_M_hasFields 11 = .ok (.aload_n 0, 1) := by decide +kernel
theorem d_M_hasFields_12 : decode b_M_hasFields 12 = .ok (.getfield 20, 3) := by decide +kernel
theorem d_M_hasFields_15 : decode b_M_hasFields 15 = .ok (.iload_n 1, 1) := by decide +kernel
theorem d_M_hasFields_16 : decode b_M_hasFields 16 = .ok (.iconst 2, 1) := by decide +kernel
theorem d_M_hasFields_17 : decode b_M_hasFields 17 = .ok (.idiv, 1) := by decide +kernel
theorem d_M_hasFields_18 : decode b_M_hasFields 18 = .ok (.iaload, 1) := by decide +kernel
theorem d_M_hasFields_19 : decode b_M_hasFields 19 = .ok (.invokestatic 50, 3) := by decide +kernel
theorem d_M_hasFields_22 : decode b_M_hasFields 22 = .ok (.ifCond .ne 26, 3) := by decide +kernel
theorem d_M_hasFields_25 : decode b_M_hasFields 25 = .ok (.aload_n 0, 1) := by decide +kernel
theorem d_M_hasFields_26 : decode b_M_hasFields 26 = .ok (.getfield 8, 3) := by decide +kernel
theorem d_M_hasFields_29 : decode b_M_hasFields 29 = .ok (.aload_n 0, 1) := by decide +kernel
theorem d_M_hasFields_30 : decode b_M_hasFields 30 = .ok (.getfield 20, 3) := by decide +kernel
theorem d_M_hasFields_33 : decode b_M_hasFields 33 = .ok (.iload_n 1, 1) := by decide +kernel
theorem d_M_hasFields_34 : decode b_M_hasFields 34 = .ok (.iconst 2, 1) := by decide +kernel
theorem d_M_hasFields_35 : decode b_M_hasFields 35 = .ok (.idiv, 1) := by decide +kernel
theorem d_M_hasFields_36 : decode b_M_hasFields 36 = .ok (.iaload, 1) := by decide +kernel
theorem d_M_hasFields_37 : decode b_M_hasFields 37 = .ok (.invokestatic 54, 3) := by decide +kernel
theorem d_M_hasFields_40 : decode b_M_hasFields 40 = .ok (.iload_n 2, 1) := by decide +kernel
theorem d_M_hasFields_41 : decode b_M_hasFields 41 = .ok (.if_icmp .lt 7, 3) := by decide +kernel
theorem d_M_hasFields_44 : decode b_M_hasFields 44 = .ok (.iconst 1, 1) := by decide +kernel
theorem d_M_hasFields_45 : decode b_M_hasFields 45 = .ok (.goto 4, 3) := by decide +kernel
theorem d_M_hasFields_48 : decode b_M_hasFields 48 = .ok (.iconst 0, 1) := by decide +kernel
theorem d_M_hasFields_49 : decode b_M_hasFields 49 = .ok (.ireturn, 1) := by decide +kernel
theorem d_M_init_0 : decode b_M_init 0 = .ok (.aload_n 0, 1) := by decide +kernel
theorem d_M_init_1 : decode b_M_init 1 = .ok (.invokespecial 1, 3) := by decide +kernel
theorem d_M_init_4 : decode b_M_init 4 = .ok (.aload_n 0, 1) := by decide +kernel
theorem d_M_init_5 : decode b_M_init 5 = .ok (.ldc 7, 2) := by decide +kernel
theorem d_M_init_7 : decode b_M_init 7 = .ok (.newarray .byte, 2) := by decide +kernel
theorem d_M_init_9 : decode b_M_init 9 = .ok (.putfield 8, 3) := by decide +kernel
theorem d_M_init_12 : decode b_M_init 12 = .ok (.aload_n 0, 1) := by decide +kernel
theorem d_M_init_13 : decode b_M_init 13 = .ok (.ldc 7, 2) := by decide +kernel
theorem d_M_init_15 : decode b_M_init 15 = .ok (.newarray .byte, 2) := by decide +kernel
theorem d_M_init_17 : decode b_M_init 17 = .ok (.putfield 14, 3) := by decide +kernel
theorem d_M_init_20 : decode b_M_init 20 = .ok (.aload_n 0, 1) := by decide +kernel
theorem d_M_init_21 : decode b_M_init 21 = .ok (.ldc 7, 2) := by decide +kernel
theorem d_M_init_23 : decode b_M_init 23 = .ok (.newarray .byte, 2) := by decide +kernel
theorem d_M_init_25 : decode b_M_init 25 = .ok (.putfield 17, 3) := by decide +kernel
theorem d_M_init_28 : decode b_M_init 28 = .ok (.aload_n 0, 1) := by decide +kernel
theorem d_M_init_29 : decode b_M_init 29 = .ok (.sipush 8192, 3) := by decide +kernel
theorem d_M_init_32 : decode b_M_init 32 = .ok (.newarray .int, 2) := by decide +kernel
theorem d_M_init_34 : decode b_M_init 34 = .ok (.putfield 20, 3) := by decide +kernel
theorem d_M_init_37 : decode b_M_init 37 = .ok (.aload_n 0, 1) := by decide +kernel
theorem d_M_init_38 : decode b_M_init 38 = .ok (.sipush 8192, 3) := by decide +kernel
theorem d_M_init_41 : decode b_M_init 41 = .ok (.newarray .int, 2) := by decide +kernel
theorem d_M_init_43 : decode b_M_init 43 = .ok (.putfield 24, 3) := by decide +kernel
theorem d_M_init_46 : decode b_M_init 46 = .ok (.aload_n 0, 1) := by decide +kernel
theorem d_M_init_47 : decode b_M_init 47 = .ok (.sipush 8192, 3) := by decide +kernel
theorem d_M_init_50 : decode b_M_init 50 = .ok (.newarray .int, 2) := by decide +kernel
theorem d_M_init_52 : decode b_M_init 52 = .ok (.putfield 27, 3) := by decide +kernel
theorem d_M_init_55 : decode b_M_init 55 = .ok (.aload_n 0, 1) := by decide +kernel
theorem d_M_init_56 : decode b_M_init 56 = .ok (.sipush 8192, 3) := by decide +kernel
theorem d_M_init_59 : decode b_M_init 59 = .ok (.newarray .int, 2) := by decide +kernel
theorem d_M_init_61 : decode b_M_init 61 = .ok (.putfield 30, 3) := by decide +kernel
theorem d_M_init_64 : decode b_M_init 64 = .ok (.aload_n 0, 1) := by decide +kernel
theorem d_M_init_65 : decode b_M_init 65 = .ok (.sipush 8192, 3) := by decide +kernel
theorem d_M_init_68 : decode b_M_init 68 = .ok (.newarray .int, 2) := by decide +kernel
theorem d_M_init_70 : decode b_M_init 70 = .ok (.putfield 33, 3) := by decide +kernel
theorem d_M_init_73 : decode b_M_init 73 = .ok (.return_, 1) := by decide +kernel
theorem d_M_isBlockContext_0 : decode b_M_isBlockContext 0 = .ok (.aload_n 0, 1) := by decide +kernel
theorem d_M_isBlockContext_1 : decode b_M_isBlockContext 1 = .ok (.iload_n 1, 1) := by decide +kernel
theorem d_M_isBlockContext_2 : decode b_M_isBlockContext 2 = .ok (.bipush 6, 2) := by decide +kernel
theorem d_M_isBlockContext_4 : decode b_M_isBlockContext 4 = .ok (.invokevirtual 68, 3) := by decide +kernel
theorem d_M_isBlockContext_7 : decode b_M_isBlockContext 7 = .ok (.ifCond .ne 5, 3) := by decide +kernel
theorem d_M_isBlockContext_10 : decode b_M_isBlockContext 10 = .ok (.iconst 0, 1) := by decide +kernel
theorem d_M_isBlockContext_11 : decode b_M_isBlockContext 11 = .ok (.ireturn, 1) := by decide +kernel
theorem d_M_isBlockContext_12 : decode b_M_isBlockContext 12 = .ok (.aload_n 0, 1) := by decide +kernel
theorem d_M_isBlockContext_13 : decode b_M_isBlockContext 13 = .ok (.iload_n 1, 1) := by decide +kernel
theorem d_M_isBlockContext_14 : decode b_M_isBlockContext 14 = .ok (.iconst 5, 1) := by decide +kernel
theorem d_M_isBlockContext_15 : decode b_M_isBlockContext 15 = .ok (.invokevirtual 72, 3) := by decide +kernel
theorem d_M_isBlockContext_18 : decode b_M_isBlockContext 18 = .ok (.istore_n 2, 1) := by decide +kernel
theorem d_M_isBlockContext_19 : decode b_M_isBlockContext 19 = .ok (.aload_n 0, 1) := by decide +kernel
theorem d_M_isBlockContext_20 : decode b_M_isBlockContext 20 = .ok (.iload_n 2, 1) := by decide +kernel
theorem d_M_isBlockContext_21 : decode b_M_isBlockContext 21 = .ok (.iconst 5, 1) := by decide +kernel
theorem d_M_isBlockContext_22 : decode b_M_isBlockContext 22 = .ok (.invokevirtual 68, 3) := by decide +kernel
theorem d_M_isBlockContext_25 : decode b_M_isBlockContext 25 = .ok (.ifCond .eq 43, 3) := by decide +kernel
theorem d_M_isBlockContext_28 : decode b_M_isBlockContext 28 = .ok (.aload_n 0, 1) := by decide +kernel
theorem d_M_isBlockContext_29 : decode b_M_isBlockContext 29 = .ok (.getfield 8, 3) := by decide +kernel
theorem d_M_isBlockContext_32 : decode b_M_isBlockContext 32 = .ok (.aload_n 0, 1) := by decide +kernel
theorem d_M_isBlockContext_33 : decode b_M_isBlockContext 33 = .ok (.getfield 20, 3) := by decide +kernel
theorem d_M_isBlockContext_36 : decode b_M_isBlockContext 36 = .ok (.iload_n 2, 1) := by decide +kernel
theorem d_M_isBlockContext_37 : decode b_M_isBlockContext 37 = .ok (.iconst 2, 1) := by decide +kernel
theorem d_M_isBlockContext_38 : decode b_M_isBlockContext 38 = .ok (.idiv, 1) := by decide +kernel
theorem d_M_isBlockContext_39 : decode b_M_isBlockContext 39 = .ok (.iaload, 1) := by decide +kernel
theorem d_M_isBlockContext_40 : decode b_M_isBlockContext 40 = .ok (.invokestatic 47, 3) := by decide +kernel
theorem d_M_isBlockContext_43 : decode b_M_isBlockContext 43 = .ok (.aload_n 0, 1) := by decide +kernel
theorem d_M_isBlockContext_44 : decode b_M_isBlockContext 44 = .ok (.getfield 8, 3) := by decide +kernel
theorem d_M_isBlockContext_47 : decode b_M_isBlockContext 47 = .ok (.bipush 7, 2) := by decide +kernel
theorem d_M_isBlockContext_49 : decode b_M_isBlockContext 49 = .ok (.invokestatic 65, 3) := by decide +kernel
theorem d_M_isBlockContext_52 : decode b_M_isBlockContext 52 = .ok (.if_icmp .ne 16, 3) := by decide +kernel
theorem d_M_isBlockContext_55 : decode b_M_isBlockContext 55 = .ok (.aload_n 0, 1) := by decide +kernel
theorem d_M_isBlockContext_56 : decode b_M_isBlockContext 56 = .ok (.aload_n 0, 1) := by decide +kernel
theorem d_M_isBlockContext_57 : decode b_M_isBlockContext 57 = .ok (.iload_n 2, 1) := by decide +kernel
theorem d_M_isBlockContext_58 : decode b_M_isBlockContext 58 = .ok (.iconst 3, 1) := by decide +kernel
theorem d_M_isBlockContext_59 : decode b_M_isBlockContext 59 = .ok (.invokevirtual 72, 3) := by decide +kernel
theorem d_M_isBlockContext_62 : decode b_M_isBlockContext 62 = .ok (.invokevirtual 88, 3) := by decide +kernel
theorem d_M_isBlockContext_65 : decode b_M_isBlockContext 65 = .ok (.ifCond .ne 5, 3) := by decide +kernel
theorem d_M_isBlockContext_68 : decode b_M_isBlockContext 68 = .ok (.iconst 0, 1) := by decide +kernel
theorem d_M_isBlockContext_69 : decode b_M_isBlockContext 69 = .ok (.ireturn, 1) := by decide +kernel
theorem d_M_isBlockContext_70 : decode b_M_isBlockContext 70 = .ok (.aload_n 0, 1) := by decide +kernel
theorem d_M_isBlockContext_71 : decode b_M_isBlockContext 71 = .ok (.aload_n 0, 1) := by decide +kernel
theorem d_M_isBlockContext_72 : decode b_M_isBlockContext 72 = .ok (.iload_n 2, 1) := by decide +kernel
theorem d_M_isBlockContext_73 : decode b_M_isBlockContext 73 = .ok (.iconst 3, 1) := by decide +kernel
theorem d_M_isBlockContext_74 : decode b_M_isBlockContext 74 = .ok (.invokevirtual 72, 3) := by decide +kernel
theorem d_M_isBlockContext_77 : decode b_M_isBlockContext 77 = .ok (.invokevirtual 95, 3) := by decide +kernel
theorem d_M_isBlockContext_80 : decode b_M_isBlockContext 80 = .ok (.istore_n 3, 1) := by decide +kernel
theorem d_M_isBlockContext_81 : decode b_M_isBlockContext 81 = .ok (.aload_n 0, 1) := by decide +kernel
theorem d_M_isBlockContext_82 : decode b_M_isBlockContext 82 = .ok (.iload_n 1, 1) := by decide +kernel
theorem d_M_isBlockContext_83 : decode b_M_isBlockContext 83 = .ok (.iconst 2, 1) := by decide +kernel
theorem d_M_isBlockContext_84 : decode b_M_isBlockContext 84 = .ok (.invokevirtual 72, 3) := by decide +kernel
theorem d_M_isBlockContext_87 : decode b_M_isBlockContext 87 = .ok (.istore 4, 2) := by decide +kernel
theorem d_M_isBlockContext_89 : decode b_M_isBlockContext 89 = .ok (.aload_n 0, 1) := by decide +kernel
theorem d_M_isBlockContext_90 : decode b_M_isBlockContext 90 = .ok (.iload_n 1, 1) := by decide +kernel
theorem d_M_isBlockContext_91 : decode b_M_isBlockContext 91 = .ok (.iconst 4, 1) := by decide +kernel
theorem d_M_isBlockContext_92 : decode b_M_isBlockContext 92 = .ok (.invokevirtual 72, 3) := by decide +kernel
theorem d_M_isBlockContext_95 : decode b_M_isBlockContext 95 = .ok (.istore 5, 2) := by decide +kernel
theorem d_M_isBlockContext_97 : decode b_M_isBlockContext 97 = .ok (.aload_n 0, 1) := by decide +kernel
theorem d_M_isBlockContext_98 : decode b_M_isBlockContext 98 = .ok (.getfield 8, 3) := by decide +kernel
theorem d_M_isBlockContext_101 : decode b_M_isBlockContext 101 = .ok (.aload_n 0, 1) := by decide +kernel
theorem d_M_isBlockContext_102 : decode b_M_isBlockContext 102 = .ok (.getfield 20, 3) := by decide +kernel
theorem d_M_isBlockContext_105 : decode b_M_isBlockContext 105 = .ok (.iload_n 1, 1) := by decide +kernel
theorem d_M_isBlockContext_106 : decode b_M_isBlockContext 106 = .ok (.iconst 2, 1) := by decide +kernel
theorem d_M_isBlockContext_107 : decode b_M_isBlockContext 107 = .ok (.idiv, 1) := by decide +kernel
theorem d_M_isBlockContext_108 : decode b_M_isBlockContext 108 = .ok (.iaload, 1) := by decide +kernel
theorem d_M_isBlockContext_109 : decode b_M_isBlockContext 109 = .ok (.invokestatic 54, 3) := by decide +kernel
theorem d_M_isBlockContext_112 : decode b_M_isBlockContext 112 = .ok (.bipush 6, 2) := by decide +kernel
theorem d_M_isBlockContext_114 : decode b_M_isBlockContext 114 = .ok (.iload_n 3, 1) := by decide +kernel
theorem d_M_isBlockContext_115 : decode b_M_isBlockContext 115 = .ok (.iadd, 1) := by decide +kernel
theorem d_M_isBlockContext_116 : decode b_M_isBlockContext 116 = .ok (.if_icmp .ne 51, 3) := by decide +kernel
theorem d_M_isBlockContext_119 : decode b_M_isBlockContext 119 = .ok (.aload_n 0, 1) := by decide +kernel
theorem d_M_isBlockContext_120 : decode b_M_isBlockContext 120 = .ok (.iload 4, 2) := by decide +kernel
theorem d_M_isBlockContext_122 : decode b_M_isBlockContext 122 = .ok (.iconst 0, 1) := by decide +kernel
theorem d_M_isBlockContext_123 : decode b_M_isBlockContext 123 = .ok (.iload_n 3, 1) := by decide +kernel
theorem d_M_isBlockContext_124 : decode b_M_isBlockContext 124 = .ok (.invokevirtual 84, 3) := by decide +kernel
theorem d_M_isBlockContext_127 : decode b_M_isBlockContext 127 = .ok (.ifCond .eq 40, 3) := by decide +kernel
theorem d_M_isBlockContext_130 : decode b_M_isBlockContext 130 = .ok (.aload_n 0, 1) := by decide +kernel
theorem d_M_isBlockContext_131 : decode b_M_isBlockContext 131 = .ok (.aload_n 0, 1) := by decide +kernel
theorem d_M_isBlockContext_132 : decode b_M_isBlockContext 132 = .ok (.iload_n 1, 1) := by decide +kernel
theorem d_M_isBlockContext_133 : decode b_M_isBlockContext 133 = .ok (.iconst 3, 1) := by decide +kernel
theorem d_M_isBlockContext_134 : decode b_M_isBlockContext 134 = .ok (.invokevirtual 72, 3) := by decide +kernel
theorem d_M_isBlockContext_137 : decode b_M_isBlockContext 137 = .ok (.iconst 0, 1) := by decide +kernel
theorem d_M_isBlockContext_138 : decode b_M_isBlockContext 138 = .ok (.bipush 15, 2) := by decide +kernel
theorem d_M_isBlockContext_140 : decode b_M_isBlockContext 140 = .ok (.invokevirtual 84, 3) := by decide +kernel
theorem d_M_isBlockContext_143 : decode b_M_isBlockContext 143 = .ok (.ifCond .eq 24, 3) := by decide +kernel
theorem d_M_isBlockContext_146 : decode b_M_isBlockContext 146 = .ok (.iload 5, 2) := by decide +kernel
theorem d_M_isBlockContext_148 : decode b_M_isBlockContext 148 = .ok (.ifCond .eq 15, 3) := by decide +kernel
theorem d_M_isBlockContext_151 : decode b_M_isBlockContext 151 = .ok (.aload_n 0, 1) := by decide +kernel
theorem d_M_isBlockContext_152 : decode b_M_isBlockContext 152 = .ok (.iload 5, 2) := by decide +kernel
theorem d_M_isBlockContext_154 : decode b_M_isBlockContext 154 = .ok (.iconst 0, 1) := by decide +kernel
theorem d_M_isBlockContext_155 : decode b_M_isBlockContext 155 = .ok (.ldc 83, 2) := by decide +kernel
theorem d_M_isBlockContext_157 : decode b_M_isBlockContext 157 = .ok (.invokevirtual 84, 3) := by decide +kernel
theorem d_M_isBlockContext_160 : decode b_M_isBlockContext 160 = .ok (.ifCond .eq 7, 3) := by decide +kernel
theorem d_M_isBlockContext_163 : decode b_M_isBlockContext 163 = .ok (.iconst 1, 1) := by decide +kernel
theorem d_M_isBlockContext_164 : decode b_M_isBlockContext 164 = .ok (.goto 4, 3) := by decide +kernel
theorem d_M_isBlockContext_167 : decode b_M_isBlockContext 167 = .ok (.iconst 0, 1) := by decide +kernel
theorem d_M_isBlockContext_168 : decode b_M_isBlockContext 168 = .ok (.istore 6, 2) := by decide +kernel
theorem d_M_isBlockContext_170 : decode b_M_isBlockContext 170 = .ok (.iload 6, 2) := by decide +kernel
theorem d_M_isBlockContext_172 : decode b_M_isBlockContext 172 = .ok (.ifCond .eq 22, 3) := by decide +kernel
theorem d_M_isBlockContext_175 : decode b_M_isBlockContext 175 = .ok (.aload_n 0, 1) := by decide +kernel
theorem d_M_isBlockContext_176 : decode b_M_isBlockContext 176 = .ok (.iload_n 1, 1) := by decide +kernel
theorem d_M_isBlockContext_177 : decode b_M_isBlockContext 177 = .ok (.bipush 6, 2) := by decide +kernel
theorem d_M_isBlockContext_179 : decode b_M_isBlockContext 179 = .ok (.iload 4, 2) := by decide +kernel
theorem d_M_isBlockContext_181 : decode b_M_isBlockContext 181 = .ok (.iconst 1, 1) := by decide +kernel
theorem d_M_isBlockContext_182 : decode b_M_isBlockContext 182 = .ok (.ishr, 1) := by decide +kernel
theorem d_M_isBlockContext_183 : decode b_M_isBlockContext 183 = .ok (.iadd, 1) := by decide +kernel
theorem d_M_isBlockContext_184 : decode b_M_isBlockContext 184 = .ok (.invokevirtual 98, 3) := by decide +kernel
theorem d_M_isBlockContext_187 : decode b_M_isBlockContext 187 = .ok (.ifCond .eq 7, 3) := by decide +kernel
theorem d_M_isBlockContext_190 : decode b_M_isBlockContext 190 = .ok (.iconst 1, 1) := by decide +kernel
theorem d_M_isBlockContext_191 : decode b_M_isBlockContext 191 = .ok (.goto 4, 3) := by decide +kernel
theorem d_M_isBlockContext_194 : decode b_M_isBlockContext 194 = .ok (.iconst 0, 1) := by decide +kernel
theorem d_M_isBlockContext_195 : decode b_M_isBlockContext 195 = .ok (.ireturn, 1) := by decide +kernel
theorem d_M_isClass_0 : decode b_M_isClass 0 = .ok (.aload_n 0, 1) := by decide +kernel
theorem d_M_isClass_1 : decode b_M_isClass 1 = .ok (.iload_n 1, 1) := by decide +kernel
theorem d_M_isClass_2 : decode b_M_isClass 2 = .ok (.iconst 3, 1) := by decide +kernel
theorem d_M_isClass_3 : decode b_M_isClass 3 = .ok (.invokevirtual 68, 3) := by decide +kernel
theorem d_M_isClass_6 : decode b_M_isClass 6 = .ok (.ifCond .ne 5, 3) := by decide +kernel
theorem d_M_isClass_9 : decode b_M_isClass 9 = .ok (.iconst 0, 1) := by decide +kernel
theorem d_M_isClass_10 : decode b_M_isClass 10 = .ok (.ireturn, 1) := by decide +kernel
theorem d_M_isClass_11 : decode b_M_isClass 11 = .ok (.aload_n 0, 1) := by decide +kernel
theorem d_M_isClass_12 : decode b_M_isClass 12 = .ok (.iload_n 1, 1) := by decide +kernel
theorem d_M_isClass_13 : decode b_M_isClass 13 = .ok (.iconst 2, 1) := by decide +kernel
theorem d_M_isClass_14 : decode b_M_isClass 14 = .ok (.invokevirtual 72, 3) := by decide +kernel
theorem d_M_isClass_17 : decode b_M_isClass 17 = .ok (.istore_n 2, 1) := by decide +kernel
theorem d_M_isClass_18 : decode b_M_isClass 18 = .ok (.iload_n 2, 1) := by decide +kernel
theorem d_M_isClass_19 : decode b_M_isClass 19 = .ok (.iconst 1, 1) := by decide +kernel
theorem d_M_isClass_20 : decode b_M_isClass 20 = .ok (.ishr, 1) := by decide +kernel
theorem d_M_isClass_21 : decode b_M_isClass 21 = .ok (.istore_n 3, 1) := by decide +kernel
theorem d_M_isClass_22 : decode b_M_isClass 22 = .ok (.iload_n 2, 1) := by decide +kernel
theorem d_M_isClass_23 : decode b_M_isClass 23 = .ok (.invokestatic 76, 3) := by decide +kernel
theorem d_M_isClass_26 : decode b_M_isClass 26 = .ok (.ifCond .eq 26, 3) := by decide +kernel
theorem d_M_isClass_29 : decode b_M_isClass 29 = .ok (.iload_n 3, 1) := by decide +kernel
theorem d_M_isClass_30 : decode b_M_isClass 30 = .ok (.ifCond .lt 22, 3) := by decide +kernel
theorem d_M_isClass_33 : decode b_M_isClass 33 = .ok (.iload_n 3, 1) := by decide +kernel
theorem d_M_isClass_34 : decode b_M_isClass 34 = .ok (.sipush 4096, 3) := by decide +kernel
theorem d_M_isClass_37 : decode b_M_isClass 37 = .ok (.if_icmp .ge 15, 3) := by decide +kernel
theorem d_M_isClass_40 : decode b_M_isClass 40 = .ok (.iload_n 3, 1) := by decide +kernel
theorem d_M_isClass_41 : decode b_M_isClass 41 = .ok (.sipush 768, 3) := by decide +kernel
theorem d_M_isClass_44 : decode b_M_isClass 44 = .ok (.iand, 1) := by decide +kernel
theorem d_M_isClass_45 : decode b_M_isClass 45 = .ok (.ifCond .ne 7, 3) := by decide +kernel
theorem d_M_isClass_48 : decode b_M_isClass 48 = .ok (.iconst 1, 1) := by decide +kernel
theorem d_M_isClass_49 : decode b_M_isClass 49 = .ok (.goto 4, 3) := by decide +kernel
theorem d_M_isClass_52 : decode b_M_isClass 52 = .ok (.iconst 0, 1) := by decide +kernel
theorem d_M_isClass_53 : decode b_M_isClass 53 = .ok (.istore 4, 2) := by decide +kernel
theorem d_M_isClass_55 : decode b_M_isClass 55 = .ok (.iload 4, 2) := by decide +kernel
theorem d_M_isClass_57 : decode b_M_isClass 57 = .ok (.ifCond .eq 30, 3) := by decide +kernel
theorem d_M_isClass_60 : decode b_M_isClass 60 = .ok (.iload_n 3, 1) := by decide +kernel
theorem d_M_isClass_61 : decode b_M_isClass 61 = .ok (.sipush 2048, 3) := by decide +kernel
theorem d_M_isClass_64 : decode b_M_isClass 64 = .ok (.if_icmp .lt 19, 3) := by decide +kernel
theorem d_M_isClass_67 : decode b_M_isClass 67 = .ok (.iload_n 3, 1) := by decide +kernel
theorem d_M_isClass_68 : decode b_M_isClass 68 = .ok (.sipush 255, 3) := by decide +kernel
theorem d_M_isClass_71 : decode b_M_isClass 71 = .ok (.iand, 1) := by decide +kernel
theorem d_M_isClass_72 : decode b_M_isClass 72 = .ok (.ifCond .ne 15, 3) := by decide +kernel
theorem d_M_isClass_75 : decode b_M_isClass 75 = .ok (.iload_n 3, 1) := by decide +kernel
theorem d_M_isClass_76 : decode b_M_isClass 76 = .ok (.sipush 1024, 3) := by decide +kernel
theorem d_M_isClass_79 : decode b_M_isClass 79 = .ok (.iand, 1) := by decide +kernel
theorem d_M_isClass_80 : decode b_M_isClass 80 = .ok (.ifCond .le 7, 3) := by decide +kernel
theorem d_M_isClass_83 : decode b_M_isClass 83 = .ok (.iconst 1, 1) := by decide +kernel
theorem d_M_isClass_84 : decode b_M_isClass 84 = .ok (.goto 4, 3) := by decide +kernel
theorem d_M_isClass_87 : decode b_M_isClass 87 = .ok (.iconst 0, 1) := by decide +kernel
theorem d_M_isClass_88 : decode b_M_isClass 88 = .ok (.ireturn, 1) := by decide +kernel
theorem d_M_isCommon_0 : decode b_M_isCommon 0 = .ok (.aload_n 0, 1) := by decide +kernel
theorem d_M_isCommon_1 : decode b_M_isCommon 1 = .ok (.iload_n 1, 1) := by decide +kernel
theorem d_M_isCommon_2 : decode b_M_isCommon 2 = .ok (.iconst 0, 1) := by decide +kernel
theorem d_M_isCommon_3 : decode b_M_isCommon 3 = .ok (.invokevirtual 72, 3) := by decide +kernel
theorem d_M_isCommon_6 : decode b_M_isCommon 6 = .ok (.istore_n 3, 1) := by decide +kernel
theorem d_M_isCommon_7 : decode b_M_isCommon 7 = .ok (.aload_n 0, 1) := by decide +kernel
theorem d_M_isCommon_8 : decode b_M_isCommon 8 = .ok (.iload_n 1, 1) := by decide +kernel
theorem d_M_isCommon_9 : decode b_M_isCommon 9 = .ok (.iconst 1, 1) := by decide +kernel
theorem d_M_isCommon_10 : decode b_M_isCommon 10 = .ok (.invokevirtual 72, 3) := by decide +kernel
theorem d_M_isCommon_13 : decode b_M_isCommon 13 = .ok (.istore 4, 2) := by decide +kernel
theorem d_M_isCommon_15 : decode b_M_isCommon 15 = .ok (.iload_n 3, 1) := by decide +kernel
theorem d_M_isCommon_16 : decode b_M_isCommon 16 = .ok (.ifCond .eq 11, 3) := by decide +kernel
theorem d_M_isCommon_19 : decode b_M_isCommon 19 = .ok (.aload_n 0, 1) := by decide +kernel
theorem d_M_isCommon_20 : decode b_M_isCommon 20 = .ok (.iload_n 3, 1) := by decide +kernel
theorem d_M_isCommon_21 : decode b_M_isCommon 21 = .ok (.invokevirtual 80, 3) := by decide +kernel
theorem d_M_isCommon_24 : decode b_M_isCommon 24 = .ok (.ifCond .eq 24, 3) := by decide +kernel
theorem d_M_isCommon_27 : decode b_M_isCommon 27 = .ok (.iload 4, 2) := by decide +kernel
theorem d_M_isCommon_29 : decode b_M_isCommon 29 = .ok (.ifCond .eq 15, 3) := by decide +kernel
theorem d_M_isCommon_32 : decode b_M_isCommon 32 = .ok (.aload_n 0, 1) := by decide +kernel
theorem d_M_isCommon_33 : decode b_M_isCommon 33 = .ok (.iload 4, 2) := by decide +kernel
theorem d_M_isCommon_35 : decode b_M_isCommon 35 = .ok (.iconst 0, 1) := by decide +kernel
theorem d_M_isCommon_36 : decode b_M_isCommon 36 = .ok (.ldc 83, 2) := by decide +kernel
theorem d_M_isCommon_38 : decode b_M_isCommon 38 = .ok (.invokevirtual 84, 3) := by decide +kernel
theorem d_M_isCommon_41 : decode b_M_isCommon 41 = .ok (.ifCond .eq 7, 3) := by decide +kernel
theorem d_M_isCommon_44 : decode b_M_isCommon 44 = .ok (.iconst 1, 1) := by decide +kernel
theorem d_M_isCommon_45 : decode b_M_isCommon 45 = .ok (.goto 4, 3) := by decide +kernel
theorem d_M_isCommon_48 : decode b_M_isCommon 48 = .ok (.iconst 0, 1) := by decide +kernel
theorem d_M_isCommon_49 : decode b_M_isCommon 49 = .ok (.istore 5, 2) := by decide +kernel
theorem d_M_isCommon_51 : decode b_M_isCommon 51 = .ok (.iload_n 2, 1) := by decide +kernel
theorem d_M_isCommon_52 : decode b_M_isCommon 52 = .ok (.istore 6, 2) := by decide +kernel
theorem d_M_isCommon_54 : decode b_M_isCommon 54 = .ok (.iload 6, 2) := by decide +kernel
theorem d_M_isCommon_56 : decode b_M_isCommon 56 = .ok (.aload_n 0, 1) := by decide +kernel
theorem d_M_isCommon_57 : decode b_M_isCommon 57 = .ok (.getfield 8, 3) := by decide +kernel
theorem d_M_isCommon_60 : decode b_M_isCommon 60 = .ok (.aload_n 0, 1) := by decide +kernel
theorem d_M_isCommon_61 : decode b_M_isCommon 61 = .ok (.getfield 20, 3) := by decide +kernel
theorem d_M_isCommon_64 : decode b_M_isCommon 64 = .ok (.iload_n 1, 1) := by decide +kernel
theorem d_M_isCommon_65 : decode b_M_isCommon 65 = .ok (.iconst 2, 1) := by decide +kernel
theorem d_M_isCommon_66 : decode b_M_isCommon 66 = .ok (.idiv, 1) := by decide +kernel
theorem d_M_isCommon_67 : decode b_M_isCommon 67 = .ok (.iaload, 1) := by decide +kernel
theorem d_M_isCommon_68 : decode b_M_isCommon 68 = .ok (.invokestatic 54, 3) := by decide +kernel
theorem d_M_isCommon_71 : decode b_M_isCommon 71 = .ok (.if_icmp .ge 31, 3) := by decide +kernel
theorem d_M_isCommon_74 : decode b_M_isCommon 74 = .ok (.iload 5, 2) := by decide +kernel
theorem d_M_isCommon_76 : decode b_M_isCommon 76 = .ok (.ifCond .eq 26, 3) := by decide +kernel
theorem d_M_isCommon_79 : decode b_M_isCommon 79 = .ok (.aload_n 0, 1) := by decide +kernel
theorem d_M_isCommon_80 : decode b_M_isCommon 80 = .ok (.iload_n 1, 1) := by decide +kernel
theorem d_M_isCommon_81 : decode b_M_isCommon 81 = .ok (.iload 6, 2) := by decide +kernel
theorem d_M_isCommon_83 : decode b_M_isCommon 83 = .ok (.invokevirtual 72, 3) := by decide +kernel
theorem d_M_isCommon_86 : decode b_M_isCommon 86 = .ok (.ifCond .ne 7, 3) := by decide +kernel
theorem d_M_isCommon_89 : decode b_M_isCommon 89 = .ok (.iconst 1, 1) := by decide +kernel
theorem d_M_isCommon_90 : decode b_M_isCommon 90 = .ok (.goto 4, 3) := by decide +kernel
theorem d_M_isCommon_93 : decode b_M_isCommon 93 = .ok (.iconst 0, 1) := by decide +kernel
theorem d_M_isCommon_94 : decode b_M_isCommon 94 = .ok (.istore 5, 2) := by decide +kernel
theorem d_M_isCommon_96 : decode b_M_isCommon 96 = .ok (.iinc 6 1, 3) := by decide +kernel
theorem d_M_isCommon_99 : decode b_M_isCommon 99 = .ok (.goto (-45), 3) := by decide +kernel
theorem d_M_isCommon_102 : decode b_M_isCommon 102 = .ok (.iload 5, 2) := by decide +kernel
theorem d_M_isCommon_104 : decode b_M_isCommon 104 = .ok (.ireturn, 1) := by decide +kernel
theorem d_M_isContext_0 : decode b_M_isContext 0 = .ok (.iload_n 1, 1) := by decide +kernel
theorem d_M_isContext_1 : decode b_M_isContext 1 = .ok (.invokestatic 57, 3) := by decide +kernel
theorem d_M_isContext_4 : decode b_M_isContext 4 = .ok (.ifCond .ne 5, 3) := by decide +kernel
theorem d_M_isContext_7 : decode b_M_isContext 7 = .ok (.iconst 0, 1) := by decide +kernel
theorem d_M_isContext_8 : decode b_M_isContext 8 = .ok (.ireturn, 1) := by decide +kernel
theorem d_M_isContext_9 : decode b_M_isContext 9 = .ok (.aload_n 0, 1) := by decide +kernel
theorem d_M_isContext_10 : decode b_M_isContext 10 = .ok (.getfield 8, 3) := by decide +kernel
theorem d_M_isContext_13 : decode b_M_isContext 13 = .ok (.aload_n 0, 1) := by decide +kernel
theorem d_M_isContext_14 : decode b_M_isContext 14 = .ok (.getfield 20, 3) := by decide +kernel
theorem d_M_isContext_17 : decode b_M_isContext 17 = .ok (.iload_n 1, 1) := by decide +kernel
theorem d_M_isContext_18 : decode b_M_isContext 18 = .ok (.iconst 2, 1) := by decide +kernel
theorem d_M_isContext_19 : decode b_M_isContext 19 = .ok (.idiv, 1) := by decide +kernel
theorem d_M_isContext_20 : decode b_M_isContext 20 = .ok (.iaload, 1) := by decide +kernel
theorem d_M_isContext_21 : decode b_M_isContext 21 = .ok (.invokestatic 47, 3) := by decide +kernel
theorem d_M_isContext_24 : decode b_M_isContext 24 = .ok (.istore_n 2, 1) := by decide +kernel
theorem d_M_isContext_25 : decode b_M_isContext 25 = .ok (.iload_n 2, 1) := by decide +kernel
theorem d_M_isContext_26 : decode b_M_isContext 26 = .ok (.aload_n 0, 1) := by decide +kernel
theorem d_M_isContext_27 : decode b_M_isContext 27 = .ok (.getfield 8, 3) := by decide +kernel
theorem d_M_isContext_30 : decode b_M_isContext 30 = .ok (.bipush 7, 2) := by decide +kernel
theorem d_M_isContext_32 : decode b_M_isContext 32 = .ok (.invokestatic 65, 3) := by decide +kernel
theorem d_M_isContext_35 : decode b_M_isContext 35 = .ok (.if_icmp .eq 16, 3) := by decide +kernel
theorem d_M_isContext_38 : decode b_M_isContext 38 = .ok (.iload_n 2, 1) := by decide +kernel
theorem d_M_isContext_39 : decode b_M_isContext 39 = .ok (.aload_n 0, 1) := by decide +kernel
theorem d_M_isContext_40 : decode b_M_isContext 40 = .ok (.getfield 8, 3) := by decide +kernel
theorem d_M_isContext_43 : decode b_M_isContext 43 = .ok (.bipush 8, 2) := by decide +kernel
theorem d_M_isContext_45 : decode b_M_isContext 45 = .ok (.invokestatic 65, 3) := by decide +kernel
theorem d_M_isContext_48 : decode b_M_isContext 48 = .ok (.if_icmp .ne 7, 3) := by decide +kernel
theorem d_M_isContext_51 : decode b_M_isContext 51 = .ok (.iconst 1, 1) := by decide +kernel
theorem d_M_isContext_52 : decode b_M_isContext 52 = .ok (.goto 4, 3) := by decide +kernel
theorem d_M_isContext_55 : decode b_M_isContext 55 = .ok (.iconst 0, 1) := by decide +kernel
theorem d_M_isContext_56 : decode b_M_isContext 56 = .ok (.ireturn, 1) := by decide +kernel
theorem d_M_isMethod_0 : decode b_M_isMethod 0 = .ok (.aload_n 0, 1) := by decide +kernel
theorem d_M_isMethod_1 : decode b_M_isMethod 1 = .ok (.iload_n 1, 1) := by decide +kernel
theorem d_M_isMethod_2 : decode b_M_isMethod 2 = .ok (.iconst 2, 1) := by decide +kernel
theorem d_M_isMethod_3 : decode b_M_isMethod 3 = .ok (.invokevirtual 68, 3) := by decide +kernel
theorem d_M_isMethod_6 : decode b_M_isMethod 6 = .ok (.ifCond .ne 5, 3) := by decide +kernel
theorem d_M_isMethod_9 : decode b_M_isMethod 9 = .ok (.iconst 0, 1) := by decide +kernel
theorem d_M_isMethod_10 : decode b_M_isMethod 10 = .ok (.ireturn, 1) := by decide +kernel
theorem d_M_isMethod_11 : decode b_M_isMethod 11 = .ok (.aload_n 0, 1) := by decide +kernel
theorem d_M_isMethod_12 : decode b_M_isMethod 12 = .ok (.iload_n 1, 1) := by decide +kernel
theorem d_M_isMethod_13 : decode b_M_isMethod 13 = .ok (.iconst 0, 1) := by decide +kernel
theorem d_M_isMethod_14 : decode b_M_isMethod 14 = .ok (.invokevirtual 72, 3) := by decide +kernel
theorem d_M_isMethod_17 : decode b_M_isMethod 17 = .ok (.iconst 1, 1) := by decide +kernel
theorem d_M_isMethod_18 : decode b_M_isMethod 18 = .ok (.ishr, 1) := by decide +kernel
theorem d_M_isMethod_19 : decode b_M_isMethod 19 = .ok (.istore_n 2, 1) := by decide +kernel
theorem d_M_isMethod_20 : decode b_M_isMethod 20 = .ok (.aload_n 0, 1) := by decide +kernel
theorem d_M_isMethod_21 : decode b_M_isMethod 21 = .ok (.iload_n 1, 1) := by decide +kernel
theorem d_M_isMethod_22 : decode b_M_isMethod 22 = .ok (.iconst 1, 1) := by decide +kernel
theorem d_M_isMethod_23 : decode b_M_isMethod 23 = .ok (.invokevirtual 72, 3) := by decide +kernel
theorem d_M_isMethod_26 : decode b_M_isMethod 26 = .ok (.istore_n 3, 1) := by decide +kernel
theorem d_M_isMethod_27 : decode b_M_isMethod 27 = .ok (.aload_n 0, 1) := by decide +kernel
theorem d_M_isMethod_28 : decode b_M_isMethod 28 = .ok (.iload_n 1, 1) := by decide +kernel
theorem d_M_isMethod_29 : decode b_M_isMethod 29 = .ok (.iconst 0, 1) := by decide +kernel
theorem d_M_isMethod_30 : decode b_M_isMethod 30 = .ok (.invokevirtual 72, 3) := by decide +kernel
theorem d_M_isMethod_33 : decode b_M_isMethod 33 = .ok (.invokestatic 76, 3) := by decide +kernel
theorem d_M_isMethod_36 : decode b_M_isMethod 36 = .ok (.ifCond .eq 30, 3) := by decide +kernel
theorem d_M_isMethod_39 : decode b_M_isMethod 39 = .ok (.iload_n 2, 1) := by decide +kernel
theorem d_M_isMethod_40 : decode b_M_isMethod 40 = .ok (.ifCond .lt 26, 3) := by decide +kernel
theorem d_M_isMethod_43 : decode b_M_isMethod 43 = .ok (.iload_n 2, 1) := by decide +kernel
theorem d_M_isMethod_44 : decode b_M_isMethod 44 = .ok (.ldc 79, 2) := by decide +kernel
theorem d_M_isMethod_46 : decode b_M_isMethod 46 = .ok (.if_icmp .ge 20, 3) := by decide +kernel
theorem d_M_isMethod_49 : decode b_M_isMethod 49 = .ok (.iload_n 2, 1) := by decide +kernel
theorem d_M_isMethod_50 : decode b_M_isMethod 50 = .ok (.iconst 4, 1) := by decide +kernel
theorem d_M_isMethod_51 : decode b_M_isMethod 51 = .ok (.ishr, 1) := by decide +kernel
theorem d_M_isMethod_52 : decode b_M_isMethod 52 = .ok (.bipush 31, 2) := by decide +kernel
theorem d_M_isMethod_54 : decode b_M_isMethod 54 = .ok (.iand, 1) := by decide +kernel
theorem d_M_isMethod_55 : decode b_M_isMethod 55 = .ok (.iload_n 2, 1) := by decide +kernel
theorem d_M_isMethod_56 : decode b_M_isMethod 56 = .ok (.bipush 15, 2) := by decide +kernel
theorem d_M_isMethod_58 : decode b_M_isMethod 58 = .ok (.iand, 1) := by decide +kernel
theorem d_M_isMethod_59 : decode b_M_isMethod 59 = .ok (.if_icmp .lt 7, 3) := by decide +kernel
theorem d_M_isMethod_62 : decode b_M_isMethod 62 = .ok (.iconst 1, 1) := by decide +kernel
theorem d_M_isMethod_63 : decode b_M_isMethod 63 = .ok (.goto 4, 3) := by decide +kernel
theorem d_M_isMethod_66 : decode b_M_isMethod 66 = .ok (.iconst 0, 1) := by decide +kernel
theorem d_M_isMethod_67 : decode b_M_isMethod 67 = .ok (.istore 4, 2) := by decide +kernel
theorem d_M_isMethod_69 : decode b_M_isMethod 69 = .ok (.iload 4, 2) := by decide +kernel
theorem d_M_isMethod_71 : decode b_M_isMethod 71 = .ok (.ifCond .eq 32, 3) := by decide +kernel
theorem d_M_isMethod_74 : decode b_M_isMethod 74 = .ok (.iload_n 3, 1) := by decide +kernel
theorem d_M_isMethod_75 : decode b_M_isMethod 75 = .ok (.invokestatic 57, 3) := by decide +kernel
theorem d_M_isMethod_78 : decode b_M_isMethod 78 = .ok (.ifCond .eq 25, 3) := by decide +kernel
theorem d_M_isMethod_81 : decode b_M_isMethod 81 = .ok (.aload_n 0, 1) := by decide +kernel
theorem d_M_isMethod_82 : decode b_M_isMethod 82 = .ok (.getfield 8, 3) := by decide +kernel
theorem d_M_isMethod_85 : decode b_M_isMethod 85 = .ok (.aload_n 0, 1) := by decide +kernel
theorem d_M_isMethod_86 : decode b_M_isMethod 86 = .ok (.getfield 20, 3) := by decide +kernel
theorem d_M_isMethod_89 : decode b_M_isMethod 89 = .ok (.iload_n 3, 1) := by decide +kernel
theorem d_M_isMethod_90 : decode b_M_isMethod 90 = .ok (.iconst 2, 1) := by decide +kernel
theorem d_M_isMethod_91 : decode b_M_isMethod 91 = .ok (.idiv, 1) := by decide +kernel
theorem d_M_isMethod_92 : decode b_M_isMethod 92 = .ok (.iaload, 1) := by decide +kernel
theorem d_M_isMethod_93 : decode b_M_isMethod 93 = .ok (.invokestatic 50, 3) := by decide +kernel
theorem d_M_isMethod_96 : decode b_M_isMethod 96 = .ok (.ifCond .eq 7, 3) := by decide +kernel
theorem d_M_isMethod_99 : decode b_M_isMethod 99 = .ok (.iconst 1, 1) := by decide +kernel
theorem d_M_isMethod_100 : decode b_M_isMethod 100 = .ok (.goto 4, 3) := by decide +kernel
theorem d_M_isMethod_103 : decode b_M_isMethod 103 = .ok (.iconst 0, 1) := by decide +kernel
theorem d_M_isMethod_104 : decode b_M_isMethod 104 = .ok (.ireturn, 1) := by decide +kernel
