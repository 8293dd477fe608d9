theorem d_I_addObject_0 : decode b_I_addObject 0 = .ok (.aload_n 0, 1) := by decide +kernel
theorem d_I_addObject_1 : decode b_I_addObject 1 = .ok (.dup, 1) := by decide +kernel
theorem d_I_addObject_2 : decode b_I_addObject 2 = .ok (.getfield 34, 3) := by decide +kernel
theorem d_I_addObject_5 : decode b_I_addObject 5 = .ok (.iconst 1, 1) := by decide +kernel
theorem d_I_addObject_6 : decode b_I_addObject 6 = .ok (.iadd, 1) := by decide +kernel
theorem d_I_addObject_7 : decode b_I_addObject 7 = .ok (.putfield 34, 3) := by decide +kernel
theorem d_I_addObject_10 : decode b_I_addObject 10 = .ok (.aload_n 0, 1) := by decide +kernel
theorem d_I_addObject_11 : decode b_I_addObject 11 = .ok (.getfield 34, 3) := by decide +kernel
theorem d_I_addObject_14 : decode b_I_addObject 14 = .ok (.aload_n 0, 1) := by decide +kernel
theorem d_I_addObject_15 : decode b_I_addObject 15 = .ok (.getfield 15, 3) := by decide +kernel
theorem d_I_addObject_18 : decode b_I_addObject 18 = .ok (.arraylength, 1) := by decide +kernel
theorem d_I_addObject_19 : decode b_I_addObject 19 = .ok (.if_icmp .lt 64, 3) := by decide +kernel
theorem d_I_addObject_22 : decode b_I_addObject 22 = .ok (.iconst 2, 1) := by decide +kernel
theorem d_I_addObject_23 : decode b_I_addObject 23 = .ok (.aload_n 0, 1) := by decide +kernel
theorem d_I_addObject_24 : decode b_I_addObject 24 = .ok (.getfield 15, 3) := by decide +kernel
theorem d_I_addObject_27 : decode b_I_addObject 27 = .ok (.arraylength, 1) := by decide +kernel
theorem d_I_addObject_28 : decode b_I_addObject 28 = .ok (.imul, 1) := by decide +kernel
theorem d_I_addObject_29 : decode b_I_addObject 29 = .ok (.istore 4, 2) := by decide +kernel
theorem d_I_addObject_31 : decode b_I_addObject 31 = .ok (.aload_n 0, 1) := by decide +kernel
theorem d_I_addObject_32 : decode b_I_addObject 32 = .ok (.aload_n 0, 1) := by decide +kernel
theorem d_I_addObject_33 : decode b_I_addObject 33 = .ok (.getfield 15, 3) := by decide +kernel
theorem d_I_addObject_36 : decode b_I_addObject 36 = .ok (.iload 4, 2) := by decide +kernel
theorem d_I_addObject_38 : decode b_I_addObject 38 = .ok (.invokestatic 40, 3) := by decide +kernel
theorem d_I_addObject_41 : decode b_I_addObject 41 = .ok (.putfield 15, 3) := by decide +kernel
theorem d_I_addObject_44 : decode b_I_addObject 44 = .ok (.aload_n 0, 1) := by decide +kernel
theorem d_I_addObject_45 : decode b_I_addObject 45 = .ok (.aload_n 0, 1) := by decide +kernel
theorem d_I_addObject_46 : decode b_I_addObject 46 = .ok (.getfield 18, 3) := by decide +kernel
theorem d_I_addObject_49 : decode b_I_addObject 49 = .ok (.iload 4, 2) := by decide +kernel
theorem d_I_addObject_51 : decode b_I_addObject 51 = .ok (.invokestatic 40, 3) := by decide +kernel
theorem d_I_addObject_54 : decode b_I_addObject 54 = .ok (.putfield 18, 3) := by decide +kernel
theorem d_I_addObject_57 : decode b_I_addObject 57 = .ok (.aload_n 0, 1) := by decide +kernel
theorem d_I_addObject_58 : decode b_I_addObject 58 = .ok (.aload_n 0, 1) := by decide +kernel
theorem d_I_addObject_59 : decode b_I_addObject 59 = .ok (.getfield 21, 3) := by decide +kernel
theorem d_I_addObject_62 : decode b_I_addObject 62 = .ok (.iload 4, 2) := by decide +kernel
theorem d_I_addObject_64 : decode b_I_addObject 64 = .ok (.invokestatic 40, 3) := by decide +kernel
theorem d_I_addObject_67 : decode b_I_addObject 67 = .ok (.putfield 21, 3) := by decide +kernel
theorem d_I_addObject_70 : decode b_I_addObject 70 = .ok (.aload_n 0, 1) := by decide +kernel
theorem d_I_addObject_71 : decode b_I_addObject 71 = .ok (.aload_n 0, 1) := by decide +kernel
theorem d_I_addObject_72 : decode b_I_addObject 72 = .ok (.getfield 24, 3) := by decide +kernel
theorem d_I_addObject_75 : decode b_I_addObject 75 = .ok (.iload 4, 2) := by decide +kernel
theorem d_I_addObject_77 : decode b_I_addObject 77 = .ok (.invokestatic 40, 3) := by decide +kernel
theorem d_I_addObject_80 : decode b_I_addObject 80 = .ok (.putfield 24, 3) := by decide +kernel
theorem d_I_addObject_83 : decode b_I_addObject 83 = .ok (.aload_n 0, 1) := by decide +kernel
theorem d_I_addObject_84 : decode b_I_addObject 84 = .ok (.getfield 15, 3) := by decide +kernel
theorem d_I_addObject_87 : decode b_I_addObject 87 = .ok (.aload_n 0, 1) := by decide +kernel
theorem d_I_addObject_88 : decode b_I_addObject 88 = .ok (.getfield 34, 3) := by decide +kernel
theorem d_I_addObject_91 : decode b_I_addObject 91 = .ok (.iload_n 1, 1) := by decide +kernel
theorem d_I_addObject_92 : decode b_I_addObject 92 = .ok (.iastore, 1) := by decide +kernel
theorem d_I_addObject_93 : decode b_I_addObject 93 = .ok (.aload_n 0, 1) := by decide +kernel
theorem d_I_addObject_94 : decode b_I_addObject 94 = .ok (.getfield 18, 3) := by decide +kernel
theorem d_I_addObject_97 : decode b_I_addObject 97 = .ok (.aload_n 0, 1) := by decide +kernel
theorem d_I_addObject_98 : decode b_I_addObject 98 = .ok (.getfield 34, 3) := by decide +kernel
theorem d_I_addObject_101 : decode b_I_addObject 101 = .ok (.iload_n 2, 1) := by decide +kernel
theorem d_I_addObject_102 : decode b_I_addObject 102 = .ok (.iastore, 1) := by decide +kernel
theorem d_I_addObject_103 : decode b_I_addObject 103 = .ok (.aload_n 0, 1) := by decide +kernel
theorem d_I_addObject_104 : decode b_I_addObject 104 = .ok (.getfield 21, 3) := by decide +kernel
theorem d_I_addObject_107 : decode b_I_addObject 107 = .ok (.aload_n 0, 1) := by decide +kernel
theorem d_I_addObject_108 : decode b_I_addObject 108 = .ok (.getfield 34, 3) := by decide +kernel
theorem d_I_addObject_111 : decode b_I_addObject 111 = .ok (.iload_n 3, 1) := by decide +kernel
theorem d_I_addObject_112 : decode b_I_addObject 112 = .ok (.iastore, 1) := by decide +kernel
theorem d_I_addObject_113 : decode b_I_addObject 113 = .ok (.aload_n 0, 1) := by decide +kernel
theorem d_I_addObject_114 : decode b_I_addObject 114 = .ok (.getfield 24, 3) := by decide +kernel
theorem d_I_addObject_117 : decode b_I_addObject 117 = .ok (.aload_n 0, 1) := by decide +kernel
theorem d_I_addObject_118 : decode b_I_addObject 118 = .ok (.getfield 34, 3) := by decide +kernel
theorem d_I_addObject_121 : decode b_I_addObject 121 = .ok (.aload_n 0, 1) := by decide +kernel
theorem d_I_addObject_122 : decode b_I_addObject 122 = .ok (.getfield 30, 3) := by decide +kernel
theorem d_I_addObject_125 : decode b_I_addObject 125 = .ok (.iastore, 1) := by decide +kernel
theorem d_I_addObject_126 : decode b_I_addObject 126 = .ok (.aload_n 0, 1) := by decide +kernel
theorem d_I_addObject_127 : decode b_I_addObject 127 = .ok (.dup, 1) := by decide +kernel
theorem d_I_addObject_128 : decode b_I_addObject 128 = .ok (.getfield 37, 3) := by decide +kernel
theorem d_I_addObject_131 : decode b_I_addObject 131 = .ok (.iconst 4, 1) := by decide +kernel
theorem d_I_addObject_132 : decode b_I_addObject 132 = .ok (.iload_n 2, 1) := by decide +kernel
theorem d_I_addObject_133 : decode b_I_addObject 133 = .ok (.iconst 1, 1) := by decide +kernel
theorem d_I_addObject_134 : decode b_I_addObject 134 = .ok (.if_icmp .ne 11, 3) := by decide +kernel
theorem d_I_addObject_137 : decode b_I_addObject 137 = .ok (.iload_n 3, 1) := by decide +kernel
theorem d_I_addObject_138 : decode b_I_addObject 138 = .ok (.iconst 3, 1) := by decide +kernel
theorem d_I_addObject_139 : decode b_I_addObject 139 = .ok (.iadd, 1) := by decide +kernel
theorem d_I_addObject_140 : decode b_I_addObject 140 = .ok (.iconst 4, 1) := by decide +kernel
theorem d_I_addObject_141 : decode b_I_addObject 141 = .ok (.idiv, 1) := by decide +kernel
theorem d_I_addObject_142 : decode b_I_addObject 142 = .ok (.goto 4, 3) := by decide +kernel
theorem d_I_addObject_145 : decode b_I_addObject 145 = .ok (.iload_n 3, 1) := by decide +kernel
theorem d_I_addObject_146 : decode b_I_addObject 146 = .ok (.iadd, 1) := by decide +kernel
theorem d_I_addObject_147 : decode b_I_addObject 147 = .ok (.iadd, 1) := by decide +kernel
theorem d_I_addObject_148 : decode b_I_addObject 148 = .ok (.putfield 37, 3) := by decide +kernel
theorem d_I_addObject_151 : decode b_I_addObject 151 = .ok (.return_, 1) := by decide +kernel
theorem d_I_addPart_0 : decode b_I_addPart 0 = .ok (.aload_n 0, 1) := by decide +kernel
theorem d_I_addPart_1 : decode b_I_addPart 1 = .ok (.getfield 30, 3) := by decide +kernel
theorem d_I_addPart_4 : decode b_I_addPart 4 = .ok (.aload_n 0, 1) := by decide +kernel
theorem d_I_addPart_5 : decode b_I_addPart 5 = .ok (.getfield 27, 3) := by decide +kernel
theorem d_I_addPart_8 : decode b_I_addPart 8 = .ok (.arraylength, 1) := by decide +kernel
theorem d_I_addPart_9 : decode b_I_addPart 9 = .ok (.if_icmp .lt 21, 3) := by decide +kernel
theorem d_I_addPart_12 : decode b_I_addPart 12 = .ok (.aload_n 0, 1) := by decide +kernel
theorem d_I_addPart_13 : decode b_I_addPart 13 = .ok (.aload_n 0, 1) := by decide +kernel
theorem d_I_addPart_14 : decode b_I_addPart 14 = .ok (.getfield 27, 3) := by decide +kernel
theorem d_I_addPart_17 : decode b_I_addPart 17 = .ok (.iconst 2, 1) := by decide +kernel
theorem d_I_addPart_18 : decode b_I_addPart 18 = .ok (.aload_n 0, 1) := by decide +kernel
theorem d_I_addPart_19 : decode b_I_addPart 19 = .ok (.getfield 27, 3) := by decide +kernel
theorem d_I_addPart_22 : decode b_I_addPart 22 = .ok (.arraylength, 1) := by decide +kernel
theorem d_I_addPart_23 : decode b_I_addPart 23 = .ok (.imul, 1) := by decide +kernel
theorem d_I_addPart_24 : decode b_I_addPart 24 = .ok (.invokestatic 40, 3) := by decide +kernel
theorem d_I_addPart_27 : decode b_I_addPart 27 = .ok (.putfield 27, 3) := by decide +kernel
theorem d_I_addPart_30 : decode b_I_addPart 30 = .ok (.aload_n 0, 1) := by decide +kernel
theorem d_I_addPart_31 : decode b_I_addPart 31 = .ok (.getfield 27, 3) := by decide +kernel
theorem d_I_addPart_34 : decode b_I_addPart 34 = .ok (.aload_n 0, 1) := by decide +kernel
theorem d_I_addPart_35 : decode b_I_addPart 35 = .ok (.getfield 30, 3) := by decide +kernel
theorem d_I_addPart_38 : decode b_I_addPart 38 = .ok (.iload_n 1, 1) := by decide +kernel
theorem d_I_addPart_39 : decode b_I_addPart 39 = .ok (.iastore, 1) := by decide +kernel
theorem d_I_addPart_40 : decode b_I_addPart 40 = .ok (.aload_n 0, 1) := by decide +kernel
theorem d_I_addPart_41 : decode b_I_addPart 41 = .ok (.dup, 1) := by decide +kernel
theorem d_I_addPart_42 : decode b_I_addPart 42 = .ok (.getfield 30, 3) := by decide +kernel
theorem d_I_addPart_45 : decode b_I_addPart 45 = .ok (.iconst 1, 1) := by decide +kernel
theorem d_I_addPart_46 : decode b_I_addPart 46 = .ok (.iadd, 1) := by decide +kernel
theorem d_I_addPart_47 : decode b_I_addPart 47 = .ok (.putfield 30, 3) := by decide +kernel
theorem d_I_addPart_50 : decode b_I_addPart 50 = .ok (.return_, 1) := by decide +kernel
theorem d_I_bodyByteAt_0 : decode b_I_bodyByteAt 0 = .ok (.aload_n 0, 1) := by decide +kernel
theorem d_I_bodyByteAt_1 : decode b_I_bodyByteAt 1 = .ok (.iload_n 1, 1) := by decide +kernel
theorem d_I_bodyByteAt_2 : decode b_I_bodyByteAt 2 = .ok (.iload_n 2, 1) := by decide +kernel
theorem d_I_bodyByteAt_3 : decode b_I_bodyByteAt 3 = .ok (.invokevirtual 50, 3) := by decide +kernel
theorem d_I_bodyByteAt_6 : decode b_I_bodyByteAt 6 = .ok (.ifCond .eq 29, 3) := by decide +kernel
theorem d_I_bodyByteAt_9 : decode b_I_bodyByteAt 9 = .ok (.aload_n 0, 1) := by decide +kernel
theorem d_I_bodyByteAt_10 : decode b_I_bodyByteAt 10 = .ok (.getfield 18, 3) := by decide +kernel
theorem d_I_bodyByteAt_13 : decode b_I_bodyByteAt 13 = .ok (.iload_n 1, 1) := by decide +kernel
theorem d_I_bodyByteAt_14 : decode b_I_bodyByteAt 14 = .ok (.iaload, 1) := by decide +kernel
theorem d_I_bodyByteAt_15 : decode b_I_bodyByteAt 15 = .ok (.iconst 1, 1) := by decide +kernel
theorem d_I_bodyByteAt_16 : decode b_I_bodyByteAt 16 = .ok (.if_icmp .ne 19, 3) := by decide +kernel
theorem d_I_bodyByteAt_19 : decode b_I_bodyByteAt 19 = .ok (.aload_n 0, 1) := by decide +kernel
theorem d_I_bodyByteAt_20 : decode b_I_bodyByteAt 20 = .ok (.getfield 27, 3) := by decide +kernel
theorem d_I_bodyByteAt_23 : decode b_I_bodyByteAt 23 = .ok (.aload_n 0, 1) := by decide +kernel
theorem d_I_bodyByteAt_24 : decode b_I_bodyByteAt 24 = .ok (.getfield 24, 3) := by decide +kernel
theorem d_I_bodyByteAt_27 : decode b_I_bodyByteAt 27 = .ok (.iload_n 1, 1) := by decide +kernel
theorem d_I_bodyByteAt_28 : decode b_I_bodyByteAt 28 = .ok (.iaload, 1) := by decide +kernel
theorem d_I_bodyByteAt_29 : decode b_I_bodyByteAt 29 = .ok (.iload_n 2, 1) := by decide +kernel
theorem d_I_bodyByteAt_30 : decode b_I_bodyByteAt 30 = .ok (.iadd, 1) := by decide +kernel
theorem d_I_bodyByteAt_31 : decode b_I_bodyByteAt 31 = .ok (.iaload, 1) := by decide +kernel
theorem d_I_bodyByteAt_32 : decode b_I_bodyByteAt 32 = .ok (.goto 4, 3) := by decide +kernel
theorem d_I_bodyByteAt_35 : decode b_I_bodyByteAt 35 = .ok (.iconst (-1), 1) := by decide +kernel
theorem d_I_bodyByteAt_36 : decode b_I_bodyByteAt 36 = .ok (.ireturn, 1) := by decide +kernel
theorem d_I_classAt_0 : decode b_I_classAt 0 = .ok (.aload_n 0, 1) := by decide +kernel
theorem d_I_classAt_1 : decode b_I_classAt 1 = .ok (.iload_n 1, 1) := by decide +kernel
theorem d_I_classAt_2 : decode b_I_classAt 2 = .ok (.invokevirtual 46, 3) := by decide +kernel
theorem d_I_classAt_5 : decode b_I_classAt 5 = .ok (.ifCond .eq 12, 3) := by decide +kernel
theorem d_I_classAt_8 : decode b_I_classAt 8 = .ok (.aload_n 0, 1) := by decide +kernel
theorem d_I_classAt_9 : decode b_I_classAt 9 = .ok (.getfield 15, 3) := by decide +kernel
theorem d_I_classAt_12 : decode b_I_classAt 12 = .ok (.iload_n 1, 1) := by decide +kernel
theorem d_I_classAt_13 : decode b_I_classAt 13 = .ok (.iaload, 1) := by decide +kernel
theorem d_I_classAt_14 : decode b_I_classAt 14 = .ok (.goto 4, 3) := by decide +kernel
theorem d_I_classAt_17 : decode b_I_classAt 17 = .ok (.iconst 0, 1) := by decide +kernel
theorem d_I_classAt_18 : decode b_I_classAt 18 = .ok (.ireturn, 1) := by decide +kernel
theorem d_I_clear_0 : decode b_I_clear 0 = .ok (.aload_n 0, 1) := by decide +kernel
theorem d_I_clear_1 : decode b_I_clear 1 = .ok (.iconst 0, 1) := by decide +kernel
theorem d_I_clear_2 : decode b_I_clear 2 = .ok (.putfield 30, 3) := by decide +kernel
theorem d_I_clear_5 : decode b_I_clear 5 = .ok (.aload_n 0, 1) := by decide +kernel
theorem d_I_clear_6 : decode b_I_clear 6 = .ok (.iconst 0, 1) := by decide +kernel
theorem d_I_clear_7 : decode b_I_clear 7 = .ok (.putfield 34, 3) := by decide +kernel
theorem d_I_clear_10 : decode b_I_clear 10 = .ok (.aload_n 0, 1) := by decide +kernel
theorem d_I_clear_11 : decode b_I_clear 11 = .ok (.iconst 0, 1) := by decide +kernel
theorem d_I_clear_12 : decode b_I_clear 12 = .ok (.putfield 37, 3) := by decide +kernel
theorem d_I_clear_15 : decode b_I_clear 15 = .ok (.return_, 1) := by decide +kernel
theorem d_I_fieldAt_0 : decode b_I_fieldAt 0 = .ok (.aload_n 0, 1) := by decide +kernel
theorem d_I_fieldAt_1 : decode b_I_fieldAt 1 = .ok (.iload_n 1, 1) := by decide +kernel
theorem d_I_fieldAt_2 : decode b_I_fieldAt 2 = .ok (.iload_n 2, 1) := by decide +kernel
theorem d_I_fieldAt_3 : decode b_I_fieldAt 3 = .ok (.invokevirtual 50, 3) := by decide +kernel
theorem d_I_fieldAt_6 : decode b_I_fieldAt 6 = .ok (.ifCond .eq 28, 3) := by decide +kernel
theorem d_I_fieldAt_9 : decode b_I_fieldAt 9 = .ok (.aload_n 0, 1) := by decide +kernel
theorem d_I_fieldAt_10 : decode b_I_fieldAt 10 = .ok (.getfield 18, 3) := by decide +kernel
theorem d_I_fieldAt_13 : decode b_I_fieldAt 13 = .ok (.iload_n 1, 1) := by decide +kernel
theorem d_I_fieldAt_14 : decode b_I_fieldAt 14 = .ok (.iaload, 1) := by decide +kernel
theorem d_I_fieldAt_15 : decode b_I_fieldAt 15 = .ok (.ifCond .ne 19, 3) := by decide +kernel
theorem d_I_fieldAt_18 : decode b_I_fieldAt 18 = .ok (.aload_n 0, 1) := by decide +kernel
theorem d_I_fieldAt_19 : decode b_I_fieldAt 19 = .ok (.getfield 27, 3) := by decide +kernel
theorem d_I_fieldAt_22 : decode b_I_fieldAt 22 = .ok (.aload_n 0, 1) := by decide +kernel
theorem d_I_fieldAt_23 : decode b_I_fieldAt 23 = .ok (.getfield 24, 3) := by decide +kernel
theorem d_I_fieldAt_26 : decode b_I_fieldAt 26 = .ok (.iload_n 1, 1) := by decide +kernel
theorem d_I_fieldAt_27 : decode b_I_fieldAt 27 = .ok (.iaload, 1) := by decide +kernel
theorem d_I_fieldAt_28 : decode b_I_fieldAt 28 = .ok (.iload_n 2, 1) := by decide +kernel
theorem d_I_fieldAt_29 : decode b_I_fieldAt 29 = .ok (.iadd, 1) := by decide +kernel
theorem d_I_fieldAt_30 : decode b_I_fieldAt 30 = .ok (.iaload, 1) := by decide +kernel
theorem d_I_fieldAt_31 : decode b_I_fieldAt 31 = .ok (.goto 4, 3) := by decide +kernel
theorem d_I_fieldAt_34 : decode b_I_fieldAt 34 = .ok (.iconst 0, 1) := by decide +kernel
theorem d_I_fieldAt_35 : decode b_I_fieldAt 35 = .ok (.ireturn, 1) := by decide +kernel
theorem d_I_fieldCount_0 : decode b_I_fieldCount 0 = .ok (.aload_n 0, 1) := by decide +kernel
theorem d_I_fieldCount_1 : decode b_I_fieldCount 1 = .ok (.iload_n 1, 1) := by decide +kernel
theorem d_I_fieldCount_2 : decode b_I_fieldCount 2 = .ok (.invokevirtual 46, 3) := by decide +kernel
theorem d_I_fieldCount_5 : decode b_I_fieldCount 5 = .ok (.ifCond .eq 21, 3) := by decide +kernel
theorem d_I_fieldCount_8 : decode b_I_fieldCount 8 = .ok (.aload_n 0, 1) := by decide +kernel
theorem d_I_fieldCount_9 : decode b_I_fieldCount 9 = .ok (.getfield 18, 3) := by decide +kernel
theorem d_I_fieldCount_12 : decode b_I_fieldCount 12 = .ok (.iload_n 1, 1) := by decide +kernel
theorem d_I_fieldCount_13 : decode b_I_fieldCount 13 = .ok (.iaload, 1) := by decide +kernel
theorem d_I_fieldCount_14 : decode b_I_fieldCount 14 = .ok (.ifCond .ne 12, 3) := by decide +kernel
theorem d_I_fieldCount_17 : decode b_I_fieldCount 17 = .ok (.aload_n 0, 1) := by decide +kernel
theorem d_I_fieldCount_18 : decode b_I_fieldCount 18 = .ok (.getfield 21, 3) := by decide +kernel
theorem d_I_fieldCount_21 : decode b_I_fieldCount 21 = .ok (.iload_n 1, 1) := by decide +kernel
theorem d_I_fieldCount_22 : decode b_I_fieldCount 22 = .ok (.iaload, 1) := by decide +kernel
theorem d_I_fieldCount_23 : decode b_I_fieldCount 23 = .ok (.goto 4, 3) := by decide +kernel
theorem d_I_fieldCount_26 : decode b_I_fieldCount 26 = .ok (.iconst 0, 1) := by decide +kernel
theorem d_I_fieldCount_27 : decode b_I_fieldCount 27 = .ok (.ireturn, 1) := by decide +kernel
theorem d_I_hasPart_0 : decode b_I_hasPart 0 = .ok (.iload_n 1, 1) := by decide +kernel
theorem d_I_hasPart_1 : decode b_I_hasPart 1 = .ok (.iconst 1, 1) := by decide +kernel
theorem d_I_hasPart_2 : decode b_I_hasPart 2 = .ok (.if_icmp .lt 29, 3) := by decide +kernel
theorem d_I_hasPart_5 : decode b_I_hasPart 5 = .ok (.iload_n 1, 1) := by decide +kernel
theorem d_I_hasPart_6 : decode b_I_hasPart 6 = .ok (.aload_n 0, 1) := by decide +kernel
theorem d_I_hasPart_7 : decode b_I_hasPart 7 = .ok (.getfield 34, 3) := by decide +kernel
theorem d_I_hasPart_10 : decode b_I_hasPart 10 = .ok (.if_icmp .gt 21, 3) := by decide +kernel
theorem d_I_hasPart_13 : decode b_I_hasPart 13 = .ok (.iload_n 2, 1) := by decide +kernel
theorem d_I_hasPart_14 : decode b_I_hasPart 14 = .ok (.ifCond .lt 17, 3) := by decide +kernel
theorem d_I_hasPart_17 : decode b_I_hasPart 17 = .ok (.iload_n 2, 1) := by decide +kernel
theorem d_I_hasPart_18 : decode b_I_hasPart 18 = .ok (.aload_n 0, 1) := by decide +kernel
theorem d_I_hasPart_19 : decode b_I_hasPart 19 = .ok (.getfield 21, 3) := by decide +kernel
theorem d_I_hasPart_22 : decode b_I_hasPart 22 = .ok (.iload_n 1, 1) := by decide +kernel
theorem d_I_hasPart_23 : decode b_I_hasPart 23 = .ok (.iaload, 1) := by decide +kernel
theorem d_I_hasPart_24 : decode b_I_hasPart 24 = .ok (.if_icmp .ge 7, 3) := by decide +kernel
theorem d_I_hasPart_27 : decode b_I_hasPart 27 = .ok (.iconst 1, 1) := by decide +kernel
theorem d_I_hasPart_28 : decode b_I_hasPart 28 = .ok (.goto 4, 3) := by decide +kernel
theorem d_I_hasPart_31 : decode b_I_hasPart 31 = .ok (.iconst 0, 1) := by decide +kernel
theorem d_I_hasPart_32 : decode b_I_hasPart 32 = .ok (.ireturn, 1) := by decide +kernel
theorem d_I_holds_0 : decode b_I_holds 0 = .ok (.iload_n 1, 1) := by decide +kernel
theorem d_I_holds_1 : decode b_I_holds 1 = .ok (.iconst 1, 1) := by decide +kernel
theorem d_I_holds_2 : decode b_I_holds 2 = .ok (.if_icmp .lt 15, 3) := by decide +kernel
theorem d_I_holds_5 : decode b_I_holds 5 = .ok (.iload_n 1, 1) := by decide +kernel
theorem d_I_holds_6 : decode b_I_holds 6 = .ok (.aload_n 0, 1) := by decide +kernel
theorem d_I_holds_7 : decode b_I_holds 7 = .ok (.getfield 34, 3) := by decide +kernel
theorem d_I_holds_10 : decode b_I_holds 10 = .ok (.if_icmp .gt 7, 3) := by decide +kernel
theorem d_I_holds_13 : decode b_I_holds 13 = .ok (.iconst 1, 1) := by decide +kernel
theorem d_I_holds_14 : decode b_I_holds 14 = .ok (.goto 4, 3) := by decide +kernel
theorem d_I_holds_17 : decode b_I_holds 17 = .ok (.iconst 0, 1) := by decide +kernel
theorem d_I_holds_18 : decode b_I_holds 18 = .ok (.ireturn, 1) := by decide +kernel
theorem d_I_init_0 : decode b_I_init 0 = .ok (.aload_n 0, 1) := by decide +kernel
theorem d_I_init_1 : decode b_I_init 1 = .ok (.invokespecial 3, 3) := by decide +kernel
theorem d_I_init_4 : decode b_I_init 4 = .ok (.aload_n 0, 1) := by decide +kernel
theorem d_I_init_5 : decode b_I_init 5 = .ok (.bipush 50, 2) := by decide +kernel
theorem d_I_init_7 : decode b_I_init 7 = .ok (.newarray .int, 2) := by decide +kernel
theorem d_I_init_9 : decode b_I_init 9 = .ok (.putfield 9, 3) := by decide +kernel
theorem d_I_init_12 : decode b_I_init 12 = .ok (.aload_n 0, 1) := by decide +kernel
theorem d_I_init_13 : decode b_I_init 13 = .ok (.bipush 64, 2) := by decide +kernel
theorem d_I_init_15 : decode b_I_init 15 = .ok (.newarray .int, 2) := by decide +kernel
theorem d_I_init_17 : decode b_I_init 17 = .ok (.putfield 15, 3) := by decide +kernel
theorem d_I_init_20 : decode b_I_init 20 = .ok (.aload_n 0, 1) := by decide +kernel
theorem d_I_init_21 : decode b_I_init 21 = .ok (.bipush 64, 2) := by decide +kernel
theorem d_I_init_23 : decode b_I_init 23 = .ok (.newarray .int, 2) := by decide +kernel
theorem d_I_init_25 : decode b_I_init 25 = .ok (.putfield 18, 3) := by decide +kernel
theorem d_I_init_28 : decode b_I_init 28 = .ok (.aload_n 0, 1) := by decide +kernel
theorem d_I_init_29 : decode b_I_init 29 = .ok (.bipush 64, 2) := by decide +kernel
theorem d_I_init_31 : decode b_I_init 31 = .ok (.newarray .int, 2) := by decide +kernel
theorem d_I_init_33 : decode b_I_init 33 = .ok (.putfield 21, 3) := by decide +kernel
theorem d_I_init_36 : decode b_I_init 36 = .ok (.aload_n 0, 1) := by decide +kernel
theorem d_I_init_37 : decode b_I_init 37 = .ok (.bipush 64, 2) := by decide +kernel
theorem d_I_init_39 : decode b_I_init 39 = .ok (.newarray .int, 2) := by decide +kernel
theorem d_I_init_41 : decode b_I_init 41 = .ok (.putfield 24, 3) := by decide +kernel
theorem d_I_init_44 : decode b_I_init 44 = .ok (.aload_n 0, 1) := by decide +kernel
theorem d_I_init_45 : decode b_I_init 45 = .ok (.sipush 256, 3) := by decide +kernel
theorem d_I_init_48 : decode b_I_init 48 = .ok (.newarray .int, 2) := by decide +kernel
theorem d_I_init_50 : decode b_I_init 50 = .ok (.putfield 27, 3) := by decide +kernel
theorem d_I_init_53 : decode b_I_init 53 = .ok (.return_, 1) := by decide +kernel
theorem d_I_isContext_0 : decode b_I_isContext 0 = .ok (.aload_n 0, 1) := by decide +kernel
theorem d_I_isContext_1 : decode b_I_isContext 1 = .ok (.iload_n 1, 1) := by decide +kernel
theorem d_I_isContext_2 : decode b_I_isContext 2 = .ok (.bipush 7, 2) := by decide +kernel
theorem d_I_isContext_4 : decode b_I_isContext 4 = .ok (.invokevirtual 54, 3) := by decide +kernel
theorem d_I_isContext_7 : decode b_I_isContext 7 = .ok (.ifCond .ne 13, 3) := by decide +kernel
theorem d_I_isContext_10 : decode b_I_isContext 10 = .ok (.aload_n 0, 1) := by decide +kernel
theorem d_I_isContext_11 : decode b_I_isContext 11 = .ok (.iload_n 1, 1) := by decide +kernel
theorem d_I_isContext_12 : decode b_I_isContext 12 = .ok (.bipush 8, 2) := by decide +kernel
theorem d_I_isContext_14 : decode b_I_isContext 14 = .ok (.invokevirtual 54, 3) := by decide +kernel
theorem d_I_isContext_17 : decode b_I_isContext 17 = .ok (.ifCond .eq 7, 3) := by decide +kernel
theorem d_I_isContext_20 : decode b_I_isContext 20 = .ok (.iconst 1, 1) := by decide +kernel
theorem d_I_isContext_21 : decode b_I_isContext 21 = .ok (.goto 4, 3) := by decide +kernel
theorem d_I_isContext_24 : decode b_I_isContext 24 = .ok (.iconst 0, 1) := by decide +kernel
theorem d_I_isContext_25 : decode b_I_isContext 25 = .ok (.ireturn, 1) := by decide +kernel
theorem d_I_isOfBytes_0 : decode b_I_isOfBytes 0 = .ok (.aload_n 0, 1) := by decide +kernel
theorem d_I_isOfBytes_1 : decode b_I_isOfBytes 1 = .ok (.iload_n 1, 1) := by decide +kernel
theorem d_I_isOfBytes_2 : decode b_I_isOfBytes 2 = .ok (.invokevirtual 46, 3) := by decide +kernel
theorem d_I_isOfBytes_5 : decode b_I_isOfBytes 5 = .ok (.ifCond .eq 17, 3) := by decide +kernel
theorem d_I_isOfBytes_8 : decode b_I_isOfBytes 8 = .ok (.aload_n 0, 1) := by decide +kernel
theorem d_I_isOfBytes_9 : decode b_I_isOfBytes 9 = .ok (.getfield 18, 3) := by decide +kernel
theorem d_I_isOfBytes_12 : decode b_I_isOfBytes 12 = .ok (.iload_n 1, 1) := by decide +kernel
theorem d_I_isOfBytes_13 : decode b_I_isOfBytes 13 = .ok (.iaload, 1) := by decide +kernel
theorem d_I_isOfBytes_14 : decode b_I_isOfBytes 14 = .ok (.iconst 1, 1) := by decide +kernel
theorem d_I_isOfBytes_15 : decode b_I_isOfBytes 15 = .ok (.if_icmp .ne 7, 3) := by decide +kernel
theorem d_I_isOfBytes_18 : decode b_I_isOfBytes 18 = .ok (.iconst 1, 1) := by decide +kernel
theorem d_I_isOfBytes_19 : decode b_I_isOfBytes 19 = .ok (.goto 4, 3) := by decide +kernel
theorem d_I_isOfBytes_22 : decode b_I_isOfBytes 22 = .ok (.iconst 0, 1) := by decide +kernel
theorem d_I_isOfBytes_23 : decode b_I_isOfBytes 23 = .ok (.ireturn, 1) := by decide +kernel
theorem d_I_isOfSpecialClass_0 : decode b_I_isOfSpecialClass 0 = .ok (.iload_n 1, 1) := by decide +kernel
theorem d_I_isOfSpecialClass_1 : decode b_I_isOfSpecialClass 1 = .ok (.iconst 1, 1) := by decide +kernel
theorem d_I_isOfSpecialClass_2 : decode b_I_isOfSpecialClass 2 = .ok (.if_icmp .lt 30, 3) := by decide +kernel
theorem d_I_isOfSpecialClass_5 : decode b_I_isOfSpecialClass 5 = .ok (.iload_n 1, 1) := by decide +kernel
theorem d_I_isOfSpecialClass_6 : decode b_I_isOfSpecialClass 6 = .ok (.aload_n 0, 1) := by decide +kernel
theorem d_I_isOfSpecialClass_7 : decode b_I_isOfSpecialClass 7 = .ok (.getfield 34, 3) := by decide +kernel
theorem d_I_isOfSpecialClass_10 : decode b_I_isOfSpecialClass 10 = .ok (.if_icmp .gt 22, 3) := by decide +kernel
theorem d_I_isOfSpecialClass_13 : decode b_I_isOfSpecialClass 13 = .ok (.aload_n 0, 1) := by decide +kernel
theorem d_I_isOfSpecialClass_14 : decode b_I_isOfSpecialClass 14 = .ok (.getfield 15, 3) := by decide +kernel
theorem d_I_isOfSpecialClass_17 : decode b_I_isOfSpecialClass 17 = .ok (.iload_n 1, 1) := by decide +kernel
theorem d_I_isOfSpecialClass_18 : decode b_I_isOfSpecialClass 18 = .ok (.iaload, 1) := by decide +kernel
theorem d_I_isOfSpecialClass_19 : decode b_I_isOfSpecialClass 19 = .ok (.aload_n 0, 1) := by decide +kernel
theorem d_I_isOfSpecialClass_20 : decode b_I_isOfSpecialClass 20 = .ok (.getfield 9, 3) := by decide +kernel
theorem d_I_isOfSpecialClass_23 : decode b_I_isOfSpecialClass 23 = .ok (.iload_n 2, 1) := by decide +kernel
theorem d_I_isOfSpecialClass_24 : decode b_I_isOfSpecialClass 24 = .ok (.iaload, 1) := by decide +kernel
theorem d_I_isOfSpecialClass_25 : decode b_I_isOfSpecialClass 25 = .ok (.if_icmp .ne 7, 3) := by decide +kernel
theorem d_I_isOfSpecialClass_28 : decode b_I_isOfSpecialClass 28 = .ok (.iconst 1, 1) := by decide +kernel
theorem d_I_isOfSpecialClass_29 : decode b_I_isOfSpecialClass 29 = .ok (.goto 4, 3) := by decide +kernel
theorem d_I_isOfSpecialClass_32 : decode b_I_isOfSpecialClass 32 = .ok (.iconst 0, 1) := by decide +kernel
theorem d_I_isOfSpecialClass_33 : decode b_I_isOfSpecialClass 33 = .ok (.ireturn, 1) := by decide +kernel
theorem d_I_objectOf_0 : decode b_I_objectOf 0 = .ok (.iload_n 1, 1) := by decide +kernel
theorem d_I_objectOf_1 : decode b_I_objectOf 1 = .ok (.iconst 1, 1) := by decide +kernel
theorem d_I_objectOf_2 : decode b_I_objectOf 2 = .ok (.iand, 1) := by decide +kernel
theorem d_I_objectOf_3 : decode b_I_objectOf 3 = .ok (.ifCond .ne 19, 3) := by decide +kernel
theorem d_I_objectOf_6 : decode b_I_objectOf 6 = .ok (.aload_n 0, 1) := by decide +kernel
theorem d_I_objectOf_7 : decode b_I_objectOf 7 = .ok (.iload_n 1, 1) := by decide +kernel
theorem d_I_objectOf_8 : decode b_I_objectOf 8 = .ok (.iconst 1, 1) := by decide +kernel
theorem d_I_objectOf_9 : decode b_I_objectOf 9 = .ok (.ishr, 1) := by decide +kernel
theorem d_I_objectOf_10 : decode b_I_objectOf 10 = .ok (.invokevirtual 46, 3) := by decide +kernel
theorem d_I_objectOf_13 : decode b_I_objectOf 13 = .ok (.ifCond .eq 9, 3) := by decide +kernel
theorem d_I_objectOf_16 : decode b_I_objectOf 16 = .ok (.iload_n 1, 1) := by decide +kernel
theorem d_I_objectOf_17 : decode b_I_objectOf 17 = .ok (.iconst 1, 1) := by decide +kernel
theorem d_I_objectOf_18 : decode b_I_objectOf 18 = .ok (.ishr, 1) := by decide +kernel
theorem d_I_objectOf_19 : decode b_I_objectOf 19 = .ok (.goto 4, 3) := by decide +kernel
theorem d_I_objectOf_22 : decode b_I_objectOf 22 = .ok (.iconst 0, 1) := by decide +kernel
theorem d_I_objectOf_23 : decode b_I_objectOf 23 = .ok (.ireturn, 1) := by decide +kernel
theorem d_I_specialAt_0 : decode b_I_specialAt 0 = .ok (.iload_n 1, 1) := by decide +kernel
theorem d_I_specialAt_1 : decode b_I_specialAt 1 = .ok (.ifCond .lt 18, 3) := by decide +kernel
theorem d_I_specialAt_4 : decode b_I_specialAt 4 = .ok (.iload_n 1, 1) := by decide +kernel
theorem d_I_specialAt_5 : decode b_I_specialAt 5 = .ok (.bipush 50, 2) := by decide +kernel
theorem d_I_specialAt_7 : decode b_I_specialAt 7 = .ok (.if_icmp .ge 12, 3) := by decide +kernel
theorem d_I_specialAt_10 : decode b_I_specialAt 10 = .ok (.aload_n 0, 1) := by decide +kernel
theorem d_I_specialAt_11 : decode b_I_specialAt 11 = .ok (.getfield 9, 3) := by decide +kernel
theorem d_I_specialAt_14 : decode b_I_specialAt 14 = .ok (.iload_n 1, 1) := by decide +kernel
theorem d_I_specialAt_15 : decode b_I_specialAt 15 = .ok (.iaload, 1) := by decide +kernel
theorem d_I_specialAt_16 : decode b_I_specialAt 16 = .ok (.goto 4, 3) := by decide +kernel
theorem d_I_specialAt_19 : decode b_I_specialAt 19 = .ok (.iconst 0, 1) := by decide +kernel
theorem d_I_specialAt_20 : decode b_I_specialAt 20 = .ok (.ireturn, 1) := by decide +kernel
theorem d_L_bodyLength_0 : decode b_L_bodyLength 0 = .ok (.iload_n 0, 1) := by decide +kernel
theorem d_L_bodyLength_1 : decode b_L_bodyLength 1 = .ok (.iconst 1, 1) := by decide +kernel
theorem d_L_bodyLength_2 : decode b_L_bodyLength 2 = .ok (.if_icmp .ne 7, 3) := by decide +kernel
theorem d_L_bodyLength_5 : decode b_L_bodyLength 5 = .ok (.iload_n 1, 1) := by decide +kernel
theorem d_L_bodyLength_6 : decode b_L_bodyLength 6 = .ok (.goto 6, 3) := by decide +kernel
theorem d_L_bodyLength_9 : decode b_L_bodyLength 9 = .ok (.iconst 4, 1) := by decide +kernel
theorem d_L_bodyLength_10 : decode b_L_bodyLength 10 = .ok (.iload_n 1, 1) := by decide +kernel
theorem d_L_bodyLength_11 : decode b_L_bodyLength 11 = .ok (.imul, 1) := by decide +kernel
theorem d_L_bodyLength_12 : decode b_L_bodyLength 12 = .ok (.ireturn, 1) := by decide +kernel
theorem d_L_headPlace_0 : decode b_L_headPlace 0 = .ok (.iconst 0, 1) := by decide +kernel
theorem d_L_headPlace_1 : decode b_L_headPlace 1 = .ok (.istore_n 1, 1) := by decide +kernel
theorem d_L_headPlace_2 : decode b_L_headPlace 2 = .ok (.iload_n 1, 1) := by decide +kernel
theorem d_L_headPlace_3 : decode b_L_headPlace 3 = .ok (.getstatic 9, 3) := by decide +kernel
theorem d_L_headPlace_6 : decode b_L_headPlace 6 = .ok (.arraylength, 1) := by decide +kernel
theorem d_L_headPlace_7 : decode b_L_headPlace 7 = .ok (.if_icmp .ge 35, 3) := by decide +kernel
theorem d_L_headPlace_10 : decode b_L_headPlace 10 = .ok (.aload_n 0, 1) := by decide +kernel
theorem d_L_headPlace_11 : decode b_L_headPlace 11 = .ok (.iload_n 1, 1) := by decide +kernel
theorem d_L_headPlace_12 : decode b_L_headPlace 12 = .ok (.invokevirtual 13, 3) := by decide +kernel
theorem d_L_headPlace_15 : decode b_L_headPlace 15 = .ok (.istore_n 2, 1) := by decide +kernel
theorem d_L_headPlace_16 : decode b_L_headPlace 16 = .ok (.iload_n 2, 1) := by decide +kernel
theorem d_L_headPlace_17 : decode b_L_headPlace 17 = .ok (.getstatic 9, 3) := by decide +kernel
theorem d_L_headPlace_20 : decode b_L_headPlace 20 = .ok (.iload_n 1, 1) := by decide +kernel
theorem d_L_headPlace_21 : decode b_L_headPlace 21 = .ok (.iaload, 1) := by decide +kernel
theorem d_L_headPlace_22 : decode b_L_headPlace 22 = .ok (.if_icmp .lt 12, 3) := by decide +kernel
theorem d_L_headPlace_25 : decode b_L_headPlace 25 = .ok (.iload_n 2, 1) := by decide +kernel
theorem d_L_headPlace_26 : decode b_L_headPlace 26 = .ok (.getstatic 19, 3) := by decide +kernel
theorem d_L_headPlace_29 : decode b_L_headPlace 29 = .ok (.iload_n 1, 1) := by decide +kernel
theorem d_L_headPlace_30 : decode b_L_headPlace 30 = .ok (.iaload, 1) := by decide +kernel
theorem d_L_headPlace_31 : decode b_L_headPlace 31 = .ok (.if_icmp .le 5, 3) := by decide +kernel
theorem d_L_headPlace_34 : decode b_L_headPlace 34 = .ok (.iload_n 1, 1) := by decide +kernel
theorem d_L_headPlace_35 : decode b_L_headPlace 35 = .ok (.ireturn, 1) := by decide +kernel
theorem d_L_headPlace_36 : decode b_L_headPlace 36 = .ok (.iinc 1 1, 3) := by decide +kernel
theorem d_L_headPlace_39 : decode b_L_headPlace 39 = .ok (.goto (-37), 3) := by decide +kernel
theorem d_L_headPlace_42 : decode b_L_headPlace 42 = .ok (.aload_n 0, 1) := by decide +kernel
theorem d_L_headPlace_43 : decode b_L_headPlace 43 = .ok (.bipush 6, 2) := by decide +kernel
theorem d_L_headPlace_45 : decode b_L_headPlace 45 = .ok (.iconst 2, 1) := by decide +kernel
theorem d_L_headPlace_46 : decode b_L_headPlace 46 = .ok (.invokevirtual 22, 3) := by decide +kernel
theorem d_L_headPlace_49 : decode b_L_headPlace 49 = .ok (.ifCond .ne 8, 3) := by decide +kernel
theorem d_L_headPlace_52 : decode b_L_headPlace 52 = .ok (.aload_n 0, 1) := by decide +kernel
theorem d_L_headPlace_53 : decode b_L_headPlace 53 = .ok (.getfield 26, 3) := by decide +kernel
theorem d_L_headPlace_56 : decode b_L_headPlace 56 = .ok (.ireturn, 1) := by decide +kernel
theorem d_L_headPlace_57 : decode b_L_headPlace 57 = .ok (.aload_n 0, 1) := by decide +kernel
theorem d_L_headPlace_58 : decode b_L_headPlace 58 = .ok (.bipush 6, 2) := by decide +kernel
theorem d_L_headPlace_60 : decode b_L_headPlace 60 = .ok (.invokevirtual 30, 3) := by decide +kernel
theorem d_L_headPlace_63 : decode b_L_headPlace 63 = .ok (.istore_n 1, 1) := by decide +kernel
theorem d_L_headPlace_64 : decode b_L_headPlace 64 = .ok (.iload_n 1, 1) := by decide +kernel
theorem d_L_headPlace_65 : decode b_L_headPlace 65 = .ok (.iconst 1, 1) := by decide +kernel
theorem d_L_headPlace_66 : decode b_L_headPlace 66 = .ok (.if_icmp .lt 10, 3) := by decide +kernel
theorem d_L_headPlace_69 : decode b_L_headPlace 69 = .ok (.iload_n 1, 1) := by decide +kernel
theorem d_L_headPlace_70 : decode b_L_headPlace 70 = .ok (.sipush 8191, 3) := by decide +kernel
theorem d_L_headPlace_73 : decode b_L_headPlace 73 = .ok (.if_icmp .le 8, 3) := by decide +kernel
theorem d_L_headPlace_76 : decode b_L_headPlace 76 = .ok (.bipush 6, 2) := by decide +kernel
theorem d_L_headPlace_78 : decode b_L_headPlace 78 = .ok (.goto 4, 3) := by decide +kernel
theorem d_L_headPlace_81 : decode b_L_headPlace 81 = .ok (.iconst (-1), 1) := by decide +kernel
theorem d_L_headPlace_82 : decode b_L_headPlace 82 = .ok (.ireturn, 1) := by decide +kernel
theorem d_L_isValueAt_0 : decode b_L_isValueAt 0 = .ok (.aload_n 0, 1) := by decide +kernel
theorem d_L_isValueAt_1 : decode b_L_isValueAt 1 = .ok (.iload_n 1, 1) := by decide +kernel
theorem d_L_isValueAt_2 : decode b_L_isValueAt 2 = .ok (.iconst 4, 1) := by decide +kernel
theorem d_L_isValueAt_3 : decode b_L_isValueAt 3 = .ok (.invokevirtual 22, 3) := by decide +kernel
theorem d_L_isValueAt_6 : decode b_L_isValueAt 6 = .ok (.ifCond .ne 5, 3) := by decide +kernel
theorem d_L_isValueAt_9 : decode b_L_isValueAt 9 = .ok (.iconst 0, 1) := by decide +kernel
theorem d_L_isValueAt_10 : decode b_L_isValueAt 10 = .ok (.ireturn, 1) := by decide +kernel
theorem d_L_isValueAt_11 : decode b_L_isValueAt 11 = .ok (.aload_n 0, 1) := by decide +kernel
theorem d_L_isValueAt_12 : decode b_L_isValueAt 12 = .ok (.iload_n 1, 1) := by decide +kernel
theorem d_L_isValueAt_13 : decode b_L_isValueAt 13 = .ok (.invokevirtual 53, 3) := by decide +kernel
theorem d_L_isValueAt_16 : decode b_L_isValueAt 16 = .ok (.istore_n 3, 1) := by decide +kernel
theorem d_L_isValueAt_17 : decode b_L_isValueAt 17 = .ok (.iload_n 3, 1) := by decide +kernel
theorem d_L_isValueAt_18 : decode b_L_isValueAt 18 = .ok (.invokestatic 80, 3) := by decide +kernel
theorem d_L_isValueAt_21 : decode b_L_isValueAt 21 = .ok (.ifCond .ne 14, 3) := by decide +kernel
theorem d_L_isValueAt_24 : decode b_L_isValueAt 24 = .ok (.iload_n 3, 1) := by decide +kernel
theorem d_L_isValueAt_25 : decode b_L_isValueAt 25 = .ok (.ifCond .lt 14, 3) := by decide +kernel
theorem d_L_isValueAt_28 : decode b_L_isValueAt 28 = .ok (.iload_n 3, 1) := by decide +kernel
theorem d_L_isValueAt_29 : decode b_L_isValueAt 29 = .ok (.iconst 2, 1) := by decide +kernel
theorem d_L_isValueAt_30 : decode b_L_isValueAt 30 = .ok (.iload_n 2, 1) := by decide +kernel
theorem d_L_isValueAt_31 : decode b_L_isValueAt 31 = .ok (.imul, 1) := by decide +kernel
theorem d_L_isValueAt_32 : decode b_L_isValueAt 32 = .ok (.if_icmp .gt 7, 3) := by decide +kernel
theorem d_L_isValueAt_35 : decode b_L_isValueAt 35 = .ok (.iconst 1, 1) := by decide +kernel
theorem d_L_isValueAt_36 : decode b_L_isValueAt 36 = .ok (.goto 4, 3) := by decide +kernel
theorem d_L_isValueAt_39 : decode b_L_isValueAt 39 = .ok (.iconst 0, 1) := by decide +kernel
theorem d_L_isValueAt_40 : decode b_L_isValueAt 40 = .ok (.ireturn, 1) := by decide +kernel
theorem d_L_objectHeadPlace_0 : decode b_L_objectHeadPlace 0 = .ok (.aload_n 0, 1) := by decide +kernel
theorem d_L_objectHeadPlace_1 : decode b_L_objectHeadPlace 1 = .ok (.iload_n 1, 1) := by decide +kernel
theorem d_L_objectHeadPlace_2 : decode b_L_objectHeadPlace 2 = .ok (.iload_n 2, 1) := by decide +kernel
theorem d_L_objectHeadPlace_3 : decode b_L_objectHeadPlace 3 = .ok (.invokestatic 44, 3) := by decide +kernel
theorem d_L_objectHeadPlace_6 : decode b_L_objectHeadPlace 6 = .ok (.ifCond .ne 5, 3) := by decide +kernel
theorem d_L_objectHeadPlace_9 : decode b_L_objectHeadPlace 9 = .ok (.iload_n 1, 1) := by decide +kernel
theorem d_L_objectHeadPlace_10 : decode b_L_objectHeadPlace 10 = .ok (.ireturn, 1) := by decide +kernel
theorem d_L_objectHeadPlace_11 : decode b_L_objectHeadPlace 11 = .ok (.aload_n 0, 1) := by decide +kernel
theorem d_L_objectHeadPlace_12 : decode b_L_objectHeadPlace 12 = .ok (.iload_n 1, 1) := by decide +kernel
theorem d_L_objectHeadPlace_13 : decode b_L_objectHeadPlace 13 = .ok (.iconst 4, 1) := by decide +kernel
theorem d_L_objectHeadPlace_14 : decode b_L_objectHeadPlace 14 = .ok (.iadd, 1) := by decide +kernel
theorem d_L_objectHeadPlace_15 : decode b_L_objectHeadPlace 15 = .ok (.invokevirtual 13, 3) := by decide +kernel
theorem d_L_objectHeadPlace_18 : decode b_L_objectHeadPlace 18 = .ok (.istore_n 3, 1) := by decide +kernel
theorem d_L_objectHeadPlace_19 : decode b_L_objectHeadPlace 19 = .ok (.iload_n 3, 1) := by decide +kernel
theorem d_L_objectHeadPlace_20 : decode b_L_objectHeadPlace 20 = .ok (.ifCond .eq 12, 3) := by decide +kernel
theorem d_L_objectHeadPlace_23 : decode b_L_objectHeadPlace 23 = .ok (.iload_n 3, 1) := by decide +kernel
theorem d_L_objectHeadPlace_24 : decode b_L_objectHeadPlace 24 = .ok (.iconst 1, 1) := by decide +kernel
theorem d_L_objectHeadPlace_25 : decode b_L_objectHeadPlace 25 = .ok (.if_icmp .eq 7, 3) := by decide +kernel
theorem d_L_objectHeadPlace_28 : decode b_L_objectHeadPlace 28 = .ok (.iload_n 1, 1) := by decide +kernel
theorem d_L_objectHeadPlace_29 : decode b_L_objectHeadPlace 29 = .ok (.iconst 4, 1) := by decide +kernel
theorem d_L_objectHeadPlace_30 : decode b_L_objectHeadPlace 30 = .ok (.iadd, 1) := by decide +kernel
theorem d_L_objectHeadPlace_31 : decode b_L_objectHeadPlace 31 = .ok (.ireturn, 1) := by decide +kernel
theorem d_L_objectHeadPlace_32 : decode b_L_objectHeadPlace 32 = .ok (.aload_n 0, 1) := by decide +kernel
theorem d_L_objectHeadPlace_33 : decode b_L_objectHeadPlace 33 = .ok (.iload_n 1, 1) := by decide +kernel
theorem d_L_objectHeadPlace_34 : decode b_L_objectHeadPlace 34 = .ok (.iconst 5, 1) := by decide +kernel
theorem d_L_objectHeadPlace_35 : decode b_L_objectHeadPlace 35 = .ok (.iadd, 1) := by decide +kernel
theorem d_L_objectHeadPlace_36 : decode b_L_objectHeadPlace 36 = .ok (.iconst 2, 1) := by decide +kernel
theorem d_L_objectHeadPlace_37 : decode b_L_objectHeadPlace 37 = .ok (.invokevirtual 22, 3) := by decide +kernel
theorem d_L_objectHeadPlace_40 : decode b_L_objectHeadPlace 40 = .ok (.ifCond .eq 7, 3) := by decide +kernel
theorem d_L_objectHeadPlace_43 : decode b_L_objectHeadPlace 43 = .ok (.iconst (-1), 1) := by decide +kernel
theorem d_L_objectHeadPlace_44 : decode b_L_objectHeadPlace 44 = .ok (.goto 6, 3) := by decide +kernel
theorem d_L_objectHeadPlace_47 : decode b_L_objectHeadPlace 47 = .ok (.iload_n 1, 1) := by decide +kernel
theorem d_L_objectHeadPlace_48 : decode b_L_objectHeadPlace 48 = .ok (.iconst 5, 1) := by decide +kernel
theorem d_L_objectHeadPlace_49 : decode b_L_objectHeadPlace 49 = .ok (.iadd, 1) := by decide +kernel
theorem d_L_objectHeadPlace_50 : decode b_L_objectHeadPlace 50 = .ok (.ireturn, 1) := by decide +kernel
theorem d_L_takeBytes_0 : decode b_L_takeBytes 0 = .ok (.aload_n 0, 1) := by decide +kernel
theorem d_L_takeBytes_1 : decode b_L_takeBytes 1 = .ok (.iload_n 1, 1) := by decide +kernel
theorem d_L_takeBytes_2 : decode b_L_takeBytes 2 = .ok (.iload_n 2, 1) := by decide +kernel
theorem d_L_takeBytes_3 : decode b_L_takeBytes 3 = .ok (.invokevirtual 22, 3) := by decide +kernel
theorem d_L_takeBytes_6 : decode b_L_takeBytes 6 = .ok (.ifCond .ne 5, 3) := by decide +kernel
theorem d_L_takeBytes_9 : decode b_L_takeBytes 9 = .ok (.iload_n 1, 1) := by decide +kernel
theorem d_L_takeBytes_10 : decode b_L_takeBytes 10 = .ok (.ireturn, 1) := by decide +kernel
theorem d_L_takeBytes_11 : decode b_L_takeBytes 11 = .ok (.iconst 0, 1) := by decide +kernel
theorem d_L_takeBytes_12 : decode b_L_takeBytes 12 = .ok (.istore 4, 2) := by decide +kernel
theorem d_L_takeBytes_14 : decode b_L_takeBytes 14 = .ok (.iload 4, 2) := by decide +kernel
theorem d_L_takeBytes_16 : decode b_L_takeBytes 16 = .ok (.iload_n 2, 1) := by decide +kernel
theorem d_L_takeBytes_17 : decode b_L_takeBytes 17 = .ok (.if_icmp .ge 21, 3) := by decide +kernel
theorem d_L_takeBytes_20 : decode b_L_takeBytes 20 = .ok (.aload_n 3, 1) := by decide +kernel
theorem d_L_takeBytes_21 : decode b_L_takeBytes 21 = .ok (.aload_n 0, 1) := by decide +kernel
theorem d_L_takeBytes_22 : decode b_L_takeBytes 22 = .ok (.iload_n 1, 1) := by decide +kernel
theorem d_L_takeBytes_23 : decode b_L_takeBytes 23 = .ok (.iload 4, 2) := by decide +kernel
theorem d_L_takeBytes_25 : decode b_L_takeBytes 25 = .ok (.iadd, 1) := by decide +kernel
theorem d_L_takeBytes_26 : decode b_L_takeBytes 26 = .ok (.invokevirtual 13, 3) := by decide +kernel
theorem d_L_takeBytes_29 : decode b_L_takeBytes 29 = .ok (.invokevirtual 76, 3) := by decide +kernel
theorem d_L_takeBytes_32 : decode b_L_takeBytes 32 = .ok (.iinc 4 1, 3) := by decide +kernel
theorem d_L_takeBytes_35 : decode b_L_takeBytes 35 = .ok (.goto (-21), 3) := by decide +kernel
theorem d_L_takeBytes_38 : decode b_L_takeBytes 38 = .ok (.iconst (-1), 1) := by decide +kernel
theorem d_L_takeBytes_39 : decode b_L_takeBytes 39 = .ok (.ireturn, 1) := by decide +kernel
theorem d_L_takeFields_0 : decode b_L_takeFields 0 = .ok (.iconst 0, 1) := by decide +kernel
theorem d_L_takeFields_1 : decode b_L_takeFields 1 = .ok (.istore 5, 2) := by decide +kernel
theorem d_L_takeFields_3 : decode b_L_takeFields 3 = .ok (.iload 5, 2) := by decide +kernel
theorem d_L_takeFields_5 : decode b_L_takeFields 5 = .ok (.iload_n 2, 1) := by decide +kernel
theorem d_L_takeFields_6 : decode b_L_takeFields 6 = .ok (.if_icmp .ge 41, 3) := by decide +kernel
theorem d_L_takeFields_9 : decode b_L_takeFields 9 = .ok (.iload_n 1, 1) := by decide +kernel
theorem d_L_takeFields_10 : decode b_L_takeFields 10 = .ok (.iconst 4, 1) := by decide +kernel
theorem d_L_takeFields_11 : decode b_L_takeFields 11 = .ok (.iload 5, 2) := by decide +kernel
theorem d_L_takeFields_13 : decode b_L_takeFields 13 = .ok (.imul, 1) := by decide +kernel
theorem d_L_takeFields_14 : decode b_L_takeFields 14 = .ok (.iadd, 1) := by decide +kernel
theorem d_L_takeFields_15 : decode b_L_takeFields 15 = .ok (.istore 6, 2) := by decide +kernel
theorem d_L_takeFields_17 : decode b_L_takeFields 17 = .ok (.aload_n 0, 1) := by decide +kernel
theorem d_L_takeFields_18 : decode b_L_takeFields 18 = .ok (.iload 6, 2) := by decide +kernel
theorem d_L_takeFields_20 : decode b_L_takeFields 20 = .ok (.iload_n 3, 1) := by decide +kernel
theorem d_L_takeFields_21 : decode b_L_takeFields 21 = .ok (.invokestatic 44, 3) := by decide +kernel
theorem d_L_takeFields_24 : decode b_L_takeFields 24 = .ok (.ifCond .ne 6, 3) := by decide +kernel
theorem d_L_takeFields_27 : decode b_L_takeFields 27 = .ok (.iload 6, 2) := by decide +kernel
theorem d_L_takeFields_29 : decode b_L_takeFields 29 = .ok (.ireturn, 1) := by decide +kernel
theorem d_L_takeFields_30 : decode b_L_takeFields 30 = .ok (.aload 4, 2) := by decide +kernel
theorem d_L_takeFields_32 : decode b_L_takeFields 32 = .ok (.aload_n 0, 1) := by decide +kernel
theorem d_L_takeFields_33 : decode b_L_takeFields 33 = .ok (.iload 6, 2) := by decide +kernel
theorem d_L_takeFields_35 : decode b_L_takeFields 35 = .ok (.invokevirtual 53, 3) := by decide +kernel
theorem d_L_takeFields_38 : decode b_L_takeFields 38 = .ok (.invokevirtual 76, 3) := by decide +kernel
theorem d_L_takeFields_41 : decode b_L_takeFields 41 = .ok (.iinc 5 1, 3) := by decide +kernel
theorem d_L_takeFields_44 : decode b_L_takeFields 44 = .ok (.goto (-41), 3) := by decide +kernel
theorem d_L_takeFields_47 : decode b_L_takeFields 47 = .ok (.iconst (-1), 1) := by decide +kernel
theorem d_L_takeFields_48 : decode b_L_takeFields 48 = .ok (.ireturn, 1) := by decide +kernel
theorem d_L_takeObjects_0 : decode b_L_takeObjects 0 = .ok (.aload_n 0, 1) := by decide +kernel
theorem d_L_takeObjects_1 : decode b_L_takeObjects 1 = .ok (.bipush 6, 2) := by decide +kernel
theorem d_L_takeObjects_3 : decode b_L_takeObjects 3 = .ok (.invokevirtual 30, 3) := by decide +kernel
theorem d_L_takeObjects_6 : decode b_L_takeObjects 6 = .ok (.istore_n 2, 1) := by decide +kernel
theorem d_L_takeObjects_7 : decode b_L_takeObjects 7 = .ok (.sipush 208, 3) := by decide +kernel
theorem d_L_takeObjects_10 : decode b_L_takeObjects 10 = .ok (.istore_n 3, 1) := by decide +kernel
theorem d_L_takeObjects_11 : decode b_L_takeObjects 11 = .ok (.iconst 1, 1) := by decide +kernel
theorem d_L_takeObjects_12 : decode b_L_takeObjects 12 = .ok (.istore 4, 2) := by decide +kernel
theorem d_L_takeObjects_14 : decode b_L_takeObjects 14 = .ok (.iload 4, 2) := by decide +kernel
theorem d_L_takeObjects_16 : decode b_L_takeObjects 16 = .ok (.iload_n 2, 1) := by decide +kernel
theorem d_L_takeObjects_17 : decode b_L_takeObjects 17 = .ok (.if_icmp .gt 107, 3) := by decide +kernel
theorem d_L_takeObjects_20 : decode b_L_takeObjects 20 = .ok (.aload_n 0, 1) := by decide +kernel
theorem d_L_takeObjects_21 : decode b_L_takeObjects 21 = .ok (.iload_n 3, 1) := by decide +kernel
theorem d_L_takeObjects_22 : decode b_L_takeObjects 22 = .ok (.iload_n 2, 1) := by decide +kernel
theorem d_L_takeObjects_23 : decode b_L_takeObjects 23 = .ok (.invokestatic 56, 3) := by decide +kernel
theorem d_L_takeObjects_26 : decode b_L_takeObjects 26 = .ok (.istore 5, 2) := by decide +kernel
theorem d_L_takeObjects_28 : decode b_L_takeObjects 28 = .ok (.iload 5, 2) := by decide +kernel
theorem d_L_takeObjects_30 : decode b_L_takeObjects 30 = .ok (.iconst (-1), 1) := by decide +kernel
theorem d_L_takeObjects_31 : decode b_L_takeObjects 31 = .ok (.if_icmp .eq 6, 3) := by decide +kernel
theorem d_L_takeObjects_34 : decode b_L_takeObjects 34 = .ok (.iload 5, 2) := by decide +kernel
theorem d_L_takeObjects_36 : decode b_L_takeObjects 36 = .ok (.ireturn, 1) := by decide +kernel
theorem d_L_takeObjects_37 : decode b_L_takeObjects 37 = .ok (.aload_n 0, 1) := by decide +kernel
theorem d_L_takeObjects_38 : decode b_L_takeObjects 38 = .ok (.iload_n 3, 1) := by decide +kernel
theorem d_L_takeObjects_39 : decode b_L_takeObjects 39 = .ok (.iconst 4, 1) := by decide +kernel
theorem d_L_takeObjects_40 : decode b_L_takeObjects 40 = .ok (.iadd, 1) := by decide +kernel
theorem d_L_takeObjects_41 : decode b_L_takeObjects 41 = .ok (.invokevirtual 13, 3) := by decide +kernel
theorem d_L_takeObjects_44 : decode b_L_takeObjects 44 = .ok (.istore 6, 2) := by decide +kernel
theorem d_L_takeObjects_46 : decode b_L_takeObjects 46 = .ok (.aload_n 0, 1) := by decide +kernel
theorem d_L_takeObjects_47 : decode b_L_takeObjects 47 = .ok (.iload_n 3, 1) := by decide +kernel
theorem d_L_takeObjects_48 : decode b_L_takeObjects 48 = .ok (.iconst 5, 1) := by decide +kernel
theorem d_L_takeObjects_49 : decode b_L_takeObjects 49 = .ok (.iadd, 1) := by decide +kernel
theorem d_L_takeObjects_50 : decode b_L_takeObjects 50 = .ok (.invokevirtual 30, 3) := by decide +kernel
theorem d_L_takeObjects_53 : decode b_L_takeObjects 53 = .ok (.istore 7, 2) := by decide +kernel
theorem d_L_takeObjects_55 : decode b_L_takeObjects 55 = .ok (.aload_n 1, 1) := by decide +kernel
theorem d_L_takeObjects_56 : decode b_L_takeObjects 56 = .ok (.aload_n 0, 1) := by decide +kernel
theorem d_L_takeObjects_57 : decode b_L_takeObjects 57 = .ok (.iload_n 3, 1) := by decide +kernel
theorem d_L_takeObjects_58 : decode b_L_takeObjects 58 = .ok (.invokevirtual 53, 3) := by decide +kernel
theorem d_L_takeObjects_61 : decode b_L_takeObjects 61 = .ok (.iload 6, 2) := by decide +kernel
theorem d_L_takeObjects_63 : decode b_L_takeObjects 63 = .ok (.iload 7, 2) := by decide +kernel
theorem d_L_takeObjects_65 : decode b_L_takeObjects 65 = .ok (.invokevirtual 60, 3) := by decide +kernel
theorem d_L_takeObjects_68 : decode b_L_takeObjects 68 = .ok (.iinc 3 7, 3) := by decide +kernel
theorem d_L_takeObjects_71 : decode b_L_takeObjects 71 = .ok (.iload 6, 2) := by decide +kernel
theorem d_L_takeObjects_73 : decode b_L_takeObjects 73 = .ok (.iconst 1, 1) := by decide +kernel
theorem d_L_takeObjects_74 : decode b_L_takeObjects 74 = .ok (.if_icmp .ne 14, 3) := by decide +kernel
theorem d_L_takeObjects_77 : decode b_L_takeObjects 77 = .ok (.aload_n 0, 1) := by decide +kernel
theorem d_L_takeObjects_78 : decode b_L_takeObjects 78 = .ok (.iload_n 3, 1) := by decide +kernel
theorem d_L_takeObjects_79 : decode b_L_takeObjects 79 = .ok (.iload 7, 2) := by decide +kernel
theorem d_L_takeObjects_81 : decode b_L_takeObjects 81 = .ok (.aload_n 1, 1) := by decide +kernel
theorem d_L_takeObjects_82 : decode b_L_takeObjects 82 = .ok (.invokestatic 64, 3) := by decide +kernel
theorem d_L_takeObjects_85 : decode b_L_takeObjects 85 = .ok (.goto 12, 3) := by decide +kernel
theorem d_L_takeObjects_88 : decode b_L_takeObjects 88 = .ok (.aload_n 0, 1) := by decide +kernel
theorem d_L_takeObjects_89 : decode b_L_takeObjects 89 = .ok (.iload_n 3, 1) := by decide +kernel
theorem d_L_takeObjects_90 : decode b_L_takeObjects 90 = .ok (.iload 7, 2) := by decide +kernel
theorem d_L_takeObjects_92 : decode b_L_takeObjects 92 = .ok (.iload_n 2, 1) := by decide +kernel
theorem d_L_takeObjects_93 : decode b_L_takeObjects 93 = .ok (.aload_n 1, 1) := by decide +kernel
theorem d_L_takeObjects_94 : decode b_L_takeObjects 94 = .ok (.invokestatic 68, 3) := by decide +kernel
theorem d_L_takeObjects_97 : decode b_L_takeObjects 97 = .ok (.istore 5, 2) := by decide +kernel
theorem d_L_takeObjects_99 : decode b_L_takeObjects 99 = .ok (.iload 5, 2) := by decide +kernel
theorem d_L_takeObjects_101 : decode b_L_takeObjects 101 = .ok (.iconst (-1), 1) := by decide +kernel
theorem d_L_takeObjects_102 : decode b_L_takeObjects 102 = .ok (.if_icmp .eq 6, 3) := by decide +kernel
theorem d_L_takeObjects_105 : decode b_L_takeObjects 105 = .ok (.iload 5, 2) := by decide +kernel
theorem d_L_takeObjects_107 : decode b_L_takeObjects 107 = .ok (.ireturn, 1) := by decide +kernel
theorem d_L_takeObjects_108 : decode b_L_takeObjects 108 = .ok (.iload_n 3, 1) := by decide +kernel
theorem d_L_takeObjects_109 : decode b_L_takeObjects 109 = .ok (.iload 6, 2) := by decide +kernel
theorem d_L_takeObjects_111 : decode b_L_takeObjects 111 = .ok (.iload 7, 2) := by decide +kernel
theorem d_L_takeObjects_113 : decode b_L_takeObjects 113 = .ok (.invokestatic 72, 3) := by decide +kernel
theorem d_L_takeObjects_116 : decode b_L_takeObjects 116 = .ok (.iadd, 1) := by decide +kernel
theorem d_L_takeObjects_117 : decode b_L_takeObjects 117 = .ok (.istore_n 3, 1) := by decide +kernel
theorem d_L_takeObjects_118 : decode b_L_takeObjects 118 = .ok (.iinc 4 1, 3) := by decide +kernel
theorem d_L_takeObjects_121 : decode b_L_takeObjects 121 = .ok (.goto (-107), 3) := by decide +kernel
theorem d_L_takeObjects_124 : decode b_L_takeObjects 124 = .ok (.aload_n 0, 1) := by decide +kernel
theorem d_L_takeObjects_125 : decode b_L_takeObjects 125 = .ok (.getfield 26, 3) := by decide +kernel
theorem d_L_takeObjects_128 : decode b_L_takeObjects 128 = .ok (.iload_n 3, 1) := by decide +kernel
theorem d_L_takeObjects_129 : decode b_L_takeObjects 129 = .ok (.if_icmp .le 7, 3) := by decide +kernel
theorem d_L_takeObjects_132 : decode b_L_takeObjects 132 = .ok (.iload_n 3, 1) := by decide +kernel
theorem d_L_takeObjects_133 : decode b_L_takeObjects 133 = .ok (.goto 4, 3) := by decide +kernel
theorem d_L_takeObjects_136 : decode b_L_takeObjects 136 = .ok (.iconst (-1), 1) := by decide +kernel
theorem d_L_takeObjects_137 : decode b_L_takeObjects 137 = .ok (.ireturn, 1) := by decide +kernel
theorem d_L_takeSpecials_0 : decode b_L_takeSpecials 0 = .ok (.aload_n 1, 1) := by decide +kernel
theorem d_L_takeSpecials_1 : decode b_L_takeSpecials 1 = .ok (.invokevirtual 33, 3) := by decide +kernel
theorem d_L_takeSpecials_4 : decode b_L_takeSpecials 4 = .ok (.aload_n 1, 1) := by decide +kernel
theorem d_L_takeSpecials_5 : decode b_L_takeSpecials 5 = .ok (.aload_n 0, 1) := by decide +kernel
theorem d_L_takeSpecials_6 : decode b_L_takeSpecials 6 = .ok (.iconst 4, 1) := by decide +kernel
theorem d_L_takeSpecials_7 : decode b_L_takeSpecials 7 = .ok (.invokevirtual 13, 3) := by decide +kernel
theorem d_L_takeSpecials_10 : decode b_L_takeSpecials 10 = .ok (.putfield 38, 3) := by decide +kernel
theorem d_L_takeSpecials_13 : decode b_L_takeSpecials 13 = .ok (.aload_n 1, 1) := by decide +kernel
theorem d_L_takeSpecials_14 : decode b_L_takeSpecials 14 = .ok (.aload_n 0, 1) := by decide +kernel
theorem d_L_takeSpecials_15 : decode b_L_takeSpecials 15 = .ok (.iconst 5, 1) := by decide +kernel
theorem d_L_takeSpecials_16 : decode b_L_takeSpecials 16 = .ok (.invokevirtual 13, 3) := by decide +kernel
theorem d_L_takeSpecials_19 : decode b_L_takeSpecials 19 = .ok (.putfield 41, 3) := by decide +kernel
theorem d_L_takeSpecials_22 : decode b_L_takeSpecials 22 = .ok (.aload_n 0, 1) := by decide +kernel
theorem d_L_takeSpecials_23 : decode b_L_takeSpecials 23 = .ok (.bipush 6, 2) := by decide +kernel
theorem d_L_takeSpecials_25 : decode b_L_takeSpecials 25 = .ok (.invokevirtual 30, 3) := by decide +kernel
theorem d_L_takeSpecials_28 : decode b_L_takeSpecials 28 = .ok (.istore_n 2, 1) := by decide +kernel
theorem d_L_takeSpecials_29 : decode b_L_takeSpecials 29 = .ok (.iconst 0, 1) := by decide +kernel
theorem d_L_takeSpecials_30 : decode b_L_takeSpecials 30 = .ok (.istore_n 3, 1) := by decide +kernel
theorem d_L_takeSpecials_31 : decode b_L_takeSpecials 31 = .ok (.iload_n 3, 1) := by decide +kernel
theorem d_L_takeSpecials_32 : decode b_L_takeSpecials 32 = .ok (.bipush 50, 2) := by decide +kernel
theorem d_L_takeSpecials_34 : decode b_L_takeSpecials 34 = .ok (.if_icmp .ge 42, 3) := by decide +kernel
theorem d_L_takeSpecials_37 : decode b_L_takeSpecials 37 = .ok (.bipush 8, 2) := by decide +kernel
theorem d_L_takeSpecials_39 : decode b_L_takeSpecials 39 = .ok (.iconst 4, 1) := by decide +kernel
theorem d_L_takeSpecials_40 : decode b_L_takeSpecials 40 = .ok (.iload_n 3, 1) := by decide +kernel
theorem d_L_takeSpecials_41 : decode b_L_takeSpecials 41 = .ok (.imul, 1) := by decide +kernel
theorem d_L_takeSpecials_42 : decode b_L_takeSpecials 42 = .ok (.iadd, 1) := by decide +kernel
theorem d_L_takeSpecials_43 : decode b_L_takeSpecials 43 = .ok (.istore 4, 2) := by decide +kernel
theorem d_L_takeSpecials_45 : decode b_L_takeSpecials 45 = .ok (.aload_n 0, 1) := by decide +kernel
theorem d_L_takeSpecials_46 : decode b_L_takeSpecials 46 = .ok (.iload 4, 2) := by decide +kernel
theorem d_L_takeSpecials_48 : decode b_L_takeSpecials 48 = .ok (.iload_n 2, 1) := by decide +kernel
theorem d_L_takeSpecials_49 : decode b_L_takeSpecials 49 = .ok (.invokestatic 44, 3) := by decide +kernel
theorem d_L_takeSpecials_52 : decode b_L_takeSpecials 52 = .ok (.ifCond .ne 6, 3) := by decide +kernel
theorem d_L_takeSpecials_55 : decode b_L_takeSpecials 55 = .ok (.iload 4, 2) := by decide +kernel
theorem d_L_takeSpecials_57 : decode b_L_takeSpecials 57 = .ok (.ireturn, 1) := by decide +kernel
theorem d_L_takeSpecials_58 : decode b_L_takeSpecials 58 = .ok (.aload_n 1, 1) := by decide +kernel
theorem d_L_takeSpecials_59 : decode b_L_takeSpecials 59 = .ok (.getfield 50, 3) := by decide +kernel
theorem d_L_takeSpecials_62 : decode b_L_takeSpecials 62 = .ok (.iload_n 3, 1) := by decide +kernel
theorem d_L_takeSpecials_63 : decode b_L_takeSpecials 63 = .ok (.aload_n 0, 1) := by decide +kernel
theorem d_L_takeSpecials_64 : decode b_L_takeSpecials 64 = .ok (.iload 4, 2) := by decide +kernel
theorem d_L_takeSpecials_66 : decode b_L_takeSpecials 66 = .ok (.invokevirtual 53, 3) := by decide +kernel
theorem d_L_takeSpecials_69 : decode b_L_takeSpecials 69 = .ok (.iastore, 1) := by decide +kernel
theorem d_L_takeSpecials_70 : decode b_L_takeSpecials 70 = .ok (.iinc 3 1, 3) := by decide +kernel
theorem d_L_takeSpecials_73 : decode b_L_takeSpecials 73 = .ok (.goto (-42), 3) := by decide +kernel
theorem d_L_takeSpecials_76 : decode b_L_takeSpecials 76 = .ok (.iconst (-1), 1) := by decide +kernel
theorem d_L_takeSpecials_77 : decode b_L_takeSpecials 77 = .ok (.ireturn, 1) := by decide +kernel
theorem d_Mt_max_0 : decode b_Mt_max 0 = .ok (.iload_n 0, 1) := by decide +kernel
theorem d_Mt_max_1 : decode b_Mt_max 1 = .ok (.iload_n 1, 1) := by decide +kernel
theorem d_Mt_max_2 : decode b_Mt_max 2 = .ok (.if_icmp .lt 7, 3) := by decide +kernel
theorem d_Mt_max_5 : decode b_Mt_max 5 = .ok (.iload_n 0, 1) := by decide +kernel
theorem d_Mt_max_6 : decode b_Mt_max 6 = .ok (.goto 4, 3) := by decide +kernel
theorem d_Mt_max_9 : decode b_Mt_max 9 = .ok (.iload_n 1, 1) := by decide +kernel
theorem d_Mt_max_10 : decode b_Mt_max 10 = .ok (.ireturn, 1) := by decide +kernel
theorem d_Mt_min_0 : decode b_Mt_min 0 = .ok (.iload_n 0, 1) := by decide +kernel
theorem d_Mt_min_1 : decode b_Mt_min 1 = .ok (.iload_n 1, 1) := by decide +kernel
theorem d_Mt_min_2 : decode b_Mt_min 2 = .ok (.if_icmp .gt 7, 3) := by decide +kernel
theorem d_Mt_min_5 : decode b_Mt_min 5 = .ok (.iload_n 0, 1) := by decide +kernel
theorem d_Mt_min_6 : decode b_Mt_min 6 = .ok (.goto 4, 3) := by decide +kernel
theorem d_Mt_min_9 : decode b_Mt_min 9 = .ok (.iload_n 1, 1) := by decide +kernel
theorem d_Mt_min_10 : decode b_Mt_min 10 = .ok (.ireturn, 1) := by decide +kernel
theorem d_P_clear_0 : decode b_P_clear 0 = .ok (.aload_n 0, 1) := by decide +kernel
theorem d_P_clear_1 : decode b_P_clear 1 = .ok (.iconst 0, 1) := by decide +kernel
theorem d_P_clear_2 : decode b_P_clear 2 = .ok (.putfield 41, 3) := by decide +kernel
theorem d_P_clear_5 : decode b_P_clear 5 = .ok (.aload_n 1, 1) := by decide +kernel
theorem d_P_clear_6 : decode b_P_clear 6 = .ok (.getfield 50, 3) := by decide +kernel
theorem d_P_clear_9 : decode b_P_clear 9 = .ok (.arraylength, 1) := by decide +kernel
theorem d_P_clear_10 : decode b_P_clear 10 = .ok (.aload_n 2, 1) := by decide +kernel
theorem d_P_clear_11 : decode b_P_clear 11 = .ok (.getfield 50, 3) := by decide +kernel
theorem d_P_clear_14 : decode b_P_clear 14 = .ok (.arraylength, 1) := by decide +kernel
theorem d_P_clear_15 : decode b_P_clear 15 = .ok (.invokestatic 53, 3) := by decide +kernel
theorem d_P_clear_18 : decode b_P_clear 18 = .ok (.istore_n 3, 1) := by decide +kernel
theorem d_P_clear_19 : decode b_P_clear 19 = .ok (.aload_n 0, 1) := by decide +kernel
theorem d_P_clear_20 : decode b_P_clear 20 = .ok (.getfield 9, 3) := by decide +kernel
theorem d_P_clear_23 : decode b_P_clear 23 = .ok (.arraylength, 1) := by decide +kernel
theorem d_P_clear_24 : decode b_P_clear 24 = .ok (.iload_n 3, 1) := by decide +kernel
theorem d_P_clear_25 : decode b_P_clear 25 = .ok (.if_icmp .ge 24, 3) := by decide +kernel
theorem d_P_clear_28 : decode b_P_clear 28 = .ok (.aload_n 0, 1) := by decide +kernel
theorem d_P_clear_29 : decode b_P_clear 29 = .ok (.iload_n 3, 1) := by decide +kernel
theorem d_P_clear_30 : decode b_P_clear 30 = .ok (.newarray .int, 2) := by decide +kernel
theorem d_P_clear_32 : decode b_P_clear 32 = .ok (.putfield 9, 3) := by decide +kernel
theorem d_P_clear_35 : decode b_P_clear 35 = .ok (.aload_n 0, 1) := by decide +kernel
theorem d_P_clear_36 : decode b_P_clear 36 = .ok (.iload_n 3, 1) := by decide +kernel
theorem d_P_clear_37 : decode b_P_clear 37 = .ok (.newarray .int, 2) := by decide +kernel
theorem d_P_clear_39 : decode b_P_clear 39 = .ok (.putfield 15, 3) := by decide +kernel
theorem d_P_clear_42 : decode b_P_clear 42 = .ok (.aload_n 0, 1) := by decide +kernel
theorem d_P_clear_43 : decode b_P_clear 43 = .ok (.iload_n 3, 1) := by decide +kernel
theorem d_P_clear_44 : decode b_P_clear 44 = .ok (.newarray .int, 2) := by decide +kernel
theorem d_P_clear_46 : decode b_P_clear 46 = .ok (.putfield 18, 3) := by decide +kernel
theorem d_P_clear_49 : decode b_P_clear 49 = .ok (.aload_n 0, 1) := by decide +kernel
theorem d_P_clear_50 : decode b_P_clear 50 = .ok (.getfield 9, 3) := by decide +kernel
theorem d_P_clear_53 : decode b_P_clear 53 = .ok (.iconst 0, 1) := by decide +kernel
theorem d_P_clear_54 : decode b_P_clear 54 = .ok (.invokestatic 59, 3) := by decide +kernel
theorem d_P_clear_57 : decode b_P_clear 57 = .ok (.aload_n 0, 1) := by decide +kernel
theorem d_P_clear_58 : decode b_P_clear 58 = .ok (.getfield 15, 3) := by decide +kernel
theorem d_P_clear_61 : decode b_P_clear 61 = .ok (.iconst 0, 1) := by decide +kernel
theorem d_P_clear_62 : decode b_P_clear 62 = .ok (.invokestatic 59, 3) := by decide +kernel
theorem d_P_clear_65 : decode b_P_clear 65 = .ok (.return_, 1) := by decide +kernel
theorem d_P_init_0 : decode b_P_init 0 = .ok (.aload_n 0, 1) := by decide +kernel
theorem d_P_init_1 : decode b_P_init 1 = .ok (.invokespecial 3, 3) := by decide +kernel
theorem d_P_init_4 : decode b_P_init 4 = .ok (.aload_n 0, 1) := by decide +kernel
theorem d_P_init_5 : decode b_P_init 5 = .ok (.bipush 64, 2) := by decide +kernel
theorem d_P_init_7 : decode b_P_init 7 = .ok (.newarray .int, 2) := by decide +kernel
theorem d_P_init_9 : decode b_P_init 9 = .ok (.putfield 9, 3) := by decide +kernel
theorem d_P_init_12 : decode b_P_init 12 = .ok (.aload_n 0, 1) := by decide +kernel
theorem d_P_init_13 : decode b_P_init 13 = .ok (.bipush 64, 2) := by decide +kernel
theorem d_P_init_15 : decode b_P_init 15 = .ok (.newarray .int, 2) := by decide +kernel
theorem d_P_init_17 : decode b_P_init 17 = .ok (.putfield 15, 3) := by decide +kernel
theorem d_P_init_20 : decode b_P_init 20 = .ok (.aload_n 0, 1) := by decide +kernel
theorem d_P_init_21 : decode b_P_init 21 = .ok (.bipush 64, 2) := by decide +kernel
theorem d_P_init_23 : decode b_P_init 23 = .ok (.newarray .int, 2) := by decide +kernel
theorem d_P_init_25 : decode b_P_init 25 = .ok (.putfield 18, 3) := by decide +kernel
theorem d_P_init_28 : decode b_P_init 28 = .ok (.return_, 1) := by decide +kernel
theorem d_P_match_0 : decode b_P_match 0 = .ok (.aload_n 1, 1) := by decide +kernel
theorem d_P_match_1 : decode b_P_match 1 = .ok (.iload_n 2, 1) := by decide +kernel
theorem d_P_match_2 : decode b_P_match 2 = .ok (.invokevirtual 65, 3) := by decide +kernel
theorem d_P_match_5 : decode b_P_match 5 = .ok (.istore 5, 2) := by decide +kernel
theorem d_P_match_7 : decode b_P_match 7 = .ok (.aload_n 3, 1) := by decide +kernel
theorem d_P_match_8 : decode b_P_match 8 = .ok (.iload 4, 2) := by decide +kernel
theorem d_P_match_10 : decode b_P_match 10 = .ok (.invokevirtual 65, 3) := by decide +kernel
theorem d_P_match_13 : decode b_P_match 13 = .ok (.istore 6, 2) := by decide +kernel
theorem d_P_match_15 : decode b_P_match 15 = .ok (.iload 5, 2) := by decide +kernel
theorem d_P_match_17 : decode b_P_match 17 = .ok (.ifCond .eq 8, 3) := by decide +kernel
theorem d_P_match_20 : decode b_P_match 20 = .ok (.iload 6, 2) := by decide +kernel
theorem d_P_match_22 : decode b_P_match 22 = .ok (.ifCond .ne 22, 3) := by decide +kernel
theorem d_P_match_25 : decode b_P_match 25 = .ok (.iload 5, 2) := by decide +kernel
theorem d_P_match_27 : decode b_P_match 27 = .ok (.iload 6, 2) := by decide +kernel
theorem d_P_match_29 : decode b_P_match 29 = .ok (.if_icmp .ne 13, 3) := by decide +kernel
theorem d_P_match_32 : decode b_P_match 32 = .ok (.iload_n 2, 1) := by decide +kernel
theorem d_P_match_33 : decode b_P_match 33 = .ok (.iload 4, 2) := by decide +kernel
theorem d_P_match_35 : decode b_P_match 35 = .ok (.if_icmp .ne 7, 3) := by decide +kernel
theorem d_P_match_38 : decode b_P_match 38 = .ok (.iconst 1, 1) := by decide +kernel
theorem d_P_match_39 : decode b_P_match 39 = .ok (.goto 4, 3) := by decide +kernel
theorem d_P_match_42 : decode b_P_match 42 = .ok (.iconst 0, 1) := by decide +kernel
theorem d_P_match_43 : decode b_P_match 43 = .ok (.ireturn, 1) := by decide +kernel
theorem d_P_match_44 : decode b_P_match 44 = .ok (.aload_n 0, 1) := by decide +kernel
theorem d_P_match_45 : decode b_P_match 45 = .ok (.getfield 9, 3) := by decide +kernel
theorem d_P_match_48 : decode b_P_match 48 = .ok (.iload 5, 2) := by decide +kernel
theorem d_P_match_50 : decode b_P_match 50 = .ok (.iaload, 1) := by decide +kernel
theorem d_P_match_51 : decode b_P_match 51 = .ok (.ifCond .ne 52, 3) := by decide +kernel
theorem d_P_match_54 : decode b_P_match 54 = .ok (.aload_n 0, 1) := by decide +kernel
theorem d_P_match_55 : decode b_P_match 55 = .ok (.getfield 15, 3) := by decide +kernel
theorem d_P_match_58 : decode b_P_match 58 = .ok (.iload 6, 2) := by decide +kernel
theorem d_P_match_60 : decode b_P_match 60 = .ok (.iaload, 1) := by decide +kernel
theorem d_P_match_61 : decode b_P_match 61 = .ok (.ifCond .ne 42, 3) := by decide +kernel
theorem d_P_match_64 : decode b_P_match 64 = .ok (.aload_n 0, 1) := by decide +kernel
theorem d_P_match_65 : decode b_P_match 65 = .ok (.getfield 9, 3) := by decide +kernel
theorem d_P_match_68 : decode b_P_match 68 = .ok (.iload 5, 2) := by decide +kernel
theorem d_P_match_70 : decode b_P_match 70 = .ok (.iload 6, 2) := by decide +kernel
theorem d_P_match_72 : decode b_P_match 72 = .ok (.iastore, 1) := by decide +kernel
theorem d_P_match_73 : decode b_P_match 73 = .ok (.aload_n 0, 1) := by decide +kernel
theorem d_P_match_74 : decode b_P_match 74 = .ok (.getfield 15, 3) := by decide +kernel
theorem d_P_match_77 : decode b_P_match 77 = .ok (.iload 6, 2) := by decide +kernel
theorem d_P_match_79 : decode b_P_match 79 = .ok (.iload 5, 2) := by decide +kernel
theorem d_P_match_81 : decode b_P_match 81 = .ok (.iastore, 1) := by decide +kernel
theorem d_P_match_82 : decode b_P_match 82 = .ok (.aload_n 0, 1) := by decide +kernel
theorem d_P_match_83 : decode b_P_match 83 = .ok (.getfield 18, 3) := by decide +kernel
theorem d_P_match_86 : decode b_P_match 86 = .ok (.aload_n 0, 1) := by decide +kernel
theorem d_P_match_87 : decode b_P_match 87 = .ok (.getfield 41, 3) := by decide +kernel
theorem d_P_match_90 : decode b_P_match 90 = .ok (.iload 5, 2) := by decide +kernel
theorem d_P_match_92 : decode b_P_match 92 = .ok (.iastore, 1) := by decide +kernel
theorem d_P_match_93 : decode b_P_match 93 = .ok (.aload_n 0, 1) := by decide +kernel
theorem d_P_match_94 : decode b_P_match 94 = .ok (.dup, 1) := by decide +kernel
theorem d_P_match_95 : decode b_P_match 95 = .ok (.getfield 41, 3) := by decide +kernel
theorem d_P_match_98 : decode b_P_match 98 = .ok (.iconst 1, 1) := by decide +kernel
theorem d_P_match_99 : decode b_P_match 99 = .ok (.iadd, 1) := by decide +kernel
theorem d_P_match_100 : decode b_P_match 100 = .ok (.putfield 41, 3) := by decide +kernel
theorem d_P_match_103 : decode b_P_match 103 = .ok (.aload_n 0, 1) := by decide +kernel
theorem d_P_match_104 : decode b_P_match 104 = .ok (.getfield 9, 3) := by decide +kernel
theorem d_P_match_107 : decode b_P_match 107 = .ok (.iload 5, 2) := by decide +kernel
theorem d_P_match_109 : decode b_P_match 109 = .ok (.iaload, 1) := by decide +kernel
theorem d_P_match_110 : decode b_P_match 110 = .ok (.iload 6, 2) := by decide +kernel
theorem d_P_match_112 : decode b_P_match 112 = .ok (.if_icmp .ne 7, 3) := by decide +kernel
theorem d_P_match_115 : decode b_P_match 115 = .ok (.iconst 1, 1) := by decide +kernel
theorem d_P_match_116 : decode b_P_match 116 = .ok (.goto 4, 3) := by decide +kernel
theorem d_P_match_119 : decode b_P_match 119 = .ok (.iconst 0, 1) := by decide +kernel
theorem d_P_match_120 : decode b_P_match 120 = .ok (.ireturn, 1) := by decide +kernel
theorem d_P_matchBodies_0 : decode b_P_matchBodies 0 = .ok (.aload_n 1, 1) := by decide +kernel
theorem d_P_matchBodies_1 : decode b_P_matchBodies 1 = .ok (.getfield 69, 3) := by decide +kernel
theorem d_P_matchBodies_4 : decode b_P_matchBodies 4 = .ok (.iload_n 2, 1) := by decide +kernel
theorem d_P_matchBodies_5 : decode b_P_matchBodies 5 = .ok (.iaload, 1) := by decide +kernel
theorem d_P_matchBodies_6 : decode b_P_matchBodies 6 = .ok (.aload_n 3, 1) := by decide +kernel
theorem d_P_matchBodies_7 : decode b_P_matchBodies 7 = .ok (.getfield 69, 3) := by decide +kernel
theorem d_P_matchBodies_10 : decode b_P_matchBodies 10 = .ok (.iload 4, 2) := by decide +kernel
theorem d_P_matchBodies_12 : decode b_P_matchBodies 12 = .ok (.iaload, 1) := by decide +kernel
theorem d_P_matchBodies_13 : decode b_P_matchBodies 13 = .ok (.if_icmp .ne 41, 3) := by decide +kernel
theorem d_P_matchBodies_16 : decode b_P_matchBodies 16 = .ok (.aload_n 1, 1) := by decide +kernel
theorem d_P_matchBodies_17 : decode b_P_matchBodies 17 = .ok (.getfield 72, 3) := by decide +kernel
theorem d_P_matchBodies_20 : decode b_P_matchBodies 20 = .ok (.iload_n 2, 1) := by decide +kernel
theorem d_P_matchBodies_21 : decode b_P_matchBodies 21 = .ok (.iaload, 1) := by decide +kernel
theorem d_P_matchBodies_22 : decode b_P_matchBodies 22 = .ok (.aload_n 3, 1) := by decide +kernel
theorem d_P_matchBodies_23 : decode b_P_matchBodies 23 = .ok (.getfield 72, 3) := by decide +kernel
theorem d_P_matchBodies_26 : decode b_P_matchBodies 26 = .ok (.iload 4, 2) := by decide +kernel
theorem d_P_matchBodies_28 : decode b_P_matchBodies 28 = .ok (.iaload, 1) := by decide +kernel
theorem d_P_matchBodies_29 : decode b_P_matchBodies 29 = .ok (.if_icmp .ne 25, 3) := by decide +kernel
theorem d_P_matchBodies_32 : decode b_P_matchBodies 32 = .ok (.aload_n 0, 1) := by decide +kernel
theorem d_P_matchBodies_33 : decode b_P_matchBodies 33 = .ok (.aload_n 1, 1) := by decide +kernel
theorem d_P_matchBodies_34 : decode b_P_matchBodies 34 = .ok (.aload_n 1, 1) := by decide +kernel
theorem d_P_matchBodies_35 : decode b_P_matchBodies 35 = .ok (.getfield 50, 3) := by decide +kernel
theorem d_P_matchBodies_38 : decode b_P_matchBodies 38 = .ok (.iload_n 2, 1) := by decide +kernel
theorem d_P_matchBodies_39 : decode b_P_matchBodies 39 = .ok (.iaload, 1) := by decide +kernel
theorem d_P_matchBodies_40 : decode b_P_matchBodies 40 = .ok (.aload_n 3, 1) := by decide +kernel
theorem d_P_matchBodies_41 : decode b_P_matchBodies 41 = .ok (.aload_n 3, 1) := by decide +kernel
theorem d_P_matchBodies_42 : decode b_P_matchBodies 42 = .ok (.getfield 50, 3) := by decide +kernel
theorem d_P_matchBodies_45 : decode b_P_matchBodies 45 = .ok (.iload 4, 2) := by decide +kernel
theorem d_P_matchBodies_47 : decode b_P_matchBodies 47 = .ok (.iaload, 1) := by decide +kernel
theorem d_P_matchBodies_48 : decode b_P_matchBodies 48 = .ok (.invokevirtual 37, 3) := by decide +kernel
theorem d_P_matchBodies_51 : decode b_P_matchBodies 51 = .ok (.ifCond .ne 5, 3) := by decide +kernel
theorem d_P_matchBodies_54 : decode b_P_matchBodies 54 = .ok (.iconst 0, 1) := by decide +kernel
theorem d_P_matchBodies_55 : decode b_P_matchBodies 55 = .ok (.ireturn, 1) := by decide +kernel
theorem d_P_matchBodies_56 : decode b_P_matchBodies 56 = .ok (.aload_n 1, 1) := by decide +kernel
theorem d_P_matchBodies_57 : decode b_P_matchBodies 57 = .ok (.getfield 69, 3) := by decide +kernel
theorem d_P_matchBodies_60 : decode b_P_matchBodies 60 = .ok (.iload_n 2, 1) := by decide +kernel
theorem d_P_matchBodies_61 : decode b_P_matchBodies 61 = .ok (.iaload, 1) := by decide +kernel
theorem d_P_matchBodies_62 : decode b_P_matchBodies 62 = .ok (.iconst 1, 1) := by decide +kernel
theorem d_P_matchBodies_63 : decode b_P_matchBodies 63 = .ok (.if_icmp .ne 7, 3) := by decide +kernel
theorem d_P_matchBodies_66 : decode b_P_matchBodies 66 = .ok (.iconst 1, 1) := by decide +kernel
theorem d_P_matchBodies_67 : decode b_P_matchBodies 67 = .ok (.goto 4, 3) := by decide +kernel
theorem d_P_matchBodies_70 : decode b_P_matchBodies 70 = .ok (.iconst 0, 1) := by decide +kernel
theorem d_P_matchBodies_71 : decode b_P_matchBodies 71 = .ok (.istore 5, 2) := by decide +kernel
theorem d_P_matchBodies_73 : decode b_P_matchBodies 73 = .ok (.iconst 0, 1) := by decide +kernel
theorem d_P_matchBodies_74 : decode b_P_matchBodies 74 = .ok (.istore 6, 2) := by decide +kernel
theorem d_P_matchBodies_76 : decode b_P_matchBodies 76 = .ok (.iload 6, 2) := by decide +kernel
theorem d_P_matchBodies_78 : decode b_P_matchBodies 78 = .ok (.aload_n 1, 1) := by decide +kernel
theorem d_P_matchBodies_79 : decode b_P_matchBodies 79 = .ok (.getfield 72, 3) := by decide +kernel
theorem d_P_matchBodies_82 : decode b_P_matchBodies 82 = .ok (.iload_n 2, 1) := by decide +kernel
theorem d_P_matchBodies_83 : decode b_P_matchBodies 83 = .ok (.iaload, 1) := by decide +kernel
theorem d_P_matchBodies_84 : decode b_P_matchBodies 84 = .ok (.if_icmp .ge 72, 3) := by decide +kernel
theorem d_P_matchBodies_87 : decode b_P_matchBodies 87 = .ok (.aload_n 1, 1) := by decide +kernel
theorem d_P_matchBodies_88 : decode b_P_matchBodies 88 = .ok (.getfield 75, 3) := by decide +kernel
theorem d_P_matchBodies_91 : decode b_P_matchBodies 91 = .ok (.aload_n 1, 1) := by decide +kernel
theorem d_P_matchBodies_92 : decode b_P_matchBodies 92 = .ok (.getfield 78, 3) := by decide +kernel
theorem d_P_matchBodies_95 : decode b_P_matchBodies 95 = .ok (.iload_n 2, 1) := by decide +kernel
theorem d_P_matchBodies_96 : decode b_P_matchBodies 96 = .ok (.iaload, 1) := by decide +kernel
theorem d_P_matchBodies_97 : decode b_P_matchBodies 97 = .ok (.iload 6, 2) := by decide +kernel
theorem d_P_matchBodies_99 : decode b_P_matchBodies 99 = .ok (.iadd, 1) := by decide +kernel
theorem d_P_matchBodies_100 : decode b_P_matchBodies 100 = .ok (.iaload, 1) := by decide +kernel
theorem d_P_matchBodies_101 : decode b_P_matchBodies 101 = .ok (.istore 7, 2) := by decide +kernel
theorem d_P_matchBodies_103 : decode b_P_matchBodies 103 = .ok (.aload_n 3, 1) := by decide +kernel
theorem d_P_matchBodies_104 : decode b_P_matchBodies 104 = .ok (.getfield 75, 3) := by decide +kernel
theorem d_P_matchBodies_107 : decode b_P_matchBodies 107 = .ok (.aload_n 3, 1) := by decide +kernel
theorem d_P_matchBodies_108 : decode b_P_matchBodies 108 = .ok (.getfield 78, 3) := by decide +kernel
theorem d_P_matchBodies_111 : decode b_P_matchBodies 111 = .ok (.iload 4, 2) := by decide +kernel
theorem d_P_matchBodies_113 : decode b_P_matchBodies 113 = .ok (.iaload, 1) := by decide +kernel
theorem d_P_matchBodies_114 : decode b_P_matchBodies 114 = .ok (.iload 6, 2) := by decide +kernel
theorem d_P_matchBodies_116 : decode b_P_matchBodies 116 = .ok (.iadd, 1) := by decide +kernel
theorem d_P_matchBodies_117 : decode b_P_matchBodies 117 = .ok (.iaload, 1) := by decide +kernel
theorem d_P_matchBodies_118 : decode b_P_matchBodies 118 = .ok (.istore 8, 2) := by decide +kernel
theorem d_P_matchBodies_120 : decode b_P_matchBodies 120 = .ok (.iload 5, 2) := by decide +kernel
theorem d_P_matchBodies_122 : decode b_P_matchBodies 122 = .ok (.ifCond .eq 13, 3) := by decide +kernel
theorem d_P_matchBodies_125 : decode b_P_matchBodies 125 = .ok (.iload 7, 2) := by decide +kernel
theorem d_P_matchBodies_127 : decode b_P_matchBodies 127 = .ok (.iload 8, 2) := by decide +kernel
theorem d_P_matchBodies_129 : decode b_P_matchBodies 129 = .ok (.if_icmp .eq 21, 3) := by decide +kernel
theorem d_P_matchBodies_132 : decode b_P_matchBodies 132 = .ok (.goto 16, 3) := by decide +kernel
theorem d_P_matchBodies_135 : decode b_P_matchBodies 135 = .ok (.aload_n 0, 1) := by decide +kernel
theorem d_P_matchBodies_136 : decode b_P_matchBodies 136 = .ok (.aload_n 1, 1) := by decide +kernel
theorem d_P_matchBodies_137 : decode b_P_matchBodies 137 = .ok (.iload 7, 2) := by decide +kernel
theorem d_P_matchBodies_139 : decode b_P_matchBodies 139 = .ok (.aload_n 3, 1) := by decide +kernel
theorem d_P_matchBodies_140 : decode b_P_matchBodies 140 = .ok (.iload 8, 2) := by decide +kernel
theorem d_P_matchBodies_142 : decode b_P_matchBodies 142 = .ok (.invokevirtual 37, 3) := by decide +kernel
theorem d_P_matchBodies_145 : decode b_P_matchBodies 145 = .ok (.ifCond .ne 5, 3) := by decide +kernel
theorem d_P_matchBodies_148 : decode b_P_matchBodies 148 = .ok (.iconst 0, 1) := by decide +kernel
theorem d_P_matchBodies_149 : decode b_P_matchBodies 149 = .ok (.ireturn, 1) := by decide +kernel
theorem d_P_matchBodies_150 : decode b_P_matchBodies 150 = .ok (.iinc 6 1, 3) := by decide +kernel
theorem d_P_matchBodies_153 : decode b_P_matchBodies 153 = .ok (.goto (-77), 3) := by decide +kernel
theorem d_P_matchBodies_156 : decode b_P_matchBodies 156 = .ok (.iconst 1, 1) := by decide +kernel
theorem d_P_matchBodies_157 : decode b_P_matchBodies 157 = .ok (.ireturn, 1) := by decide +kernel
