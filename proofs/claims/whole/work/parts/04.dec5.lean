theorem d_M_isMethodContext_0 : decode b_M_isMethodContext 0 = .ok (.aload_n 0, 1) := by decide +kernel
theorem d_M_isMethodContext_1 : decode b_M_isMethodContext 1 = .ok (.iload_n 1, 1) := by decide +kernel
theorem d_M_isMethodContext_2 : decode b_M_isMethodContext 2 = .ok (.iconst 5, 1) := by decide +kernel
theorem d_M_isMethodContext_3 : decode b_M_isMethodContext 3 = .ok (.invokevirtual 68, 3) := by decide +kernel
theorem d_M_isMethodContext_6 : decode b_M_isMethodContext 6 = .ok (.ifCond .eq 16, 3) := by decide +kernel
theorem d_M_isMethodContext_9 : decode b_M_isMethodContext 9 = .ok (.aload_n 0, 1) := by decide +kernel
theorem d_M_isMethodContext_10 : decode b_M_isMethodContext 10 = .ok (.aload_n 0, 1) := by decide +kernel
theorem d_M_isMethodContext_11 : decode b_M_isMethodContext 11 = .ok (.iload_n 1, 1) := by decide +kernel
theorem d_M_isMethodContext_12 : decode b_M_isMethodContext 12 = .ok (.iconst 3, 1) := by decide +kernel
theorem d_M_isMethodContext_13 : decode b_M_isMethodContext 13 = .ok (.invokevirtual 72, 3) := by decide +kernel
theorem d_M_isMethodContext_16 : decode b_M_isMethodContext 16 = .ok (.invokevirtual 88, 3) := by decide +kernel
theorem d_M_isMethodContext_19 : decode b_M_isMethodContext 19 = .ok (.ifCond .ne 5, 3) := by decide +kernel
theorem d_M_isMethodContext_22 : decode b_M_isMethodContext 22 = .ok (.iconst 0, 1) := by decide +kernel
theorem d_M_isMethodContext_23 : decode b_M_isMethodContext 23 = .ok (.ireturn, 1) := by decide +kernel
theorem d_M_isMethodContext_24 : decode b_M_isMethodContext 24 = .ok (.aload_n 0, 1) := by decide +kernel
theorem d_M_isMethodContext_25 : decode b_M_isMethodContext 25 = .ok (.aload_n 0, 1) := by decide +kernel
theorem d_M_isMethodContext_26 : decode b_M_isMethodContext 26 = .ok (.iload_n 1, 1) := by decide +kernel
theorem d_M_isMethodContext_27 : decode b_M_isMethodContext 27 = .ok (.iconst 3, 1) := by decide +kernel
theorem d_M_isMethodContext_28 : decode b_M_isMethodContext 28 = .ok (.invokevirtual 72, 3) := by decide +kernel
theorem d_M_isMethodContext_31 : decode b_M_isMethodContext 31 = .ok (.invokevirtual 91, 3) := by decide +kernel
theorem d_M_isMethodContext_34 : decode b_M_isMethodContext 34 = .ok (.istore_n 2, 1) := by decide +kernel
theorem d_M_isMethodContext_35 : decode b_M_isMethodContext 35 = .ok (.aload_n 0, 1) := by decide +kernel
theorem d_M_isMethodContext_36 : decode b_M_isMethodContext 36 = .ok (.aload_n 0, 1) := by decide +kernel
theorem d_M_isMethodContext_37 : decode b_M_isMethodContext 37 = .ok (.iload_n 1, 1) := by decide +kernel
theorem d_M_isMethodContext_38 : decode b_M_isMethodContext 38 = .ok (.iconst 3, 1) := by decide +kernel
theorem d_M_isMethodContext_39 : decode b_M_isMethodContext 39 = .ok (.invokevirtual 72, 3) := by decide +kernel
theorem d_M_isMethodContext_42 : decode b_M_isMethodContext 42 = .ok (.invokevirtual 95, 3) := by decide +kernel
theorem d_M_isMethodContext_45 : decode b_M_isMethodContext 45 = .ok (.istore_n 3, 1) := by decide +kernel
theorem d_M_isMethodContext_46 : decode b_M_isMethodContext 46 = .ok (.aload_n 0, 1) := by decide +kernel
theorem d_M_isMethodContext_47 : decode b_M_isMethodContext 47 = .ok (.iload_n 1, 1) := by decide +kernel
theorem d_M_isMethodContext_48 : decode b_M_isMethodContext 48 = .ok (.iconst 2, 1) := by decide +kernel
theorem d_M_isMethodContext_49 : decode b_M_isMethodContext 49 = .ok (.invokevirtual 72, 3) := by decide +kernel
theorem d_M_isMethodContext_52 : decode b_M_isMethodContext 52 = .ok (.istore 4, 2) := by decide +kernel
theorem d_M_isMethodContext_54 : decode b_M_isMethodContext 54 = .ok (.aload_n 0, 1) := by decide +kernel
theorem d_M_isMethodContext_55 : decode b_M_isMethodContext 55 = .ok (.getfield 8, 3) := by decide +kernel
theorem d_M_isMethodContext_58 : decode b_M_isMethodContext 58 = .ok (.aload_n 0, 1) := by decide +kernel
theorem d_M_isMethodContext_59 : decode b_M_isMethodContext 59 = .ok (.getfield 20, 3) := by decide +kernel
theorem d_M_isMethodContext_62 : decode b_M_isMethodContext 62 = .ok (.iload_n 1, 1) := by decide +kernel
theorem d_M_isMethodContext_63 : decode b_M_isMethodContext 63 = .ok (.iconst 2, 1) := by decide +kernel
theorem d_M_isMethodContext_64 : decode b_M_isMethodContext 64 = .ok (.idiv, 1) := by decide +kernel
theorem d_M_isMethodContext_65 : decode b_M_isMethodContext 65 = .ok (.iaload, 1) := by decide +kernel
theorem d_M_isMethodContext_66 : decode b_M_isMethodContext 66 = .ok (.invokestatic 54, 3) := by decide +kernel
theorem d_M_isMethodContext_69 : decode b_M_isMethodContext 69 = .ok (.iconst 5, 1) := by decide +kernel
theorem d_M_isMethodContext_70 : decode b_M_isMethodContext 70 = .ok (.iload_n 2, 1) := by decide +kernel
theorem d_M_isMethodContext_71 : decode b_M_isMethodContext 71 = .ok (.iadd, 1) := by decide +kernel
theorem d_M_isMethodContext_72 : decode b_M_isMethodContext 72 = .ok (.iload_n 3, 1) := by decide +kernel
theorem d_M_isMethodContext_73 : decode b_M_isMethodContext 73 = .ok (.iadd, 1) := by decide +kernel
theorem d_M_isMethodContext_74 : decode b_M_isMethodContext 74 = .ok (.if_icmp .ne 34, 3) := by decide +kernel
theorem d_M_isMethodContext_77 : decode b_M_isMethodContext 77 = .ok (.aload_n 0, 1) := by decide +kernel
theorem d_M_isMethodContext_78 : decode b_M_isMethodContext 78 = .ok (.iload 4, 2) := by decide +kernel
theorem d_M_isMethodContext_80 : decode b_M_isMethodContext 80 = .ok (.iload_n 2, 1) := by decide +kernel
theorem d_M_isMethodContext_81 : decode b_M_isMethodContext 81 = .ok (.iload_n 2, 1) := by decide +kernel
theorem d_M_isMethodContext_82 : decode b_M_isMethodContext 82 = .ok (.iload_n 3, 1) := by decide +kernel
theorem d_M_isMethodContext_83 : decode b_M_isMethodContext 83 = .ok (.iadd, 1) := by decide +kernel
theorem d_M_isMethodContext_84 : decode b_M_isMethodContext 84 = .ok (.invokevirtual 84, 3) := by decide +kernel
theorem d_M_isMethodContext_87 : decode b_M_isMethodContext 87 = .ok (.ifCond .eq 21, 3) := by decide +kernel
theorem d_M_isMethodContext_90 : decode b_M_isMethodContext 90 = .ok (.aload_n 0, 1) := by decide +kernel
theorem d_M_isMethodContext_91 : decode b_M_isMethodContext 91 = .ok (.iload_n 1, 1) := by decide +kernel
theorem d_M_isMethodContext_92 : decode b_M_isMethodContext 92 = .ok (.iconst 5, 1) := by decide +kernel
theorem d_M_isMethodContext_93 : decode b_M_isMethodContext 93 = .ok (.iload 4, 2) := by decide +kernel
theorem d_M_isMethodContext_95 : decode b_M_isMethodContext 95 = .ok (.iconst 1, 1) := by decide +kernel
theorem d_M_isMethodContext_96 : decode b_M_isMethodContext 96 = .ok (.ishr, 1) := by decide +kernel
theorem d_M_isMethodContext_97 : decode b_M_isMethodContext 97 = .ok (.iadd, 1) := by decide +kernel
theorem d_M_isMethodContext_98 : decode b_M_isMethodContext 98 = .ok (.invokevirtual 98, 3) := by decide +kernel
theorem d_M_isMethodContext_101 : decode b_M_isMethodContext 101 = .ok (.ifCond .eq 7, 3) := by decide +kernel
theorem d_M_isMethodContext_104 : decode b_M_isMethodContext 104 = .ok (.iconst 1, 1) := by decide +kernel
theorem d_M_isMethodContext_105 : decode b_M_isMethodContext 105 = .ok (.goto 4, 3) := by decide +kernel
theorem d_M_isMethodContext_108 : decode b_M_isMethodContext 108 = .ok (.iconst 0, 1) := by decide +kernel
theorem d_M_isMethodContext_109 : decode b_M_isMethodContext 109 = .ok (.ireturn, 1) := by decide +kernel
theorem d_M_isNumber_0 : decode b_M_isNumber 0 = .ok (.iload_n 0, 1) := by decide +kernel
theorem d_M_isNumber_1 : decode b_M_isNumber 1 = .ok (.iconst 1, 1) := by decide +kernel
theorem d_M_isNumber_2 : decode b_M_isNumber 2 = .ok (.iand, 1) := by decide +kernel
theorem d_M_isNumber_3 : decode b_M_isNumber 3 = .ok (.iconst 1, 1) := by decide +kernel
theorem d_M_isNumber_4 : decode b_M_isNumber 4 = .ok (.if_icmp .ne 7, 3) := by decide +kernel
theorem d_M_isNumber_7 : decode b_M_isNumber 7 = .ok (.iconst 1, 1) := by decide +kernel
theorem d_M_isNumber_8 : decode b_M_isNumber 8 = .ok (.goto 4, 3) := by decide +kernel
theorem d_M_isNumber_11 : decode b_M_isNumber 11 = .ok (.iconst 0, 1) := by decide +kernel
theorem d_M_isNumber_12 : decode b_M_isNumber 12 = .ok (.ireturn, 1) := by decide +kernel
theorem d_M_isNumberFrom_0 : decode b_M_isNumberFrom 0 = .ok (.iload_n 1, 1) := by decide +kernel
theorem d_M_isNumberFrom_1 : decode b_M_isNumberFrom 1 = .ok (.invokestatic 76, 3) := by decide +kernel
theorem d_M_isNumberFrom_4 : decode b_M_isNumberFrom 4 = .ok (.ifCond .eq 21, 3) := by decide +kernel
theorem d_M_isNumberFrom_7 : decode b_M_isNumberFrom 7 = .ok (.iload_n 1, 1) := by decide +kernel
theorem d_M_isNumberFrom_8 : decode b_M_isNumberFrom 8 = .ok (.iconst 1, 1) := by decide +kernel
theorem d_M_isNumberFrom_9 : decode b_M_isNumberFrom 9 = .ok (.ishr, 1) := by decide +kernel
theorem d_M_isNumberFrom_10 : decode b_M_isNumberFrom 10 = .ok (.iload_n 2, 1) := by decide +kernel
theorem d_M_isNumberFrom_11 : decode b_M_isNumberFrom 11 = .ok (.if_icmp .lt 14, 3) := by decide +kernel
theorem d_M_isNumberFrom_14 : decode b_M_isNumberFrom 14 = .ok (.iload_n 1, 1) := by decide +kernel
theorem d_M_isNumberFrom_15 : decode b_M_isNumberFrom 15 = .ok (.iconst 1, 1) := by decide +kernel
theorem d_M_isNumberFrom_16 : decode b_M_isNumberFrom 16 = .ok (.ishr, 1) := by decide +kernel
theorem d_M_isNumberFrom_17 : decode b_M_isNumberFrom 17 = .ok (.iload_n 3, 1) := by decide +kernel
theorem d_M_isNumberFrom_18 : decode b_M_isNumberFrom 18 = .ok (.if_icmp .gt 7, 3) := by decide +kernel
theorem d_M_isNumberFrom_21 : decode b_M_isNumberFrom 21 = .ok (.iconst 1, 1) := by decide +kernel
theorem d_M_isNumberFrom_22 : decode b_M_isNumberFrom 22 = .ok (.goto 4, 3) := by decide +kernel
theorem d_M_isNumberFrom_25 : decode b_M_isNumberFrom 25 = .ok (.iconst 0, 1) := by decide +kernel
theorem d_M_isNumberFrom_26 : decode b_M_isNumberFrom 26 = .ok (.ireturn, 1) := by decide +kernel
theorem d_M_isObject_0 : decode b_M_isObject 0 = .ok (.iload_n 0, 1) := by decide +kernel
theorem d_M_isObject_1 : decode b_M_isObject 1 = .ok (.ifCond .le 13, 3) := by decide +kernel
theorem d_M_isObject_4 : decode b_M_isObject 4 = .ok (.iload_n 0, 1) := by decide +kernel
theorem d_M_isObject_5 : decode b_M_isObject 5 = .ok (.iconst 1, 1) := by decide +kernel
theorem d_M_isObject_6 : decode b_M_isObject 6 = .ok (.iand, 1) := by decide +kernel
theorem d_M_isObject_7 : decode b_M_isObject 7 = .ok (.ifCond .ne 7, 3) := by decide +kernel
theorem d_M_isObject_10 : decode b_M_isObject 10 = .ok (.iconst 1, 1) := by decide +kernel
theorem d_M_isObject_11 : decode b_M_isObject 11 = .ok (.goto 4, 3) := by decide +kernel
theorem d_M_isObject_14 : decode b_M_isObject 14 = .ok (.iconst 0, 1) := by decide +kernel
theorem d_M_isObject_15 : decode b_M_isObject 15 = .ok (.ireturn, 1) := by decide +kernel
theorem d_M_isOfBytes_0 : decode b_M_isOfBytes 0 = .ok (.aload_n 0, 1) := by decide +kernel
theorem d_M_isOfBytes_1 : decode b_M_isOfBytes 1 = .ok (.iload_n 1, 1) := by decide +kernel
theorem d_M_isOfBytes_2 : decode b_M_isOfBytes 2 = .ok (.iconst 4, 1) := by decide +kernel
theorem d_M_isOfBytes_3 : decode b_M_isOfBytes 3 = .ok (.iadd, 1) := by decide +kernel
theorem d_M_isOfBytes_4 : decode b_M_isOfBytes 4 = .ok (.baload, 1) := by decide +kernel
theorem d_M_isOfBytes_5 : decode b_M_isOfBytes 5 = .ok (.iconst 1, 1) := by decide +kernel
theorem d_M_isOfBytes_6 : decode b_M_isOfBytes 6 = .ok (.if_icmp .ne 7, 3) := by decide +kernel
theorem d_M_isOfBytes_9 : decode b_M_isOfBytes 9 = .ok (.iconst 1, 1) := by decide +kernel
theorem d_M_isOfBytes_10 : decode b_M_isOfBytes 10 = .ok (.goto 4, 3) := by decide +kernel
theorem d_M_isOfBytes_13 : decode b_M_isOfBytes 13 = .ok (.iconst 0, 1) := by decide +kernel
theorem d_M_isOfBytes_14 : decode b_M_isOfBytes 14 = .ok (.ireturn, 1) := by decide +kernel
theorem d_M_isRightObject_0 : decode b_M_isRightObject 0 = .ok (.aload_n 0, 1) := by decide +kernel
theorem d_M_isRightObject_1 : decode b_M_isRightObject 1 = .ok (.getfield 8, 3) := by decide +kernel
theorem d_M_isRightObject_4 : decode b_M_isRightObject 4 = .ok (.aload_n 0, 1) := by decide +kernel
theorem d_M_isRightObject_5 : decode b_M_isRightObject 5 = .ok (.getfield 20, 3) := by decide +kernel
theorem d_M_isRightObject_8 : decode b_M_isRightObject 8 = .ok (.iload_n 1, 1) := by decide +kernel
theorem d_M_isRightObject_9 : decode b_M_isRightObject 9 = .ok (.iaload, 1) := by decide +kernel
theorem d_M_isRightObject_10 : decode b_M_isRightObject 10 = .ok (.invokestatic 47, 3) := by decide +kernel
theorem d_M_isRightObject_13 : decode b_M_isRightObject 13 = .ok (.istore_n 2, 1) := by decide +kernel
theorem d_M_isRightObject_14 : decode b_M_isRightObject 14 = .ok (.aload_n 0, 1) := by decide +kernel
theorem d_M_isRightObject_15 : decode b_M_isRightObject 15 = .ok (.iload_n 2, 1) := by decide +kernel
theorem d_M_isRightObject_16 : decode b_M_isRightObject 16 = .ok (.invokevirtual 112, 3) := by decide +kernel
theorem d_M_isRightObject_19 : decode b_M_isRightObject 19 = .ok (.ifCond .ne 5, 3) := by decide +kernel
theorem d_M_isRightObject_22 : decode b_M_isRightObject 22 = .ok (.iconst 0, 1) := by decide +kernel
theorem d_M_isRightObject_23 : decode b_M_isRightObject 23 = .ok (.ireturn, 1) := by decide +kernel
theorem d_M_isRightObject_24 : decode b_M_isRightObject 24 = .ok (.aload_n 0, 1) := by decide +kernel
theorem d_M_isRightObject_25 : decode b_M_isRightObject 25 = .ok (.iload_n 2, 1) := by decide +kernel
theorem d_M_isRightObject_26 : decode b_M_isRightObject 26 = .ok (.iconst 2, 1) := by decide +kernel
theorem d_M_isRightObject_27 : decode b_M_isRightObject 27 = .ok (.invokevirtual 72, 3) := by decide +kernel
theorem d_M_isRightObject_30 : decode b_M_isRightObject 30 = .ok (.iconst 1, 1) := by decide +kernel
theorem d_M_isRightObject_31 : decode b_M_isRightObject 31 = .ok (.ishr, 1) := by decide +kernel
theorem d_M_isRightObject_32 : decode b_M_isRightObject 32 = .ok (.istore_n 3, 1) := by decide +kernel
theorem d_M_isRightObject_33 : decode b_M_isRightObject 33 = .ok (.aload_n 0, 1) := by decide +kernel
theorem d_M_isRightObject_34 : decode b_M_isRightObject 34 = .ok (.getfield 8, 3) := by decide +kernel
theorem d_M_isRightObject_37 : decode b_M_isRightObject 37 = .ok (.aload_n 0, 1) := by decide +kernel
theorem d_M_isRightObject_38 : decode b_M_isRightObject 38 = .ok (.getfield 20, 3) := by decide +kernel
theorem d_M_isRightObject_41 : decode b_M_isRightObject 41 = .ok (.iload_n 1, 1) := by decide +kernel
theorem d_M_isRightObject_42 : decode b_M_isRightObject 42 = .ok (.iaload, 1) := by decide +kernel
theorem d_M_isRightObject_43 : decode b_M_isRightObject 43 = .ok (.invokestatic 54, 3) := by decide +kernel
theorem d_M_isRightObject_46 : decode b_M_isRightObject 46 = .ok (.istore 4, 2) := by decide +kernel
theorem d_M_isRightObject_48 : decode b_M_isRightObject 48 = .ok (.aload_n 0, 1) := by decide +kernel
theorem d_M_isRightObject_49 : decode b_M_isRightObject 49 = .ok (.getfield 8, 3) := by decide +kernel
theorem d_M_isRightObject_52 : decode b_M_isRightObject 52 = .ok (.aload_n 0, 1) := by decide +kernel
theorem d_M_isRightObject_53 : decode b_M_isRightObject 53 = .ok (.getfield 20, 3) := by decide +kernel
theorem d_M_isRightObject_56 : decode b_M_isRightObject 56 = .ok (.iload_n 1, 1) := by decide +kernel
theorem d_M_isRightObject_57 : decode b_M_isRightObject 57 = .ok (.iaload, 1) := by decide +kernel
theorem d_M_isRightObject_58 : decode b_M_isRightObject 58 = .ok (.invokestatic 50, 3) := by decide +kernel
theorem d_M_isRightObject_61 : decode b_M_isRightObject 61 = .ok (.iload_n 3, 1) := by decide +kernel
theorem d_M_isRightObject_62 : decode b_M_isRightObject 62 = .ok (.sipush 2048, 3) := by decide +kernel
theorem d_M_isRightObject_65 : decode b_M_isRightObject 65 = .ok (.if_icmp .lt 7, 3) := by decide +kernel
theorem d_M_isRightObject_68 : decode b_M_isRightObject 68 = .ok (.iconst 1, 1) := by decide +kernel
theorem d_M_isRightObject_69 : decode b_M_isRightObject 69 = .ok (.goto 4, 3) := by decide +kernel
theorem d_M_isRightObject_72 : decode b_M_isRightObject 72 = .ok (.iconst 0, 1) := by decide +kernel
theorem d_M_isRightObject_73 : decode b_M_isRightObject 73 = .ok (.if_icmp .eq 5, 3) := by decide +kernel
theorem d_M_isRightObject_76 : decode b_M_isRightObject 76 = .ok (.iconst 0, 1) := by decide +kernel
theorem d_M_isRightObject_77 : decode b_M_isRightObject 77 = .ok (.ireturn, 1) := by decide +kernel
theorem d_M_isRightObject_78 : decode b_M_isRightObject 78 = .ok (.iload_n 3, 1) := by decide +kernel
theorem d_M_isRightObject_79 : decode b_M_isRightObject 79 = .ok (.sipush 255, 3) := by decide +kernel
theorem d_M_isRightObject_82 : decode b_M_isRightObject 82 = .ok (.iand, 1) := by decide +kernel
theorem d_M_isRightObject_83 : decode b_M_isRightObject 83 = .ok (.istore 5, 2) := by decide +kernel
theorem d_M_isRightObject_85 : decode b_M_isRightObject 85 = .ok (.iload_n 3, 1) := by decide +kernel
theorem d_M_isRightObject_86 : decode b_M_isRightObject 86 = .ok (.sipush 2048, 3) := by decide +kernel
theorem d_M_isRightObject_89 : decode b_M_isRightObject 89 = .ok (.if_icmp .ge 28, 3) := by decide +kernel
theorem d_M_isRightObject_92 : decode b_M_isRightObject 92 = .ok (.iload_n 3, 1) := by decide +kernel
theorem d_M_isRightObject_93 : decode b_M_isRightObject 93 = .ok (.sipush 1024, 3) := by decide +kernel
theorem d_M_isRightObject_96 : decode b_M_isRightObject 96 = .ok (.iand, 1) := by decide +kernel
theorem d_M_isRightObject_97 : decode b_M_isRightObject 97 = .ok (.ifCond .le 13, 3) := by decide +kernel
theorem d_M_isRightObject_100 : decode b_M_isRightObject 100 = .ok (.iload 4, 2) := by decide +kernel
theorem d_M_isRightObject_102 : decode b_M_isRightObject 102 = .ok (.iload 5, 2) := by decide +kernel
theorem d_M_isRightObject_104 : decode b_M_isRightObject 104 = .ok (.if_icmp .lt 17, 3) := by decide +kernel
theorem d_M_isRightObject_107 : decode b_M_isRightObject 107 = .ok (.goto 10, 3) := by decide +kernel
theorem d_M_isRightObject_110 : decode b_M_isRightObject 110 = .ok (.iload 4, 2) := by decide +kernel
theorem d_M_isRightObject_112 : decode b_M_isRightObject 112 = .ok (.iload 5, 2) := by decide +kernel
theorem d_M_isRightObject_114 : decode b_M_isRightObject 114 = .ok (.if_icmp .ne 7, 3) := by decide +kernel
theorem d_M_isRightObject_117 : decode b_M_isRightObject 117 = .ok (.iconst 1, 1) := by decide +kernel
theorem d_M_isRightObject_118 : decode b_M_isRightObject 118 = .ok (.goto 4, 3) := by decide +kernel
theorem d_M_isRightObject_121 : decode b_M_isRightObject 121 = .ok (.iconst 0, 1) := by decide +kernel
theorem d_M_isRightObject_122 : decode b_M_isRightObject 122 = .ok (.istore 6, 2) := by decide +kernel
theorem d_M_isRightObject_124 : decode b_M_isRightObject 124 = .ok (.iload 6, 2) := by decide +kernel
theorem d_M_isRightObject_126 : decode b_M_isRightObject 126 = .ok (.ifCond .eq 53, 3) := by decide +kernel
theorem d_M_isRightObject_129 : decode b_M_isRightObject 129 = .ok (.iload_n 2, 1) := by decide +kernel
theorem d_M_isRightObject_130 : decode b_M_isRightObject 130 = .ok (.aload_n 0, 1) := by decide +kernel
theorem d_M_isRightObject_131 : decode b_M_isRightObject 131 = .ok (.getfield 8, 3) := by decide +kernel
theorem d_M_isRightObject_134 : decode b_M_isRightObject 134 = .ok (.bipush 7, 2) := by decide +kernel
theorem d_M_isRightObject_136 : decode b_M_isRightObject 136 = .ok (.invokestatic 65, 3) := by decide +kernel
theorem d_M_isRightObject_139 : decode b_M_isRightObject 139 = .ok (.if_icmp .ne 13, 3) := by decide +kernel
theorem d_M_isRightObject_142 : decode b_M_isRightObject 142 = .ok (.aload_n 0, 1) := by decide +kernel
theorem d_M_isRightObject_143 : decode b_M_isRightObject 143 = .ok (.iconst 2, 1) := by decide +kernel
theorem d_M_isRightObject_144 : decode b_M_isRightObject 144 = .ok (.iload_n 1, 1) := by decide +kernel
theorem d_M_isRightObject_145 : decode b_M_isRightObject 145 = .ok (.imul, 1) := by decide +kernel
theorem d_M_isRightObject_146 : decode b_M_isRightObject 146 = .ok (.invokevirtual 115, 3) := by decide +kernel
theorem d_M_isRightObject_149 : decode b_M_isRightObject 149 = .ok (.ifCond .eq 30, 3) := by decide +kernel
theorem d_M_isRightObject_152 : decode b_M_isRightObject 152 = .ok (.iload_n 2, 1) := by decide +kernel
theorem d_M_isRightObject_153 : decode b_M_isRightObject 153 = .ok (.aload_n 0, 1) := by decide +kernel
theorem d_M_isRightObject_154 : decode b_M_isRightObject 154 = .ok (.getfield 8, 3) := by decide +kernel
theorem d_M_isRightObject_157 : decode b_M_isRightObject 157 = .ok (.bipush 8, 2) := by decide +kernel
theorem d_M_isRightObject_159 : decode b_M_isRightObject 159 = .ok (.invokestatic 65, 3) := by decide +kernel
theorem d_M_isRightObject_162 : decode b_M_isRightObject 162 = .ok (.if_icmp .ne 13, 3) := by decide +kernel
theorem d_M_isRightObject_165 : decode b_M_isRightObject 165 = .ok (.aload_n 0, 1) := by decide +kernel
theorem d_M_isRightObject_166 : decode b_M_isRightObject 166 = .ok (.iconst 2, 1) := by decide +kernel
theorem d_M_isRightObject_167 : decode b_M_isRightObject 167 = .ok (.iload_n 1, 1) := by decide +kernel
theorem d_M_isRightObject_168 : decode b_M_isRightObject 168 = .ok (.imul, 1) := by decide +kernel
theorem d_M_isRightObject_169 : decode b_M_isRightObject 169 = .ok (.invokevirtual 118, 3) := by decide +kernel
theorem d_M_isRightObject_172 : decode b_M_isRightObject 172 = .ok (.ifCond .eq 7, 3) := by decide +kernel
theorem d_M_isRightObject_175 : decode b_M_isRightObject 175 = .ok (.iconst 1, 1) := by decide +kernel
theorem d_M_isRightObject_176 : decode b_M_isRightObject 176 = .ok (.goto 4, 3) := by decide +kernel
theorem d_M_isRightObject_179 : decode b_M_isRightObject 179 = .ok (.iconst 0, 1) := by decide +kernel
theorem d_M_isRightObject_180 : decode b_M_isRightObject 180 = .ok (.ireturn, 1) := by decide +kernel
theorem d_M_isThere_0 : decode b_M_isThere 0 = .ok (.aload_n 0, 1) := by decide +kernel
theorem d_M_isThere_1 : decode b_M_isThere 1 = .ok (.getfield 149, 3) := by decide +kernel
theorem d_M_isThere_4 : decode b_M_isThere 4 = .ok (.ifCond .le 22, 3) := by decide +kernel
theorem d_M_isThere_7 : decode b_M_isThere 7 = .ok (.iload_n 1, 1) := by decide +kernel
theorem d_M_isThere_8 : decode b_M_isThere 8 = .ok (.ifCond .le 18, 3) := by decide +kernel
theorem d_M_isThere_11 : decode b_M_isThere 11 = .ok (.iload_n 1, 1) := by decide +kernel
theorem d_M_isThere_12 : decode b_M_isThere 12 = .ok (.aload_n 0, 1) := by decide +kernel
theorem d_M_isThere_13 : decode b_M_isThere 13 = .ok (.getfield 14, 3) := by decide +kernel
theorem d_M_isThere_16 : decode b_M_isThere 16 = .ok (.invokestatic 101, 3) := by decide +kernel
theorem d_M_isThere_19 : decode b_M_isThere 19 = .ok (.if_icmp .gt 7, 3) := by decide +kernel
theorem d_M_isThere_22 : decode b_M_isThere 22 = .ok (.iconst 1, 1) := by decide +kernel
theorem d_M_isThere_23 : decode b_M_isThere 23 = .ok (.goto 4, 3) := by decide +kernel
theorem d_M_isThere_26 : decode b_M_isThere 26 = .ok (.iconst 0, 1) := by decide +kernel
theorem d_M_isThere_27 : decode b_M_isThere 27 = .ok (.ireturn, 1) := by decide +kernel
theorem d_M_isValue_0 : decode b_M_isValue 0 = .ok (.iload_n 1, 1) := by decide +kernel
theorem d_M_isValue_1 : decode b_M_isValue 1 = .ok (.iconst 4, 1) := by decide +kernel
theorem d_M_isValue_2 : decode b_M_isValue 2 = .ok (.iadd, 1) := by decide +kernel
theorem d_M_isValue_3 : decode b_M_isValue 3 = .ok (.aload_n 0, 1) := by decide +kernel
theorem d_M_isValue_4 : decode b_M_isValue 4 = .ok (.getfield 40, 3) := by decide +kernel
theorem d_M_isValue_7 : decode b_M_isValue 7 = .ok (.if_icmp .le 5, 3) := by decide +kernel
theorem d_M_isValue_10 : decode b_M_isValue 10 = .ok (.iconst 0, 1) := by decide +kernel
theorem d_M_isValue_11 : decode b_M_isValue 11 = .ok (.ireturn, 1) := by decide +kernel
theorem d_M_isValue_12 : decode b_M_isValue 12 = .ok (.aload_n 0, 1) := by decide +kernel
theorem d_M_isValue_13 : decode b_M_isValue 13 = .ok (.getfield 8, 3) := by decide +kernel
theorem d_M_isValue_16 : decode b_M_isValue 16 = .ok (.iload_n 1, 1) := by decide +kernel
theorem d_M_isValue_17 : decode b_M_isValue 17 = .ok (.invokestatic 47, 3) := by decide +kernel
theorem d_M_isValue_20 : decode b_M_isValue 20 = .ok (.istore_n 2, 1) := by decide +kernel
theorem d_M_isValue_21 : decode b_M_isValue 21 = .ok (.iload_n 2, 1) := by decide +kernel
theorem d_M_isValue_22 : decode b_M_isValue 22 = .ok (.ifCond .eq 27, 3) := by decide +kernel
theorem d_M_isValue_25 : decode b_M_isValue 25 = .ok (.iload_n 2, 1) := by decide +kernel
theorem d_M_isValue_26 : decode b_M_isValue 26 = .ok (.invokestatic 76, 3) := by decide +kernel
theorem d_M_isValue_29 : decode b_M_isValue 29 = .ok (.ifCond .ne 20, 3) := by decide +kernel
theorem d_M_isValue_32 : decode b_M_isValue 32 = .ok (.iload_n 2, 1) := by decide +kernel
theorem d_M_isValue_33 : decode b_M_isValue 33 = .ok (.ifCond .le 20, 3) := by decide +kernel
theorem d_M_isValue_36 : decode b_M_isValue 36 = .ok (.iload_n 2, 1) := by decide +kernel
theorem d_M_isValue_37 : decode b_M_isValue 37 = .ok (.iconst 2, 1) := by decide +kernel
theorem d_M_isValue_38 : decode b_M_isValue 38 = .ok (.idiv, 1) := by decide +kernel
theorem d_M_isValue_39 : decode b_M_isValue 39 = .ok (.aload_n 0, 1) := by decide +kernel
theorem d_M_isValue_40 : decode b_M_isValue 40 = .ok (.getfield 8, 3) := by decide +kernel
theorem d_M_isValue_43 : decode b_M_isValue 43 = .ok (.invokestatic 101, 3) := by decide +kernel
theorem d_M_isValue_46 : decode b_M_isValue 46 = .ok (.if_icmp .gt 7, 3) := by decide +kernel
theorem d_M_isValue_49 : decode b_M_isValue 49 = .ok (.iconst 1, 1) := by decide +kernel
theorem d_M_isValue_50 : decode b_M_isValue 50 = .ok (.goto 4, 3) := by decide +kernel
theorem d_M_isValue_53 : decode b_M_isValue 53 = .ok (.iconst 0, 1) := by decide +kernel
theorem d_M_isValue_54 : decode b_M_isValue 54 = .ok (.ireturn, 1) := by decide +kernel
theorem d_M_keep_0 : decode b_M_keep 0 = .ok (.aload_n 0, 1) := by decide +kernel
theorem d_M_keep_1 : decode b_M_keep 1 = .ok (.iconst 0, 1) := by decide +kernel
theorem d_M_keep_2 : decode b_M_keep 2 = .ok (.putfield 36, 3) := by decide +kernel
theorem d_M_keep_5 : decode b_M_keep 5 = .ok (.iconst 0, 1) := by decide +kernel
theorem d_M_keep_6 : decode b_M_keep 6 = .ok (.istore_n 1, 1) := by decide +kernel
theorem d_M_keep_7 : decode b_M_keep 7 = .ok (.iload_n 1, 1) := by decide +kernel
theorem d_M_keep_8 : decode b_M_keep 8 = .ok (.aload_n 0, 1) := by decide +kernel
theorem d_M_keep_9 : decode b_M_keep 9 = .ok (.getfield 149, 3) := by decide +kernel
theorem d_M_keep_12 : decode b_M_keep 12 = .ok (.if_icmp .ge 21, 3) := by decide +kernel
theorem d_M_keep_15 : decode b_M_keep 15 = .ok (.aload_n 0, 1) := by decide +kernel
theorem d_M_keep_16 : decode b_M_keep 16 = .ok (.getfield 17, 3) := by decide +kernel
theorem d_M_keep_19 : decode b_M_keep 19 = .ok (.iload_n 1, 1) := by decide +kernel
theorem d_M_keep_20 : decode b_M_keep 20 = .ok (.aload_n 0, 1) := by decide +kernel
theorem d_M_keep_21 : decode b_M_keep 21 = .ok (.getfield 14, 3) := by decide +kernel
theorem d_M_keep_24 : decode b_M_keep 24 = .ok (.iload_n 1, 1) := by decide +kernel
theorem d_M_keep_25 : decode b_M_keep 25 = .ok (.baload, 1) := by decide +kernel
theorem d_M_keep_26 : decode b_M_keep 26 = .ok (.bastore, 1) := by decide +kernel
theorem d_M_keep_27 : decode b_M_keep 27 = .ok (.iinc 1 1, 3) := by decide +kernel
theorem d_M_keep_30 : decode b_M_keep 30 = .ok (.goto (-23), 3) := by decide +kernel
theorem d_M_keep_33 : decode b_M_keep 33 = .ok (.aload_n 0, 1) := by decide +kernel
theorem d_M_keep_34 : decode b_M_keep 34 = .ok (.aload_n 0, 1) := by decide +kernel
theorem d_M_keep_35 : decode b_M_keep 35 = .ok (.getfield 149, 3) := by decide +kernel
theorem d_M_keep_38 : decode b_M_keep 38 = .ok (.ifCond .le 10, 3) := by decide +kernel
theorem d_M_keep_41 : decode b_M_keep 41 = .ok (.aload_n 0, 1) := by decide +kernel
theorem d_M_keep_42 : decode b_M_keep 42 = .ok (.getfield 149, 3) := by decide +kernel
theorem d_M_keep_45 : decode b_M_keep 45 = .ok (.goto 7, 3) := by decide +kernel
theorem d_M_keep_48 : decode b_M_keep 48 = .ok (.aload_n 0, 1) := by decide +kernel
theorem d_M_keep_49 : decode b_M_keep 49 = .ok (.getfield 176, 3) := by decide +kernel
theorem d_M_keep_52 : decode b_M_keep 52 = .ok (.putfield 176, 3) := by decide +kernel
theorem d_M_keep_55 : decode b_M_keep 55 = .ok (.aload_n 0, 1) := by decide +kernel
theorem d_M_keep_56 : decode b_M_keep 56 = .ok (.getfield 149, 3) := by decide +kernel
theorem d_M_keep_59 : decode b_M_keep 59 = .ok (.ifCond .le 7, 3) := by decide +kernel
theorem d_M_keep_62 : decode b_M_keep 62 = .ok (.iconst 1, 1) := by decide +kernel
theorem d_M_keep_63 : decode b_M_keep 63 = .ok (.goto 4, 3) := by decide +kernel
theorem d_M_keep_66 : decode b_M_keep 66 = .ok (.iconst 0, 1) := by decide +kernel
theorem d_M_keep_67 : decode b_M_keep 67 = .ok (.ireturn, 1) := by decide +kernel
theorem d_M_kind_0 : decode b_M_kind 0 = .ok (.aload_n 0, 1) := by decide +kernel
theorem d_M_kind_1 : decode b_M_kind 1 = .ok (.iconst 0, 1) := by decide +kernel
theorem d_M_kind_2 : decode b_M_kind 2 = .ok (.putfield 36, 3) := by decide +kernel
theorem d_M_kind_5 : decode b_M_kind 5 = .ok (.aload_n 0, 1) := by decide +kernel
theorem d_M_kind_6 : decode b_M_kind 6 = .ok (.iload_n 1, 1) := by decide +kernel
theorem d_M_kind_7 : decode b_M_kind 7 = .ok (.invokevirtual 156, 3) := by decide +kernel
theorem d_M_kind_10 : decode b_M_kind 10 = .ok (.ifCond .ne 5, 3) := by decide +kernel
theorem d_M_kind_13 : decode b_M_kind 13 = .ok (.iconst (-1), 1) := by decide +kernel
theorem d_M_kind_14 : decode b_M_kind 14 = .ok (.ireturn, 1) := by decide +kernel
theorem d_M_kind_15 : decode b_M_kind 15 = .ok (.aload_n 0, 1) := by decide +kernel
theorem d_M_kind_16 : decode b_M_kind 16 = .ok (.getfield 14, 3) := by decide +kernel
theorem d_M_kind_19 : decode b_M_kind 19 = .ok (.aload_n 0, 1) := by decide +kernel
theorem d_M_kind_20 : decode b_M_kind 20 = .ok (.getfield 20, 3) := by decide +kernel
theorem d_M_kind_23 : decode b_M_kind 23 = .ok (.iload_n 1, 1) := by decide +kernel
theorem d_M_kind_24 : decode b_M_kind 24 = .ok (.iaload, 1) := by decide +kernel
theorem d_M_kind_25 : decode b_M_kind 25 = .ok (.invokestatic 47, 3) := by decide +kernel
theorem d_M_kind_28 : decode b_M_kind 28 = .ok (.istore_n 2, 1) := by decide +kernel
theorem d_M_kind_29 : decode b_M_kind 29 = .ok (.iload_n 2, 1) := by decide +kernel
theorem d_M_kind_30 : decode b_M_kind 30 = .ok (.aload_n 0, 1) := by decide +kernel
theorem d_M_kind_31 : decode b_M_kind 31 = .ok (.getfield 14, 3) := by decide +kernel
theorem d_M_kind_34 : decode b_M_kind 34 = .ok (.bipush 7, 2) := by decide +kernel
theorem d_M_kind_36 : decode b_M_kind 36 = .ok (.invokestatic 65, 3) := by decide +kernel
theorem d_M_kind_39 : decode b_M_kind 39 = .ok (.if_icmp .ne 7, 3) := by decide +kernel
theorem d_M_kind_42 : decode b_M_kind 42 = .ok (.iconst 2, 1) := by decide +kernel
theorem d_M_kind_43 : decode b_M_kind 43 = .ok (.goto 33, 3) := by decide +kernel
theorem d_M_kind_46 : decode b_M_kind 46 = .ok (.iload_n 2, 1) := by decide +kernel
theorem d_M_kind_47 : decode b_M_kind 47 = .ok (.aload_n 0, 1) := by decide +kernel
theorem d_M_kind_48 : decode b_M_kind 48 = .ok (.getfield 14, 3) := by decide +kernel
theorem d_M_kind_51 : decode b_M_kind 51 = .ok (.bipush 8, 2) := by decide +kernel
theorem d_M_kind_53 : decode b_M_kind 53 = .ok (.invokestatic 65, 3) := by decide +kernel
theorem d_M_kind_56 : decode b_M_kind 56 = .ok (.if_icmp .ne 7, 3) := by decide +kernel
theorem d_M_kind_59 : decode b_M_kind 59 = .ok (.iconst 3, 1) := by decide +kernel
theorem d_M_kind_60 : decode b_M_kind 60 = .ok (.goto 16, 3) := by decide +kernel
theorem d_M_kind_63 : decode b_M_kind 63 = .ok (.aload_n 0, 1) := by decide +kernel
theorem d_M_kind_64 : decode b_M_kind 64 = .ok (.getfield 14, 3) := by decide +kernel
theorem d_M_kind_67 : decode b_M_kind 67 = .ok (.aload_n 0, 1) := by decide +kernel
theorem d_M_kind_68 : decode b_M_kind 68 = .ok (.getfield 20, 3) := by decide +kernel
theorem d_M_kind_71 : decode b_M_kind 71 = .ok (.iload_n 1, 1) := by decide +kernel
theorem d_M_kind_72 : decode b_M_kind 72 = .ok (.iaload, 1) := by decide +kernel
theorem d_M_kind_73 : decode b_M_kind 73 = .ok (.iconst 4, 1) := by decide +kernel
theorem d_M_kind_74 : decode b_M_kind 74 = .ok (.iadd, 1) := by decide +kernel
theorem d_M_kind_75 : decode b_M_kind 75 = .ok (.baload, 1) := by decide +kernel
theorem d_M_kind_76 : decode b_M_kind 76 = .ok (.ireturn, 1) := by decide +kernel
theorem d_M_note_0 : decode b_M_note 0 = .ok (.sipush 208, 3) := by decide +kernel
theorem d_M_note_3 : decode b_M_note 3 = .ok (.istore_n 2, 1) := by decide +kernel
theorem d_M_note_4 : decode b_M_note 4 = .ok (.iconst 1, 1) := by decide +kernel
theorem d_M_note_5 : decode b_M_note 5 = .ok (.istore_n 3, 1) := by decide +kernel
theorem d_M_note_6 : decode b_M_note 6 = .ok (.iload_n 3, 1) := by decide +kernel
theorem d_M_note_7 : decode b_M_note 7 = .ok (.aload_n 0, 1) := by decide +kernel
theorem d_M_note_8 : decode b_M_note 8 = .ok (.invokestatic 101, 3) := by decide +kernel
theorem d_M_note_11 : decode b_M_note 11 = .ok (.if_icmp .gt 19, 3) := by decide +kernel
theorem d_M_note_14 : decode b_M_note 14 = .ok (.aload_n 1, 1) := by decide +kernel
theorem d_M_note_15 : decode b_M_note 15 = .ok (.iload_n 3, 1) := by decide +kernel
theorem d_M_note_16 : decode b_M_note 16 = .ok (.iload_n 2, 1) := by decide +kernel
theorem d_M_note_17 : decode b_M_note 17 = .ok (.iastore, 1) := by decide +kernel
theorem d_M_note_18 : decode b_M_note 18 = .ok (.aload_n 0, 1) := by decide +kernel
theorem d_M_note_19 : decode b_M_note 19 = .ok (.iload_n 2, 1) := by decide +kernel
theorem d_M_note_20 : decode b_M_note 20 = .ok (.invokestatic 143, 3) := by decide +kernel
theorem d_M_note_23 : decode b_M_note 23 = .ok (.istore_n 2, 1) := by decide +kernel
theorem d_M_note_24 : decode b_M_note 24 = .ok (.iinc 3 1, 3) := by decide +kernel
theorem d_M_note_27 : decode b_M_note 27 = .ok (.goto (-21), 3) := by decide +kernel
theorem d_M_note_30 : decode b_M_note 30 = .ok (.return_, 1) := by decide +kernel
theorem d_M_objects__0 : decode b_M_objects_ 0 = .ok (.aload_n 0, 1) := by decide +kernel
theorem d_M_objects__1 : decode b_M_objects_ 1 = .ok (.iconst 0, 1) := by decide +kernel
theorem d_M_objects__2 : decode b_M_objects_ 2 = .ok (.putfield 36, 3) := by decide +kernel
theorem d_M_objects__5 : decode b_M_objects_ 5 = .ok (.aload_n 0, 1) := by decide +kernel
theorem d_M_objects__6 : decode b_M_objects_ 6 = .ok (.getfield 149, 3) := by decide +kernel
theorem d_M_objects__9 : decode b_M_objects_ 9 = .ok (.ifCond .ne 7, 3) := by decide +kernel
theorem d_M_objects__12 : decode b_M_objects_ 12 = .ok (.iconst 0, 1) := by decide +kernel
theorem d_M_objects__13 : decode b_M_objects_ 13 = .ok (.goto 10, 3) := by decide +kernel
theorem d_M_objects__16 : decode b_M_objects_ 16 = .ok (.aload_n 0, 1) := by decide +kernel
theorem d_M_objects__17 : decode b_M_objects_ 17 = .ok (.getfield 14, 3) := by decide +kernel
theorem d_M_objects__20 : decode b_M_objects_ 20 = .ok (.invokestatic 101, 3) := by decide +kernel
theorem d_M_objects__23 : decode b_M_objects_ 23 = .ok (.ireturn, 1) := by decide +kernel
theorem d_M_objects_aB_0 : decode b_M_objects_aB 0 = .ok (.aload_n 0, 1) := by decide +kernel
theorem d_M_objects_aB_1 : decode b_M_objects_aB 1 = .ok (.bipush 6, 2) := by decide +kernel
theorem d_M_objects_aB_3 : decode b_M_objects_aB 3 = .ok (.invokestatic 43, 3) := by decide +kernel
theorem d_M_objects_aB_6 : decode b_M_objects_aB 6 = .ok (.ireturn, 1) := by decide +kernel
theorem d_M_place_0 : decode b_M_place 0 = .ok (.aload_n 0, 1) := by decide +kernel
theorem d_M_place_1 : decode b_M_place 1 = .ok (.invokevirtual 124, 3) := by decide +kernel
theorem d_M_place_4 : decode b_M_place 4 = .ok (.istore_n 1, 1) := by decide +kernel
theorem d_M_place_5 : decode b_M_place 5 = .ok (.iload_n 1, 1) := by decide +kernel
theorem d_M_place_6 : decode b_M_place 6 = .ok (.iconst (-1), 1) := by decide +kernel
theorem d_M_place_7 : decode b_M_place 7 = .ok (.if_icmp .ne 10, 3) := by decide +kernel
theorem d_M_place_10 : decode b_M_place 10 = .ok (.aload_n 0, 1) := by decide +kernel
theorem d_M_place_11 : decode b_M_place 11 = .ok (.invokevirtual 128, 3) := by decide +kernel
theorem d_M_place_14 : decode b_M_place 14 = .ok (.goto 4, 3) := by decide +kernel
theorem d_M_place_17 : decode b_M_place 17 = .ok (.iload_n 1, 1) := by decide +kernel
theorem d_M_place_18 : decode b_M_place 18 = .ok (.istore_n 1, 1) := by decide +kernel
theorem d_M_place_19 : decode b_M_place 19 = .ok (.iload_n 1, 1) := by decide +kernel
theorem d_M_place_20 : decode b_M_place 20 = .ok (.iconst (-1), 1) := by decide +kernel
theorem d_M_place_21 : decode b_M_place 21 = .ok (.if_icmp .ne 10, 3) := by decide +kernel
theorem d_M_place_24 : decode b_M_place 24 = .ok (.aload_n 0, 1) := by decide +kernel
theorem d_M_place_25 : decode b_M_place 25 = .ok (.invokevirtual 131, 3) := by decide +kernel
theorem d_M_place_28 : decode b_M_place 28 = .ok (.goto 4, 3) := by decide +kernel
theorem d_M_place_31 : decode b_M_place 31 = .ok (.iload_n 1, 1) := by decide +kernel
theorem d_M_place_32 : decode b_M_place 32 = .ok (.istore_n 1, 1) := by decide +kernel
theorem d_M_place_33 : decode b_M_place 33 = .ok (.iload_n 1, 1) := by decide +kernel
theorem d_M_place_34 : decode b_M_place 34 = .ok (.iconst (-1), 1) := by decide +kernel
theorem d_M_place_35 : decode b_M_place 35 = .ok (.if_icmp .ne 10, 3) := by decide +kernel
theorem d_M_place_38 : decode b_M_place 38 = .ok (.aload_n 0, 1) := by decide +kernel
theorem d_M_place_39 : decode b_M_place 39 = .ok (.invokevirtual 134, 3) := by decide +kernel
theorem d_M_place_42 : decode b_M_place 42 = .ok (.goto 4, 3) := by decide +kernel
theorem d_M_place_45 : decode b_M_place 45 = .ok (.iload_n 1, 1) := by decide +kernel
theorem d_M_place_46 : decode b_M_place 46 = .ok (.istore_n 1, 1) := by decide +kernel
theorem d_M_place_47 : decode b_M_place 47 = .ok (.iload_n 1, 1) := by decide +kernel
theorem d_M_place_48 : decode b_M_place 48 = .ok (.iconst (-1), 1) := by decide +kernel
theorem d_M_place_49 : decode b_M_place 49 = .ok (.if_icmp .ne 10, 3) := by decide +kernel
theorem d_M_place_52 : decode b_M_place 52 = .ok (.aload_n 0, 1) := by decide +kernel
theorem d_M_place_53 : decode b_M_place 53 = .ok (.invokevirtual 137, 3) := by decide +kernel
theorem d_M_place_56 : decode b_M_place 56 = .ok (.goto 4, 3) := by decide +kernel
theorem d_M_place_59 : decode b_M_place 59 = .ok (.iload_n 1, 1) := by decide +kernel
theorem d_M_place_60 : decode b_M_place 60 = .ok (.istore_n 1, 1) := by decide +kernel
theorem d_M_place_61 : decode b_M_place 61 = .ok (.iload_n 1, 1) := by decide +kernel
theorem d_M_place_62 : decode b_M_place 62 = .ok (.iconst (-1), 1) := by decide +kernel
theorem d_M_place_63 : decode b_M_place 63 = .ok (.if_icmp .ne 10, 3) := by decide +kernel
theorem d_M_place_66 : decode b_M_place 66 = .ok (.aload_n 0, 1) := by decide +kernel
theorem d_M_place_67 : decode b_M_place 67 = .ok (.invokevirtual 140, 3) := by decide +kernel
theorem d_M_place_70 : decode b_M_place 70 = .ok (.goto 4, 3) := by decide +kernel
theorem d_M_place_73 : decode b_M_place 73 = .ok (.iload_n 1, 1) := by decide +kernel
theorem d_M_place_74 : decode b_M_place 74 = .ok (.ireturn, 1) := by decide +kernel
theorem d_M_put_0 : decode b_M_put 0 = .ok (.iload_n 2, 1) := by decide +kernel
theorem d_M_put_1 : decode b_M_put 1 = .ok (.iconst 1, 1) := by decide +kernel
theorem d_M_put_2 : decode b_M_put 2 = .ok (.isub, 1) := by decide +kernel
theorem d_M_put_3 : decode b_M_put 3 = .ok (.istore_n 3, 1) := by decide +kernel
theorem d_M_put_4 : decode b_M_put 4 = .ok (.iload_n 3, 1) := by decide +kernel
theorem d_M_put_5 : decode b_M_put 5 = .ok (.ifCond .lt 35, 3) := by decide +kernel
theorem d_M_put_8 : decode b_M_put 8 = .ok (.aload_n 0, 1) := by decide +kernel
theorem d_M_put_9 : decode b_M_put 9 = .ok (.getfield 8, 3) := by decide +kernel
theorem d_M_put_12 : decode b_M_put 12 = .ok (.aload_n 0, 1) := by decide +kernel
theorem d_M_put_13 : decode b_M_put 13 = .ok (.getfield 40, 3) := by decide +kernel
theorem d_M_put_16 : decode b_M_put 16 = .ok (.iload_n 1, 1) := by decide +kernel
theorem d_M_put_17 : decode b_M_put 17 = .ok (.bipush 8, 2) := by decide +kernel
theorem d_M_put_19 : decode b_M_put 19 = .ok (.iload_n 3, 1) := by decide +kernel
theorem d_M_put_20 : decode b_M_put 20 = .ok (.imul, 1) := by decide +kernel
theorem d_M_put_21 : decode b_M_put 21 = .ok (.ishr, 1) := by decide +kernel
theorem d_M_put_22 : decode b_M_put 22 = .ok (.i2b, 1) := by decide +kernel
theorem d_M_put_23 : decode b_M_put 23 = .ok (.bastore, 1) := by decide +kernel
theorem d_M_put_24 : decode b_M_put 24 = .ok (.aload_n 0, 1) := by decide +kernel
theorem d_M_put_25 : decode b_M_put 25 = .ok (.dup, 1) := by decide +kernel
theorem d_M_put_26 : decode b_M_put 26 = .ok (.getfield 40, 3) := by decide +kernel
theorem d_M_put_29 : decode b_M_put 29 = .ok (.iconst 1, 1) := by decide +kernel
theorem d_M_put_30 : decode b_M_put 30 = .ok (.iadd, 1) := by decide +kernel
theorem d_M_put_31 : decode b_M_put 31 = .ok (.putfield 40, 3) := by decide +kernel
theorem d_M_put_34 : decode b_M_put 34 = .ok (.iinc 3 (-1), 3) := by decide +kernel
theorem d_M_put_37 : decode b_M_put 37 = .ok (.goto (-33), 3) := by decide +kernel
theorem d_M_put_40 : decode b_M_put 40 = .ok (.return_, 1) := by decide +kernel
theorem d_M_reach_0 : decode b_M_reach 0 = .ok (.iload_n 1, 1) := by decide +kernel
theorem d_M_reach_1 : decode b_M_reach 1 = .ok (.invokestatic 57, 3) := by decide +kernel
theorem d_M_reach_4 : decode b_M_reach 4 = .ok (.ifCond .eq 45, 3) := by decide +kernel
theorem d_M_reach_7 : decode b_M_reach 7 = .ok (.aload_n 0, 1) := by decide +kernel
theorem d_M_reach_8 : decode b_M_reach 8 = .ok (.getfield 30, 3) := by decide +kernel
theorem d_M_reach_11 : decode b_M_reach 11 = .ok (.iload_n 1, 1) := by decide +kernel
theorem d_M_reach_12 : decode b_M_reach 12 = .ok (.iconst 2, 1) := by decide +kernel
theorem d_M_reach_13 : decode b_M_reach 13 = .ok (.idiv, 1) := by decide +kernel
theorem d_M_reach_14 : decode b_M_reach 14 = .ok (.iaload, 1) := by decide +kernel
theorem d_M_reach_15 : decode b_M_reach 15 = .ok (.ifCond .ne 34, 3) := by decide +kernel
theorem d_M_reach_18 : decode b_M_reach 18 = .ok (.aload_n 0, 1) := by decide +kernel
theorem d_M_reach_19 : decode b_M_reach 19 = .ok (.getfield 30, 3) := by decide +kernel
theorem d_M_reach_22 : decode b_M_reach 22 = .ok (.iload_n 1, 1) := by decide +kernel
theorem d_M_reach_23 : decode b_M_reach 23 = .ok (.iconst 2, 1) := by decide +kernel
theorem d_M_reach_24 : decode b_M_reach 24 = .ok (.idiv, 1) := by decide +kernel
theorem d_M_reach_25 : decode b_M_reach 25 = .ok (.iconst 1, 1) := by decide +kernel
theorem d_M_reach_26 : decode b_M_reach 26 = .ok (.iastore, 1) := by decide +kernel
theorem d_M_reach_27 : decode b_M_reach 27 = .ok (.aload_n 0, 1) := by decide +kernel
theorem d_M_reach_28 : decode b_M_reach 28 = .ok (.getfield 27, 3) := by decide +kernel
theorem d_M_reach_31 : decode b_M_reach 31 = .ok (.aload_n 0, 1) := by decide +kernel
theorem d_M_reach_32 : decode b_M_reach 32 = .ok (.getfield 159, 3) := by decide +kernel
theorem d_M_reach_35 : decode b_M_reach 35 = .ok (.iload_n 1, 1) := by decide +kernel
theorem d_M_reach_36 : decode b_M_reach 36 = .ok (.iconst 2, 1) := by decide +kernel
theorem d_M_reach_37 : decode b_M_reach 37 = .ok (.idiv, 1) := by decide +kernel
theorem d_M_reach_38 : decode b_M_reach 38 = .ok (.iastore, 1) := by decide +kernel
theorem d_M_reach_39 : decode b_M_reach 39 = .ok (.aload_n 0, 1) := by decide +kernel
theorem d_M_reach_40 : decode b_M_reach 40 = .ok (.dup, 1) := by decide +kernel
theorem d_M_reach_41 : decode b_M_reach 41 = .ok (.getfield 159, 3) := by decide +kernel
theorem d_M_reach_44 : decode b_M_reach 44 = .ok (.iconst 1, 1) := by decide +kernel
theorem d_M_reach_45 : decode b_M_reach 45 = .ok (.iadd, 1) := by decide +kernel
theorem d_M_reach_46 : decode b_M_reach 46 = .ok (.putfield 159, 3) := by decide +kernel
theorem d_M_reach_49 : decode b_M_reach 49 = .ok (.return_, 1) := by decide +kernel
theorem d_M_reachAll_0 : decode b_M_reachAll 0 = .ok (.aload_n 0, 1) := by decide +kernel
theorem d_M_reachAll_1 : decode b_M_reachAll 1 = .ok (.iconst 0, 1) := by decide +kernel
theorem d_M_reachAll_2 : decode b_M_reachAll 2 = .ok (.putfield 159, 3) := by decide +kernel
theorem d_M_reachAll_5 : decode b_M_reachAll 5 = .ok (.iconst 0, 1) := by decide +kernel
theorem d_M_reachAll_6 : decode b_M_reachAll 6 = .ok (.istore_n 1, 1) := by decide +kernel
theorem d_M_reachAll_7 : decode b_M_reachAll 7 = .ok (.iload_n 1, 1) := by decide +kernel
theorem d_M_reachAll_8 : decode b_M_reachAll 8 = .ok (.sipush 8192, 3) := by decide +kernel
theorem d_M_reachAll_11 : decode b_M_reachAll 11 = .ok (.if_icmp .ge 16, 3) := by decide +kernel
theorem d_M_reachAll_14 : decode b_M_reachAll 14 = .ok (.aload_n 0, 1) := by decide +kernel
theorem d_M_reachAll_15 : decode b_M_reachAll 15 = .ok (.getfield 30, 3) := by decide +kernel
theorem d_M_reachAll_18 : decode b_M_reachAll 18 = .ok (.iload_n 1, 1) := by decide +kernel
theorem d_M_reachAll_19 : decode b_M_reachAll 19 = .ok (.iconst 0, 1) := by decide +kernel
theorem d_M_reachAll_20 : decode b_M_reachAll 20 = .ok (.iastore, 1) := by decide +kernel
theorem d_M_reachAll_21 : decode b_M_reachAll 21 = .ok (.iinc 1 1, 3) := by decide +kernel
theorem d_M_reachAll_24 : decode b_M_reachAll 24 = .ok (.goto (-17), 3) := by decide +kernel
theorem d_M_reachAll_27 : decode b_M_reachAll 27 = .ok (.iconst 0, 1) := by decide +kernel
theorem d_M_reachAll_28 : decode b_M_reachAll 28 = .ok (.istore_n 1, 1) := by decide +kernel
theorem d_M_reachAll_29 : decode b_M_reachAll 29 = .ok (.iload_n 1, 1) := by decide +kernel
theorem d_M_reachAll_30 : decode b_M_reachAll 30 = .ok (.bipush 50, 2) := by decide +kernel
theorem d_M_reachAll_32 : decode b_M_reachAll 32 = .ok (.if_icmp .ge 21, 3) := by decide +kernel
theorem d_M_reachAll_35 : decode b_M_reachAll 35 = .ok (.aload_n 0, 1) := by decide +kernel
theorem d_M_reachAll_36 : decode b_M_reachAll 36 = .ok (.aload_n 0, 1) := by decide +kernel
theorem d_M_reachAll_37 : decode b_M_reachAll 37 = .ok (.getfield 14, 3) := by decide +kernel
theorem d_M_reachAll_40 : decode b_M_reachAll 40 = .ok (.iload_n 1, 1) := by decide +kernel
theorem d_M_reachAll_41 : decode b_M_reachAll 41 = .ok (.invokestatic 65, 3) := by decide +kernel
theorem d_M_reachAll_44 : decode b_M_reachAll 44 = .ok (.invokevirtual 162, 3) := by decide +kernel
theorem d_M_reachAll_47 : decode b_M_reachAll 47 = .ok (.iinc 1 1, 3) := by decide +kernel
theorem d_M_reachAll_50 : decode b_M_reachAll 50 = .ok (.goto (-21), 3) := by decide +kernel
theorem d_M_reachAll_53 : decode b_M_reachAll 53 = .ok (.iconst 0, 1) := by decide +kernel
theorem d_M_reachAll_54 : decode b_M_reachAll 54 = .ok (.istore_n 1, 1) := by decide +kernel
theorem d_M_reachAll_55 : decode b_M_reachAll 55 = .ok (.iload_n 1, 1) := by decide +kernel
theorem d_M_reachAll_56 : decode b_M_reachAll 56 = .ok (.aload_n 0, 1) := by decide +kernel
theorem d_M_reachAll_57 : decode b_M_reachAll 57 = .ok (.getfield 159, 3) := by decide +kernel
theorem d_M_reachAll_60 : decode b_M_reachAll 60 = .ok (.if_icmp .ge 77, 3) := by decide +kernel
theorem d_M_reachAll_63 : decode b_M_reachAll 63 = .ok (.aload_n 0, 1) := by decide +kernel
theorem d_M_reachAll_64 : decode b_M_reachAll 64 = .ok (.getfield 20, 3) := by decide +kernel
theorem d_M_reachAll_67 : decode b_M_reachAll 67 = .ok (.aload_n 0, 1) := by decide +kernel
theorem d_M_reachAll_68 : decode b_M_reachAll 68 = .ok (.getfield 27, 3) := by decide +kernel
theorem d_M_reachAll_71 : decode b_M_reachAll 71 = .ok (.iload_n 1, 1) := by decide +kernel
theorem d_M_reachAll_72 : decode b_M_reachAll 72 = .ok (.iaload, 1) := by decide +kernel
theorem d_M_reachAll_73 : decode b_M_reachAll 73 = .ok (.iaload, 1) := by decide +kernel
theorem d_M_reachAll_74 : decode b_M_reachAll 74 = .ok (.istore_n 2, 1) := by decide +kernel
theorem d_M_reachAll_75 : decode b_M_reachAll 75 = .ok (.aload_n 0, 1) := by decide +kernel
theorem d_M_reachAll_76 : decode b_M_reachAll 76 = .ok (.aload_n 0, 1) := by decide +kernel
theorem d_M_reachAll_77 : decode b_M_reachAll 77 = .ok (.getfield 14, 3) := by decide +kernel
theorem d_M_reachAll_80 : decode b_M_reachAll 80 = .ok (.iload_n 2, 1) := by decide +kernel
theorem d_M_reachAll_81 : decode b_M_reachAll 81 = .ok (.invokestatic 47, 3) := by decide +kernel
theorem d_M_reachAll_84 : decode b_M_reachAll 84 = .ok (.invokevirtual 162, 3) := by decide +kernel
theorem d_M_reachAll_87 : decode b_M_reachAll 87 = .ok (.iconst 0, 1) := by decide +kernel
theorem d_M_reachAll_88 : decode b_M_reachAll 88 = .ok (.istore_n 3, 1) := by decide +kernel
theorem d_M_reachAll_89 : decode b_M_reachAll 89 = .ok (.iload_n 3, 1) := by decide +kernel
theorem d_M_reachAll_90 : decode b_M_reachAll 90 = .ok (.aload_n 0, 1) := by decide +kernel
theorem d_M_reachAll_91 : decode b_M_reachAll 91 = .ok (.getfield 14, 3) := by decide +kernel
theorem d_M_reachAll_94 : decode b_M_reachAll 94 = .ok (.iload_n 2, 1) := by decide +kernel
theorem d_M_reachAll_95 : decode b_M_reachAll 95 = .ok (.invokestatic 54, 3) := by decide +kernel
theorem d_M_reachAll_98 : decode b_M_reachAll 98 = .ok (.if_icmp .ge 33, 3) := by decide +kernel
theorem d_M_reachAll_101 : decode b_M_reachAll 101 = .ok (.aload_n 0, 1) := by decide +kernel
theorem d_M_reachAll_102 : decode b_M_reachAll 102 = .ok (.getfield 14, 3) := by decide +kernel
theorem d_M_reachAll_105 : decode b_M_reachAll 105 = .ok (.iload_n 2, 1) := by decide +kernel
theorem d_M_reachAll_106 : decode b_M_reachAll 106 = .ok (.invokestatic 50, 3) := by decide +kernel
theorem d_M_reachAll_109 : decode b_M_reachAll 109 = .ok (.ifCond .ne 22, 3) := by decide +kernel
theorem d_M_reachAll_112 : decode b_M_reachAll 112 = .ok (.aload_n 0, 1) := by decide +kernel
theorem d_M_reachAll_113 : decode b_M_reachAll 113 = .ok (.aload_n 0, 1) := by decide +kernel
theorem d_M_reachAll_114 : decode b_M_reachAll 114 = .ok (.getfield 14, 3) := by decide +kernel
theorem d_M_reachAll_117 : decode b_M_reachAll 117 = .ok (.iload_n 2, 1) := by decide +kernel
theorem d_M_reachAll_118 : decode b_M_reachAll 118 = .ok (.iload_n 3, 1) := by decide +kernel
theorem d_M_reachAll_119 : decode b_M_reachAll 119 = .ok (.invokestatic 61, 3) := by decide +kernel
theorem d_M_reachAll_122 : decode b_M_reachAll 122 = .ok (.invokevirtual 162, 3) := by decide +kernel
theorem d_M_reachAll_125 : decode b_M_reachAll 125 = .ok (.iinc 3 1, 3) := by decide +kernel
theorem d_M_reachAll_128 : decode b_M_reachAll 128 = .ok (.goto (-39), 3) := by decide +kernel
theorem d_M_reachAll_131 : decode b_M_reachAll 131 = .ok (.iinc 1 1, 3) := by decide +kernel
theorem d_M_reachAll_134 : decode b_M_reachAll 134 = .ok (.goto (-79), 3) := by decide +kernel
theorem d_M_reachAll_137 : decode b_M_reachAll 137 = .ok (.return_, 1) := by decide +kernel
theorem d_M_reachable_0 : decode b_M_reachable 0 = .ok (.aload_n 0, 1) := by decide +kernel
theorem d_M_reachable_1 : decode b_M_reachable 1 = .ok (.iconst 0, 1) := by decide +kernel
theorem d_M_reachable_2 : decode b_M_reachable 2 = .ok (.putfield 36, 3) := by decide +kernel
theorem d_M_reachable_5 : decode b_M_reachable 5 = .ok (.aload_n 0, 1) := by decide +kernel
theorem d_M_reachable_6 : decode b_M_reachable 6 = .ok (.getfield 149, 3) := by decide +kernel
theorem d_M_reachable_9 : decode b_M_reachable 9 = .ok (.ifCond .ne 5, 3) := by decide +kernel
theorem d_M_reachable_12 : decode b_M_reachable 12 = .ok (.iconst 0, 1) := by decide +kernel
theorem d_M_reachable_13 : decode b_M_reachable 13 = .ok (.ireturn, 1) := by decide +kernel
theorem d_M_reachable_14 : decode b_M_reachable 14 = .ok (.aload_n 0, 1) := by decide +kernel
theorem d_M_reachable_15 : decode b_M_reachable 15 = .ok (.invokevirtual 166, 3) := by decide +kernel
theorem d_M_reachable_18 : decode b_M_reachable 18 = .ok (.aload_n 0, 1) := by decide +kernel
theorem d_M_reachable_19 : decode b_M_reachable 19 = .ok (.getfield 159, 3) := by decide +kernel
theorem d_M_reachable_22 : decode b_M_reachable 22 = .ok (.ireturn, 1) := by decide +kernel
theorem d_M_read_0 : decode b_M_read 0 = .ok (.aload_n 0, 1) := by decide +kernel
theorem d_M_read_1 : decode b_M_read 1 = .ok (.iconst 0, 1) := by decide +kernel
theorem d_M_read_2 : decode b_M_read 2 = .ok (.putfield 36, 3) := by decide +kernel
theorem d_M_read_5 : decode b_M_read 5 = .ok (.aload_n 0, 1) := by decide +kernel
theorem d_M_read_6 : decode b_M_read 6 = .ok (.invokevirtual 146, 3) := by decide +kernel
theorem d_M_read_9 : decode b_M_read 9 = .ok (.istore_n 1, 1) := by decide +kernel
theorem d_M_read_10 : decode b_M_read 10 = .ok (.iload_n 1, 1) := by decide +kernel
theorem d_M_read_11 : decode b_M_read 11 = .ok (.iconst (-1), 1) := by decide +kernel
theorem d_M_read_12 : decode b_M_read 12 = .ok (.if_icmp .ne 39, 3) := by decide +kernel
theorem d_M_read_15 : decode b_M_read 15 = .ok (.iconst 0, 1) := by decide +kernel
theorem d_M_read_16 : decode b_M_read 16 = .ok (.istore_n 2, 1) := by decide +kernel
theorem d_M_read_17 : decode b_M_read 17 = .ok (.iload_n 2, 1) := by decide +kernel
theorem d_M_read_18 : decode b_M_read 18 = .ok (.aload_n 0, 1) := by decide +kernel
theorem d_M_read_19 : decode b_M_read 19 = .ok (.getfield 40, 3) := by decide +kernel
theorem d_M_read_22 : decode b_M_read 22 = .ok (.if_icmp .ge 21, 3) := by decide +kernel
theorem d_M_read_25 : decode b_M_read 25 = .ok (.aload_n 0, 1) := by decide +kernel
theorem d_M_read_26 : decode b_M_read 26 = .ok (.getfield 14, 3) := by decide +kernel
theorem d_M_read_29 : decode b_M_read 29 = .ok (.iload_n 2, 1) := by decide +kernel
theorem d_M_read_30 : decode b_M_read 30 = .ok (.aload_n 0, 1) := by decide +kernel
theorem d_M_read_31 : decode b_M_read 31 = .ok (.getfield 8, 3) := by decide +kernel
theorem d_M_read_34 : decode b_M_read 34 = .ok (.iload_n 2, 1) := by decide +kernel
theorem d_M_read_35 : decode b_M_read 35 = .ok (.baload, 1) := by decide +kernel
theorem d_M_read_36 : decode b_M_read 36 = .ok (.bastore, 1) := by decide +kernel
theorem d_M_read_37 : decode b_M_read 37 = .ok (.iinc 2 1, 3) := by decide +kernel
theorem d_M_read_40 : decode b_M_read 40 = .ok (.goto (-23), 3) := by decide +kernel
theorem d_M_read_43 : decode b_M_read 43 = .ok (.aload_n 0, 1) := by decide +kernel
theorem d_M_read_44 : decode b_M_read 44 = .ok (.aload_n 0, 1) := by decide +kernel
theorem d_M_read_45 : decode b_M_read 45 = .ok (.getfield 40, 3) := by decide +kernel
theorem d_M_read_48 : decode b_M_read 48 = .ok (.putfield 149, 3) := by decide +kernel
theorem d_M_read_51 : decode b_M_read 51 = .ok (.aload_n 0, 1) := by decide +kernel
theorem d_M_read_52 : decode b_M_read 52 = .ok (.iconst 0, 1) := by decide +kernel
theorem d_M_read_53 : decode b_M_read 53 = .ok (.putfield 40, 3) := by decide +kernel
theorem d_M_read_56 : decode b_M_read 56 = .ok (.aload_n 0, 1) := by decide +kernel
theorem d_M_read_57 : decode b_M_read 57 = .ok (.getfield 149, 3) := by decide +kernel
theorem d_M_read_60 : decode b_M_read 60 = .ok (.ifCond .le 14, 3) := by decide +kernel
theorem d_M_read_63 : decode b_M_read 63 = .ok (.aload_n 0, 1) := by decide +kernel
theorem d_M_read_64 : decode b_M_read 64 = .ok (.getfield 14, 3) := by decide +kernel
theorem d_M_read_67 : decode b_M_read 67 = .ok (.aload_n 0, 1) := by decide +kernel
theorem d_M_read_68 : decode b_M_read 68 = .ok (.getfield 20, 3) := by decide +kernel
theorem d_M_read_71 : decode b_M_read 71 = .ok (.invokestatic 152, 3) := by decide +kernel
theorem d_M_read_74 : decode b_M_read 74 = .ok (.iload_n 1, 1) := by decide +kernel
theorem d_M_read_75 : decode b_M_read 75 = .ok (.ireturn, 1) := by decide +kernel
theorem d_M_renumbered_0 : decode b_M_renumbered 0 = .ok (.iload_n 1, 1) := by decide +kernel
theorem d_M_renumbered_1 : decode b_M_renumbered 1 = .ok (.invokestatic 57, 3) := by decide +kernel
theorem d_M_renumbered_4 : decode b_M_renumbered 4 = .ok (.ifCond .eq 16, 3) := by decide +kernel
theorem d_M_renumbered_7 : decode b_M_renumbered 7 = .ok (.iconst 2, 1) := by decide +kernel
theorem d_M_renumbered_8 : decode b_M_renumbered 8 = .ok (.aload_n 0, 1) := by decide +kernel
theorem d_M_renumbered_9 : decode b_M_renumbered 9 = .ok (.getfield 30, 3) := by decide +kernel
theorem d_M_renumbered_12 : decode b_M_renumbered 12 = .ok (.iload_n 1, 1) := by decide +kernel
theorem d_M_renumbered_13 : decode b_M_renumbered 13 = .ok (.iconst 2, 1) := by decide +kernel
theorem d_M_renumbered_14 : decode b_M_renumbered 14 = .ok (.idiv, 1) := by decide +kernel
theorem d_M_renumbered_15 : decode b_M_renumbered 15 = .ok (.iaload, 1) := by decide +kernel
theorem d_M_renumbered_16 : decode b_M_renumbered 16 = .ok (.imul, 1) := by decide +kernel
theorem d_M_renumbered_17 : decode b_M_renumbered 17 = .ok (.goto 4, 3) := by decide +kernel
theorem d_M_renumbered_20 : decode b_M_renumbered 20 = .ok (.iload_n 1, 1) := by decide +kernel
theorem d_M_renumbered_21 : decode b_M_renumbered 21 = .ok (.ireturn, 1) := by decide +kernel
theorem d_M_same_0 : decode b_M_same 0 = .ok (.aload_n 0, 1) := by decide +kernel
theorem d_M_same_1 : decode b_M_same 1 = .ok (.iconst 0, 1) := by decide +kernel
theorem d_M_same_2 : decode b_M_same 2 = .ok (.putfield 36, 3) := by decide +kernel
theorem d_M_same_5 : decode b_M_same 5 = .ok (.aload_n 0, 1) := by decide +kernel
theorem d_M_same_6 : decode b_M_same 6 = .ok (.getfield 149, 3) := by decide +kernel
theorem d_M_same_9 : decode b_M_same 9 = .ok (.ifCond .eq 40, 3) := by decide +kernel
theorem d_M_same_12 : decode b_M_same 12 = .ok (.aload_n 0, 1) := by decide +kernel
theorem d_M_same_13 : decode b_M_same 13 = .ok (.getfield 176, 3) := by decide +kernel
theorem d_M_same_16 : decode b_M_same 16 = .ok (.ifCond .eq 33, 3) := by decide +kernel
theorem d_M_same_19 : decode b_M_same 19 = .ok (.aload_n 0, 1) := by decide +kernel
theorem d_M_same_20 : decode b_M_same 20 = .ok (.getfield 14, 3) := by decide +kernel
theorem d_M_same_23 : decode b_M_same 23 = .ok (.iconst 4, 1) := by decide +kernel
theorem d_M_same_24 : decode b_M_same 24 = .ok (.baload, 1) := by decide +kernel
theorem d_M_same_25 : decode b_M_same 25 = .ok (.aload_n 0, 1) := by decide +kernel
theorem d_M_same_26 : decode b_M_same 26 = .ok (.getfield 17, 3) := by decide +kernel
theorem d_M_same_29 : decode b_M_same 29 = .ok (.iconst 4, 1) := by decide +kernel
theorem d_M_same_30 : decode b_M_same 30 = .ok (.baload, 1) := by decide +kernel
theorem d_M_same_31 : decode b_M_same 31 = .ok (.if_icmp .ne 18, 3) := by decide +kernel
theorem d_M_same_34 : decode b_M_same 34 = .ok (.aload_n 0, 1) := by decide +kernel
theorem d_M_same_35 : decode b_M_same 35 = .ok (.getfield 14, 3) := by decide +kernel
theorem d_M_same_38 : decode b_M_same 38 = .ok (.iconst 5, 1) := by decide +kernel
theorem d_M_same_39 : decode b_M_same 39 = .ok (.baload, 1) := by decide +kernel
theorem d_M_same_40 : decode b_M_same 40 = .ok (.aload_n 0, 1) := by decide +kernel
theorem d_M_same_41 : decode b_M_same 41 = .ok (.getfield 17, 3) := by decide +kernel
theorem d_M_same_44 : decode b_M_same 44 = .ok (.iconst 5, 1) := by decide +kernel
theorem d_M_same_45 : decode b_M_same 45 = .ok (.baload, 1) := by decide +kernel
theorem d_M_same_46 : decode b_M_same 46 = .ok (.if_icmp .eq 5, 3) := by decide +kernel
theorem d_M_same_49 : decode b_M_same 49 = .ok (.iconst 0, 1) := by decide +kernel
theorem d_M_same_50 : decode b_M_same 50 = .ok (.ireturn, 1) := by decide +kernel
theorem d_M_same_51 : decode b_M_same 51 = .ok (.aload_n 0, 1) := by decide +kernel
theorem d_M_same_52 : decode b_M_same 52 = .ok (.getfield 17, 3) := by decide +kernel
theorem d_M_same_55 : decode b_M_same 55 = .ok (.aload_n 0, 1) := by decide +kernel
theorem d_M_same_56 : decode b_M_same 56 = .ok (.getfield 24, 3) := by decide +kernel
theorem d_M_same_59 : decode b_M_same 59 = .ok (.invokestatic 152, 3) := by decide +kernel
theorem d_M_same_62 : decode b_M_same 62 = .ok (.aload_n 0, 1) := by decide +kernel
theorem d_M_same_63 : decode b_M_same 63 = .ok (.iconst 0, 1) := by decide +kernel
theorem d_M_same_64 : decode b_M_same 64 = .ok (.putfield 159, 3) := by decide +kernel
theorem d_M_same_67 : decode b_M_same 67 = .ok (.iconst 0, 1) := by decide +kernel
theorem d_M_same_68 : decode b_M_same 68 = .ok (.istore_n 1, 1) := by decide +kernel
theorem d_M_same_69 : decode b_M_same 69 = .ok (.iload_n 1, 1) := by decide +kernel
theorem d_M_same_70 : decode b_M_same 70 = .ok (.sipush 8192, 3) := by decide +kernel
theorem d_M_same_73 : decode b_M_same 73 = .ok (.if_icmp .ge 23, 3) := by decide +kernel
theorem d_M_same_76 : decode b_M_same 76 = .ok (.aload_n 0, 1) := by decide +kernel
theorem d_M_same_77 : decode b_M_same 77 = .ok (.getfield 30, 3) := by decide +kernel
theorem d_M_same_80 : decode b_M_same 80 = .ok (.iload_n 1, 1) := by decide +kernel
theorem d_M_same_81 : decode b_M_same 81 = .ok (.iconst 0, 1) := by decide +kernel
theorem d_M_same_82 : decode b_M_same 82 = .ok (.iastore, 1) := by decide +kernel
theorem d_M_same_83 : decode b_M_same 83 = .ok (.aload_n 0, 1) := by decide +kernel
theorem d_M_same_84 : decode b_M_same 84 = .ok (.getfield 33, 3) := by decide +kernel
theorem d_M_same_87 : decode b_M_same 87 = .ok (.iload_n 1, 1) := by decide +kernel
theorem d_M_same_88 : decode b_M_same 88 = .ok (.iconst 0, 1) := by decide +kernel
theorem d_M_same_89 : decode b_M_same 89 = .ok (.iastore, 1) := by decide +kernel
theorem d_M_same_90 : decode b_M_same 90 = .ok (.iinc 1 1, 3) := by decide +kernel
theorem d_M_same_93 : decode b_M_same 93 = .ok (.goto (-24), 3) := by decide +kernel
theorem d_M_same_96 : decode b_M_same 96 = .ok (.iconst 1, 1) := by decide +kernel
theorem d_M_same_97 : decode b_M_same 97 = .ok (.istore_n 1, 1) := by decide +kernel
theorem d_M_same_98 : decode b_M_same 98 = .ok (.iconst 0, 1) := by decide +kernel
theorem d_M_same_99 : decode b_M_same 99 = .ok (.istore_n 2, 1) := by decide +kernel
theorem d_M_same_100 : decode b_M_same 100 = .ok (.iload_n 2, 1) := by decide +kernel
theorem d_M_same_101 : decode b_M_same 101 = .ok (.bipush 50, 2) := by decide +kernel
theorem d_M_same_103 : decode b_M_same 103 = .ok (.if_icmp .ge 34, 3) := by decide +kernel
theorem d_M_same_106 : decode b_M_same 106 = .ok (.iload_n 1, 1) := by decide +kernel
theorem d_M_same_107 : decode b_M_same 107 = .ok (.ifCond .eq 30, 3) := by decide +kernel
theorem d_M_same_110 : decode b_M_same 110 = .ok (.aload_n 0, 1) := by decide +kernel
theorem d_M_same_111 : decode b_M_same 111 = .ok (.aload_n 0, 1) := by decide +kernel
theorem d_M_same_112 : decode b_M_same 112 = .ok (.getfield 14, 3) := by decide +kernel
theorem d_M_same_115 : decode b_M_same 115 = .ok (.iload_n 2, 1) := by decide +kernel
theorem d_M_same_116 : decode b_M_same 116 = .ok (.invokestatic 65, 3) := by decide +kernel
theorem d_M_same_119 : decode b_M_same 119 = .ok (.aload_n 0, 1) := by decide +kernel
theorem d_M_same_120 : decode b_M_same 120 = .ok (.getfield 17, 3) := by decide +kernel
theorem d_M_same_123 : decode b_M_same 123 = .ok (.iload_n 2, 1) := by decide +kernel
theorem d_M_same_124 : decode b_M_same 124 = .ok (.invokestatic 65, 3) := by decide +kernel
theorem d_M_same_127 : decode b_M_same 127 = .ok (.invokevirtual 179, 3) := by decide +kernel
theorem d_M_same_130 : decode b_M_same 130 = .ok (.istore_n 1, 1) := by decide +kernel
theorem d_M_same_131 : decode b_M_same 131 = .ok (.iinc 2 1, 3) := by decide +kernel
theorem d_M_same_134 : decode b_M_same 134 = .ok (.goto (-34), 3) := by decide +kernel
theorem d_M_same_137 : decode b_M_same 137 = .ok (.iconst 0, 1) := by decide +kernel
theorem d_M_same_138 : decode b_M_same 138 = .ok (.istore_n 2, 1) := by decide +kernel
theorem d_M_same_139 : decode b_M_same 139 = .ok (.iload_n 2, 1) := by decide +kernel
theorem d_M_same_140 : decode b_M_same 140 = .ok (.aload_n 0, 1) := by decide +kernel
theorem d_M_same_141 : decode b_M_same 141 = .ok (.getfield 159, 3) := by decide +kernel
theorem d_M_same_144 : decode b_M_same 144 = .ok (.if_icmp .ge 24, 3) := by decide +kernel
theorem d_M_same_147 : decode b_M_same 147 = .ok (.iload_n 1, 1) := by decide +kernel
theorem d_M_same_148 : decode b_M_same 148 = .ok (.ifCond .eq 20, 3) := by decide +kernel
theorem d_M_same_151 : decode b_M_same 151 = .ok (.aload_n 0, 1) := by decide +kernel
theorem d_M_same_152 : decode b_M_same 152 = .ok (.aload_n 0, 1) := by decide +kernel
theorem d_M_same_153 : decode b_M_same 153 = .ok (.getfield 27, 3) := by decide +kernel
theorem d_M_same_156 : decode b_M_same 156 = .ok (.iload_n 2, 1) := by decide +kernel
theorem d_M_same_157 : decode b_M_same 157 = .ok (.iaload, 1) := by decide +kernel
theorem d_M_same_158 : decode b_M_same 158 = .ok (.invokevirtual 182, 3) := by decide +kernel
theorem d_M_same_161 : decode b_M_same 161 = .ok (.istore_n 1, 1) := by decide +kernel
theorem d_M_same_162 : decode b_M_same 162 = .ok (.iinc 2 1, 3) := by decide +kernel
theorem d_M_same_165 : decode b_M_same 165 = .ok (.goto (-26), 3) := by decide +kernel
theorem d_M_same_168 : decode b_M_same 168 = .ok (.iload_n 1, 1) := by decide +kernel
theorem d_M_same_169 : decode b_M_same 169 = .ok (.ireturn, 1) := by decide +kernel
theorem d_M_size_0 : decode b_M_size 0 = .ok (.aload_n 0, 1) := by decide +kernel
theorem d_M_size_1 : decode b_M_size 1 = .ok (.iconst 0, 1) := by decide +kernel
theorem d_M_size_2 : decode b_M_size 2 = .ok (.putfield 36, 3) := by decide +kernel
theorem d_M_size_5 : decode b_M_size 5 = .ok (.aload_n 0, 1) := by decide +kernel
theorem d_M_size_6 : decode b_M_size 6 = .ok (.iload_n 1, 1) := by decide +kernel
theorem d_M_size_7 : decode b_M_size 7 = .ok (.invokevirtual 156, 3) := by decide +kernel
theorem d_M_size_10 : decode b_M_size 10 = .ok (.ifCond .eq 19, 3) := by decide +kernel
theorem d_M_size_13 : decode b_M_size 13 = .ok (.aload_n 0, 1) := by decide +kernel
theorem d_M_size_14 : decode b_M_size 14 = .ok (.getfield 14, 3) := by decide +kernel
theorem d_M_size_17 : decode b_M_size 17 = .ok (.aload_n 0, 1) := by decide +kernel
theorem d_M_size_18 : decode b_M_size 18 = .ok (.getfield 20, 3) := by decide +kernel
theorem d_M_size_21 : decode b_M_size 21 = .ok (.iload_n 1, 1) := by decide +kernel
theorem d_M_size_22 : decode b_M_size 22 = .ok (.iaload, 1) := by decide +kernel
theorem d_M_size_23 : decode b_M_size 23 = .ok (.invokestatic 54, 3) := by decide +kernel
theorem d_M_size_26 : decode b_M_size 26 = .ok (.goto 4, 3) := by decide +kernel
theorem d_M_size_29 : decode b_M_size 29 = .ok (.iconst (-1), 1) := by decide +kernel
theorem d_M_size_30 : decode b_M_size 30 = .ok (.ireturn, 1) := by decide +kernel
theorem d_M_sizeAt_0 : decode b_M_sizeAt 0 = .ok (.aload_n 0, 1) := by decide +kernel
theorem d_M_sizeAt_1 : decode b_M_sizeAt 1 = .ok (.iload_n 1, 1) := by decide +kernel
theorem d_M_sizeAt_2 : decode b_M_sizeAt 2 = .ok (.iconst 5, 1) := by decide +kernel
theorem d_M_sizeAt_3 : decode b_M_sizeAt 3 = .ok (.iadd, 1) := by decide +kernel
theorem d_M_sizeAt_4 : decode b_M_sizeAt 4 = .ok (.invokestatic 43, 3) := by decide +kernel
theorem d_M_sizeAt_7 : decode b_M_sizeAt 7 = .ok (.ireturn, 1) := by decide +kernel
theorem d_M_special_I_0 : decode b_M_special_I 0 = .ok (.aload_n 0, 1) := by decide +kernel
theorem d_M_special_I_1 : decode b_M_special_I 1 = .ok (.iconst 0, 1) := by decide +kernel
theorem d_M_special_I_2 : decode b_M_special_I 2 = .ok (.putfield 36, 3) := by decide +kernel
theorem d_M_special_I_5 : decode b_M_special_I 5 = .ok (.aload_n 0, 1) := by decide +kernel
theorem d_M_special_I_6 : decode b_M_special_I 6 = .ok (.getfield 149, 3) := by decide +kernel
theorem d_M_special_I_9 : decode b_M_special_I 9 = .ok (.ifCond .eq 13, 3) := by decide +kernel
theorem d_M_special_I_12 : decode b_M_special_I 12 = .ok (.iload_n 1, 1) := by decide +kernel
theorem d_M_special_I_13 : decode b_M_special_I 13 = .ok (.ifCond .lt 9, 3) := by decide +kernel
theorem d_M_special_I_16 : decode b_M_special_I 16 = .ok (.iload_n 1, 1) := by decide +kernel
theorem d_M_special_I_17 : decode b_M_special_I 17 = .ok (.bipush 49, 2) := by decide +kernel
theorem d_M_special_I_19 : decode b_M_special_I 19 = .ok (.if_icmp .le 7, 3) := by decide +kernel
theorem d_M_special_I_22 : decode b_M_special_I 22 = .ok (.iconst 0, 1) := by decide +kernel
theorem d_M_special_I_23 : decode b_M_special_I 23 = .ok (.goto 11, 3) := by decide +kernel
theorem d_M_special_I_26 : decode b_M_special_I 26 = .ok (.aload_n 0, 1) := by decide +kernel
theorem d_M_special_I_27 : decode b_M_special_I 27 = .ok (.getfield 14, 3) := by decide +kernel
theorem d_M_special_I_30 : decode b_M_special_I 30 = .ok (.iload_n 1, 1) := by decide +kernel
theorem d_M_special_I_31 : decode b_M_special_I 31 = .ok (.invokestatic 65, 3) := by decide +kernel
theorem d_M_special_I_34 : decode b_M_special_I 34 = .ok (.ireturn, 1) := by decide +kernel
theorem d_M_special_aBI_0 : decode b_M_special_aBI 0 = .ok (.aload_n 0, 1) := by decide +kernel
theorem d_M_special_aBI_1 : decode b_M_special_aBI 1 = .ok (.bipush 8, 2) := by decide +kernel
theorem d_M_special_aBI_3 : decode b_M_special_aBI 3 = .ok (.iconst 4, 1) := by decide +kernel
theorem d_M_special_aBI_4 : decode b_M_special_aBI 4 = .ok (.iload_n 1, 1) := by decide +kernel
theorem d_M_special_aBI_5 : decode b_M_special_aBI 5 = .ok (.imul, 1) := by decide +kernel
theorem d_M_special_aBI_6 : decode b_M_special_aBI 6 = .ok (.iadd, 1) := by decide +kernel
theorem d_M_special_aBI_7 : decode b_M_special_aBI 7 = .ok (.invokestatic 47, 3) := by decide +kernel
theorem d_M_special_aBI_10 : decode b_M_special_aBI 10 = .ok (.ireturn, 1) := by decide +kernel
