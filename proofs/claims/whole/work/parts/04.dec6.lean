theorem d_M_stepHead_0 : decode b_M_stepHead 0 = .ok (.iconst 0, 1) := by decide +kernel
theorem d_M_stepHead_1 : decode b_M_stepHead 1 = .ok (.istore_n 1, 1) := by decide +kernel
theorem d_M_stepHead_2 : decode b_M_stepHead 2 = .ok (.iload_n 1, 1) := by decide +kernel
theorem d_M_stepHead_3 : decode b_M_stepHead 3 = .ok (.bipush 8, 2) := by decide +kernel
theorem d_M_stepHead_5 : decode b_M_stepHead 5 = .ok (.if_icmp .ge 142, 3) := by decide +kernel
theorem d_M_stepHead_8 : decode b_M_stepHead 8 = .ok (.iload_n 1, 1) := by decide +kernel
theorem d_M_stepHead_9 : decode b_M_stepHead 9 = .ok (.aload_n 0, 1) := by decide +kernel
theorem d_M_stepHead_10 : decode b_M_stepHead 10 = .ok (.getfield 40, 3) := by decide +kernel
theorem d_M_stepHead_13 : decode b_M_stepHead 13 = .ok (.if_icmp .lt 5, 3) := by decide +kernel
theorem d_M_stepHead_16 : decode b_M_stepHead 16 = .ok (.iload_n 1, 1) := by decide +kernel
theorem d_M_stepHead_17 : decode b_M_stepHead 17 = .ok (.ireturn, 1) := by decide +kernel
theorem d_M_stepHead_18 : decode b_M_stepHead 18 = .ok (.aload_n 0, 1) := by decide +kernel
theorem d_M_stepHead_19 : decode b_M_stepHead 19 = .ok (.getfield 8, 3) := by decide +kernel
theorem d_M_stepHead_22 : decode b_M_stepHead 22 = .ok (.iload_n 1, 1) := by decide +kernel
theorem d_M_stepHead_23 : decode b_M_stepHead 23 = .ok (.baload, 1) := by decide +kernel
theorem d_M_stepHead_24 : decode b_M_stepHead 24 = .ok (.sipush 255, 3) := by decide +kernel
theorem d_M_stepHead_27 : decode b_M_stepHead 27 = .ok (.iand, 1) := by decide +kernel
theorem d_M_stepHead_28 : decode b_M_stepHead 28 = .ok (.istore_n 2, 1) := by decide +kernel
theorem d_M_stepHead_29 : decode b_M_stepHead 29 = .ok (.iload_n 1, 1) := by decide +kernel
theorem d_M_stepHead_30 : decode b_M_stepHead 30 = .ok (.iconst 2, 1) := by decide +kernel
theorem d_M_stepHead_31 : decode b_M_stepHead 31 = .ok (.if_icmp .ge 17, 3) := by decide +kernel
theorem d_M_stepHead_34 : decode b_M_stepHead 34 = .ok (.iload_n 2, 1) := by decide +kernel
theorem d_M_stepHead_35 : decode b_M_stepHead 35 = .ok (.bipush 77, 2) := by decide +kernel
theorem d_M_stepHead_37 : decode b_M_stepHead 37 = .ok (.if_icmp .ne 7, 3) := by decide +kernel
theorem d_M_stepHead_40 : decode b_M_stepHead 40 = .ok (.iconst 1, 1) := by decide +kernel
theorem d_M_stepHead_41 : decode b_M_stepHead 41 = .ok (.goto 93, 3) := by decide +kernel
theorem d_M_stepHead_44 : decode b_M_stepHead 44 = .ok (.iconst 0, 1) := by decide +kernel
theorem d_M_stepHead_45 : decode b_M_stepHead 45 = .ok (.goto 89, 3) := by decide +kernel
theorem d_M_stepHead_48 : decode b_M_stepHead 48 = .ok (.iload_n 1, 1) := by decide +kernel
theorem d_M_stepHead_49 : decode b_M_stepHead 49 = .ok (.iconst 2, 1) := by decide +kernel
theorem d_M_stepHead_50 : decode b_M_stepHead 50 = .ok (.if_icmp .ne 16, 3) := by decide +kernel
theorem d_M_stepHead_53 : decode b_M_stepHead 53 = .ok (.iload_n 2, 1) := by decide +kernel
theorem d_M_stepHead_54 : decode b_M_stepHead 54 = .ok (.iconst 1, 1) := by decide +kernel
theorem d_M_stepHead_55 : decode b_M_stepHead 55 = .ok (.if_icmp .ne 7, 3) := by decide +kernel
theorem d_M_stepHead_58 : decode b_M_stepHead 58 = .ok (.iconst 1, 1) := by decide +kernel
theorem d_M_stepHead_59 : decode b_M_stepHead 59 = .ok (.goto 75, 3) := by decide +kernel
theorem d_M_stepHead_62 : decode b_M_stepHead 62 = .ok (.iconst 0, 1) := by decide +kernel
theorem d_M_stepHead_63 : decode b_M_stepHead 63 = .ok (.goto 71, 3) := by decide +kernel
theorem d_M_stepHead_66 : decode b_M_stepHead 66 = .ok (.iload_n 1, 1) := by decide +kernel
theorem d_M_stepHead_67 : decode b_M_stepHead 67 = .ok (.iconst 3, 1) := by decide +kernel
theorem d_M_stepHead_68 : decode b_M_stepHead 68 = .ok (.if_icmp .ne 15, 3) := by decide +kernel
theorem d_M_stepHead_71 : decode b_M_stepHead 71 = .ok (.iload_n 2, 1) := by decide +kernel
theorem d_M_stepHead_72 : decode b_M_stepHead 72 = .ok (.ifCond .ne 7, 3) := by decide +kernel
theorem d_M_stepHead_75 : decode b_M_stepHead 75 = .ok (.iconst 1, 1) := by decide +kernel
theorem d_M_stepHead_76 : decode b_M_stepHead 76 = .ok (.goto 58, 3) := by decide +kernel
theorem d_M_stepHead_79 : decode b_M_stepHead 79 = .ok (.iconst 0, 1) := by decide +kernel
theorem d_M_stepHead_80 : decode b_M_stepHead 80 = .ok (.goto 54, 3) := by decide +kernel
theorem d_M_stepHead_83 : decode b_M_stepHead 83 = .ok (.iload_n 1, 1) := by decide +kernel
theorem d_M_stepHead_84 : decode b_M_stepHead 84 = .ok (.iconst 4, 1) := by decide +kernel
theorem d_M_stepHead_85 : decode b_M_stepHead 85 = .ok (.if_icmp .ne 23, 3) := by decide +kernel
theorem d_M_stepHead_88 : decode b_M_stepHead 88 = .ok (.iload_n 2, 1) := by decide +kernel
theorem d_M_stepHead_89 : decode b_M_stepHead 89 = .ok (.bipush 12, 2) := by decide +kernel
theorem d_M_stepHead_91 : decode b_M_stepHead 91 = .ok (.if_icmp .lt 13, 3) := by decide +kernel
theorem d_M_stepHead_94 : decode b_M_stepHead 94 = .ok (.iload_n 2, 1) := by decide +kernel
theorem d_M_stepHead_95 : decode b_M_stepHead 95 = .ok (.bipush 18, 2) := by decide +kernel
theorem d_M_stepHead_97 : decode b_M_stepHead 97 = .ok (.if_icmp .gt 7, 3) := by decide +kernel
theorem d_M_stepHead_100 : decode b_M_stepHead 100 = .ok (.iconst 1, 1) := by decide +kernel
theorem d_M_stepHead_101 : decode b_M_stepHead 101 = .ok (.goto 33, 3) := by decide +kernel
theorem d_M_stepHead_104 : decode b_M_stepHead 104 = .ok (.iconst 0, 1) := by decide +kernel
theorem d_M_stepHead_105 : decode b_M_stepHead 105 = .ok (.goto 29, 3) := by decide +kernel
theorem d_M_stepHead_108 : decode b_M_stepHead 108 = .ok (.iload_n 1, 1) := by decide +kernel
theorem d_M_stepHead_109 : decode b_M_stepHead 109 = .ok (.iconst 5, 1) := by decide +kernel
theorem d_M_stepHead_110 : decode b_M_stepHead 110 = .ok (.if_icmp .ne 23, 3) := by decide +kernel
theorem d_M_stepHead_113 : decode b_M_stepHead 113 = .ok (.iload_n 2, 1) := by decide +kernel
theorem d_M_stepHead_114 : decode b_M_stepHead 114 = .ok (.bipush 10, 2) := by decide +kernel
theorem d_M_stepHead_116 : decode b_M_stepHead 116 = .ok (.if_icmp .lt 13, 3) := by decide +kernel
theorem d_M_stepHead_119 : decode b_M_stepHead 119 = .ok (.iload_n 2, 1) := by decide +kernel
theorem d_M_stepHead_120 : decode b_M_stepHead 120 = .ok (.bipush 14, 2) := by decide +kernel
theorem d_M_stepHead_122 : decode b_M_stepHead 122 = .ok (.if_icmp .gt 7, 3) := by decide +kernel
theorem d_M_stepHead_125 : decode b_M_stepHead 125 = .ok (.iconst 1, 1) := by decide +kernel
theorem d_M_stepHead_126 : decode b_M_stepHead 126 = .ok (.goto 8, 3) := by decide +kernel
theorem d_M_stepHead_129 : decode b_M_stepHead 129 = .ok (.iconst 0, 1) := by decide +kernel
theorem d_M_stepHead_130 : decode b_M_stepHead 130 = .ok (.goto 4, 3) := by decide +kernel
theorem d_M_stepHead_133 : decode b_M_stepHead 133 = .ok (.iconst 1, 1) := by decide +kernel
theorem d_M_stepHead_134 : decode b_M_stepHead 134 = .ok (.istore_n 3, 1) := by decide +kernel
theorem d_M_stepHead_135 : decode b_M_stepHead 135 = .ok (.iload_n 3, 1) := by decide +kernel
theorem d_M_stepHead_136 : decode b_M_stepHead 136 = .ok (.ifCond .ne 5, 3) := by decide +kernel
theorem d_M_stepHead_139 : decode b_M_stepHead 139 = .ok (.iload_n 1, 1) := by decide +kernel
theorem d_M_stepHead_140 : decode b_M_stepHead 140 = .ok (.ireturn, 1) := by decide +kernel
theorem d_M_stepHead_141 : decode b_M_stepHead 141 = .ok (.iinc 1 1, 3) := by decide +kernel
theorem d_M_stepHead_144 : decode b_M_stepHead 144 = .ok (.goto (-142), 3) := by decide +kernel
theorem d_M_stepHead_147 : decode b_M_stepHead 147 = .ok (.aload_n 0, 1) := by decide +kernel
theorem d_M_stepHead_148 : decode b_M_stepHead 148 = .ok (.getfield 8, 3) := by decide +kernel
theorem d_M_stepHead_151 : decode b_M_stepHead 151 = .ok (.invokestatic 101, 3) := by decide +kernel
theorem d_M_stepHead_154 : decode b_M_stepHead 154 = .ok (.iconst 1, 1) := by decide +kernel
theorem d_M_stepHead_155 : decode b_M_stepHead 155 = .ok (.if_icmp .lt 16, 3) := by decide +kernel
theorem d_M_stepHead_158 : decode b_M_stepHead 158 = .ok (.aload_n 0, 1) := by decide +kernel
theorem d_M_stepHead_159 : decode b_M_stepHead 159 = .ok (.getfield 8, 3) := by decide +kernel
theorem d_M_stepHead_162 : decode b_M_stepHead 162 = .ok (.invokestatic 101, 3) := by decide +kernel
theorem d_M_stepHead_165 : decode b_M_stepHead 165 = .ok (.sipush 8191, 3) := by decide +kernel
theorem d_M_stepHead_168 : decode b_M_stepHead 168 = .ok (.if_icmp .le 8, 3) := by decide +kernel
theorem d_M_stepHead_171 : decode b_M_stepHead 171 = .ok (.bipush 6, 2) := by decide +kernel
theorem d_M_stepHead_173 : decode b_M_stepHead 173 = .ok (.goto 4, 3) := by decide +kernel
theorem d_M_stepHead_176 : decode b_M_stepHead 176 = .ok (.iconst (-1), 1) := by decide +kernel
theorem d_M_stepHead_177 : decode b_M_stepHead 177 = .ok (.ireturn, 1) := by decide +kernel
theorem d_M_stepObjects_0 : decode b_M_stepObjects 0 = .ok (.iconst 1, 1) := by decide +kernel
theorem d_M_stepObjects_1 : decode b_M_stepObjects 1 = .ok (.istore_n 1, 1) := by decide +kernel
theorem d_M_stepObjects_2 : decode b_M_stepObjects 2 = .ok (.iload_n 1, 1) := by decide +kernel
theorem d_M_stepObjects_3 : decode b_M_stepObjects 3 = .ok (.aload_n 0, 1) := by decide +kernel
theorem d_M_stepObjects_4 : decode b_M_stepObjects 4 = .ok (.getfield 8, 3) := by decide +kernel
theorem d_M_stepObjects_7 : decode b_M_stepObjects 7 = .ok (.invokestatic 101, 3) := by decide +kernel
theorem d_M_stepObjects_10 : decode b_M_stepObjects 10 = .ok (.if_icmp .gt 24, 3) := by decide +kernel
theorem d_M_stepObjects_13 : decode b_M_stepObjects 13 = .ok (.aload_n 0, 1) := by decide +kernel
theorem d_M_stepObjects_14 : decode b_M_stepObjects 14 = .ok (.iload_n 1, 1) := by decide +kernel
theorem d_M_stepObjects_15 : decode b_M_stepObjects 15 = .ok (.invokevirtual 121, 3) := by decide +kernel
theorem d_M_stepObjects_18 : decode b_M_stepObjects 18 = .ok (.ifCond .ne 10, 3) := by decide +kernel
theorem d_M_stepObjects_21 : decode b_M_stepObjects 21 = .ok (.aload_n 0, 1) := by decide +kernel
theorem d_M_stepObjects_22 : decode b_M_stepObjects 22 = .ok (.getfield 20, 3) := by decide +kernel
theorem d_M_stepObjects_25 : decode b_M_stepObjects 25 = .ok (.iload_n 1, 1) := by decide +kernel
theorem d_M_stepObjects_26 : decode b_M_stepObjects 26 = .ok (.iaload, 1) := by decide +kernel
theorem d_M_stepObjects_27 : decode b_M_stepObjects 27 = .ok (.ireturn, 1) := by decide +kernel
theorem d_M_stepObjects_28 : decode b_M_stepObjects 28 = .ok (.iinc 1 1, 3) := by decide +kernel
theorem d_M_stepObjects_31 : decode b_M_stepObjects 31 = .ok (.goto (-29), 3) := by decide +kernel
theorem d_M_stepObjects_34 : decode b_M_stepObjects 34 = .ok (.iconst (-1), 1) := by decide +kernel
theorem d_M_stepObjects_35 : decode b_M_stepObjects 35 = .ok (.ireturn, 1) := by decide +kernel
theorem d_M_stepProcess_0 : decode b_M_stepProcess 0 = .ok (.aload_n 0, 1) := by decide +kernel
theorem d_M_stepProcess_1 : decode b_M_stepProcess 1 = .ok (.getfield 8, 3) := by decide +kernel
theorem d_M_stepProcess_4 : decode b_M_stepProcess 4 = .ok (.bipush 14, 2) := by decide +kernel
theorem d_M_stepProcess_6 : decode b_M_stepProcess 6 = .ok (.invokestatic 65, 3) := by decide +kernel
theorem d_M_stepProcess_9 : decode b_M_stepProcess 9 = .ok (.istore_n 1, 1) := by decide +kernel
theorem d_M_stepProcess_10 : decode b_M_stepProcess 10 = .ok (.aload_n 0, 1) := by decide +kernel
theorem d_M_stepProcess_11 : decode b_M_stepProcess 11 = .ok (.iload_n 1, 1) := by decide +kernel
theorem d_M_stepProcess_12 : decode b_M_stepProcess 12 = .ok (.iconst 0, 1) := by decide +kernel
theorem d_M_stepProcess_13 : decode b_M_stepProcess 13 = .ok (.invokevirtual 72, 3) := by decide +kernel
theorem d_M_stepProcess_16 : decode b_M_stepProcess 16 = .ok (.istore_n 2, 1) := by decide +kernel
theorem d_M_stepProcess_17 : decode b_M_stepProcess 17 = .ok (.aload_n 0, 1) := by decide +kernel
theorem d_M_stepProcess_18 : decode b_M_stepProcess 18 = .ok (.iload_n 2, 1) := by decide +kernel
theorem d_M_stepProcess_19 : decode b_M_stepProcess 19 = .ok (.bipush 8, 2) := by decide +kernel
theorem d_M_stepProcess_21 : decode b_M_stepProcess 21 = .ok (.invokevirtual 68, 3) := by decide +kernel
theorem d_M_stepProcess_24 : decode b_M_stepProcess 24 = .ok (.ifCond .eq 15, 3) := by decide +kernel
theorem d_M_stepProcess_27 : decode b_M_stepProcess 27 = .ok (.aload_n 0, 1) := by decide +kernel
theorem d_M_stepProcess_28 : decode b_M_stepProcess 28 = .ok (.iload_n 2, 1) := by decide +kernel
theorem d_M_stepProcess_29 : decode b_M_stepProcess 29 = .ok (.invokevirtual 80, 3) := by decide +kernel
theorem d_M_stepProcess_32 : decode b_M_stepProcess 32 = .ok (.ifCond .ne 7, 3) := by decide +kernel
theorem d_M_stepProcess_35 : decode b_M_stepProcess 35 = .ok (.iconst 1, 1) := by decide +kernel
theorem d_M_stepProcess_36 : decode b_M_stepProcess 36 = .ok (.goto 4, 3) := by decide +kernel
theorem d_M_stepProcess_39 : decode b_M_stepProcess 39 = .ok (.iconst 0, 1) := by decide +kernel
theorem d_M_stepProcess_40 : decode b_M_stepProcess 40 = .ok (.istore_n 3, 1) := by decide +kernel
theorem d_M_stepProcess_41 : decode b_M_stepProcess 41 = .ok (.iconst 0, 1) := by decide +kernel
theorem d_M_stepProcess_42 : decode b_M_stepProcess 42 = .ok (.istore 4, 2) := by decide +kernel
theorem d_M_stepProcess_44 : decode b_M_stepProcess 44 = .ok (.iload 4, 2) := by decide +kernel
theorem d_M_stepProcess_46 : decode b_M_stepProcess 46 = .ok (.bipush 8, 2) := by decide +kernel
theorem d_M_stepProcess_48 : decode b_M_stepProcess 48 = .ok (.if_icmp .ge 48, 3) := by decide +kernel
theorem d_M_stepProcess_51 : decode b_M_stepProcess 51 = .ok (.iload_n 3, 1) := by decide +kernel
theorem d_M_stepProcess_52 : decode b_M_stepProcess 52 = .ok (.ifCond .eq 44, 3) := by decide +kernel
theorem d_M_stepProcess_55 : decode b_M_stepProcess 55 = .ok (.aload_n 0, 1) := by decide +kernel
theorem d_M_stepProcess_56 : decode b_M_stepProcess 56 = .ok (.aload_n 0, 1) := by decide +kernel
theorem d_M_stepProcess_57 : decode b_M_stepProcess 57 = .ok (.iload_n 2, 1) := by decide +kernel
theorem d_M_stepProcess_58 : decode b_M_stepProcess 58 = .ok (.iload 4, 2) := by decide +kernel
theorem d_M_stepProcess_60 : decode b_M_stepProcess 60 = .ok (.invokevirtual 72, 3) := by decide +kernel
theorem d_M_stepProcess_63 : decode b_M_stepProcess 63 = .ok (.iconst 2, 1) := by decide +kernel
theorem d_M_stepProcess_64 : decode b_M_stepProcess 64 = .ok (.invokevirtual 68, 3) := by decide +kernel
theorem d_M_stepProcess_67 : decode b_M_stepProcess 67 = .ok (.ifCond .eq 21, 3) := by decide +kernel
theorem d_M_stepProcess_70 : decode b_M_stepProcess 70 = .ok (.aload_n 0, 1) := by decide +kernel
theorem d_M_stepProcess_71 : decode b_M_stepProcess 71 = .ok (.aload_n 0, 1) := by decide +kernel
theorem d_M_stepProcess_72 : decode b_M_stepProcess 72 = .ok (.iload_n 2, 1) := by decide +kernel
theorem d_M_stepProcess_73 : decode b_M_stepProcess 73 = .ok (.iload 4, 2) := by decide +kernel
theorem d_M_stepProcess_75 : decode b_M_stepProcess 75 = .ok (.invokevirtual 72, 3) := by decide +kernel
theorem d_M_stepProcess_78 : decode b_M_stepProcess 78 = .ok (.invokevirtual 80, 3) := by decide +kernel
theorem d_M_stepProcess_81 : decode b_M_stepProcess 81 = .ok (.ifCond .ne 7, 3) := by decide +kernel
theorem d_M_stepProcess_84 : decode b_M_stepProcess 84 = .ok (.iconst 1, 1) := by decide +kernel
theorem d_M_stepProcess_85 : decode b_M_stepProcess 85 = .ok (.goto 4, 3) := by decide +kernel
theorem d_M_stepProcess_88 : decode b_M_stepProcess 88 = .ok (.iconst 0, 1) := by decide +kernel
theorem d_M_stepProcess_89 : decode b_M_stepProcess 89 = .ok (.istore_n 3, 1) := by decide +kernel
theorem d_M_stepProcess_90 : decode b_M_stepProcess 90 = .ok (.iinc 4 1, 3) := by decide +kernel
theorem d_M_stepProcess_93 : decode b_M_stepProcess 93 = .ok (.goto (-49), 3) := by decide +kernel
theorem d_M_stepProcess_96 : decode b_M_stepProcess 96 = .ok (.aload_n 0, 1) := by decide +kernel
theorem d_M_stepProcess_97 : decode b_M_stepProcess 97 = .ok (.iload_n 1, 1) := by decide +kernel
theorem d_M_stepProcess_98 : decode b_M_stepProcess 98 = .ok (.iconst 1, 1) := by decide +kernel
theorem d_M_stepProcess_99 : decode b_M_stepProcess 99 = .ok (.invokevirtual 72, 3) := by decide +kernel
theorem d_M_stepProcess_102 : decode b_M_stepProcess 102 = .ok (.istore 4, 2) := by decide +kernel
theorem d_M_stepProcess_104 : decode b_M_stepProcess 104 = .ok (.iload_n 3, 1) := by decide +kernel
theorem d_M_stepProcess_105 : decode b_M_stepProcess 105 = .ok (.ifCond .eq 26, 3) := by decide +kernel
theorem d_M_stepProcess_108 : decode b_M_stepProcess 108 = .ok (.aload_n 0, 1) := by decide +kernel
theorem d_M_stepProcess_109 : decode b_M_stepProcess 109 = .ok (.iload 4, 2) := by decide +kernel
theorem d_M_stepProcess_111 : decode b_M_stepProcess 111 = .ok (.iconst 4, 1) := by decide +kernel
theorem d_M_stepProcess_112 : decode b_M_stepProcess 112 = .ok (.invokevirtual 68, 3) := by decide +kernel
theorem d_M_stepProcess_115 : decode b_M_stepProcess 115 = .ok (.ifCond .eq 16, 3) := by decide +kernel
theorem d_M_stepProcess_118 : decode b_M_stepProcess 118 = .ok (.aload_n 0, 1) := by decide +kernel
theorem d_M_stepProcess_119 : decode b_M_stepProcess 119 = .ok (.iload 4, 2) := by decide +kernel
theorem d_M_stepProcess_121 : decode b_M_stepProcess 121 = .ok (.invokevirtual 80, 3) := by decide +kernel
theorem d_M_stepProcess_124 : decode b_M_stepProcess 124 = .ok (.ifCond .ne 7, 3) := by decide +kernel
theorem d_M_stepProcess_127 : decode b_M_stepProcess 127 = .ok (.iconst 1, 1) := by decide +kernel
theorem d_M_stepProcess_128 : decode b_M_stepProcess 128 = .ok (.goto 4, 3) := by decide +kernel
theorem d_M_stepProcess_131 : decode b_M_stepProcess 131 = .ok (.iconst 0, 1) := by decide +kernel
theorem d_M_stepProcess_132 : decode b_M_stepProcess 132 = .ok (.istore_n 3, 1) := by decide +kernel
theorem d_M_stepProcess_133 : decode b_M_stepProcess 133 = .ok (.iload_n 3, 1) := by decide +kernel
theorem d_M_stepProcess_134 : decode b_M_stepProcess 134 = .ok (.ifCond .eq 64, 3) := by decide +kernel
theorem d_M_stepProcess_137 : decode b_M_stepProcess 137 = .ok (.aload_n 0, 1) := by decide +kernel
theorem d_M_stepProcess_138 : decode b_M_stepProcess 138 = .ok (.iload 4, 2) := by decide +kernel
theorem d_M_stepProcess_140 : decode b_M_stepProcess 140 = .ok (.iconst 1, 1) := by decide +kernel
theorem d_M_stepProcess_141 : decode b_M_stepProcess 141 = .ok (.invokevirtual 72, 3) := by decide +kernel
theorem d_M_stepProcess_144 : decode b_M_stepProcess 144 = .ok (.istore 5, 2) := by decide +kernel
theorem d_M_stepProcess_146 : decode b_M_stepProcess 146 = .ok (.aload_n 0, 1) := by decide +kernel
theorem d_M_stepProcess_147 : decode b_M_stepProcess 147 = .ok (.iload 5, 2) := by decide +kernel
theorem d_M_stepProcess_149 : decode b_M_stepProcess 149 = .ok (.invokevirtual 80, 3) := by decide +kernel
theorem d_M_stepProcess_152 : decode b_M_stepProcess 152 = .ok (.ifCond .eq 44, 3) := by decide +kernel
theorem d_M_stepProcess_155 : decode b_M_stepProcess 155 = .ok (.aload_n 0, 1) := by decide +kernel
theorem d_M_stepProcess_156 : decode b_M_stepProcess 156 = .ok (.iload 5, 2) := by decide +kernel
theorem d_M_stepProcess_158 : decode b_M_stepProcess 158 = .ok (.iconst 2, 1) := by decide +kernel
theorem d_M_stepProcess_159 : decode b_M_stepProcess 159 = .ok (.invokevirtual 68, 3) := by decide +kernel
theorem d_M_stepProcess_162 : decode b_M_stepProcess 162 = .ok (.ifCond .eq 34, 3) := by decide +kernel
theorem d_M_stepProcess_165 : decode b_M_stepProcess 165 = .ok (.aload_n 0, 1) := by decide +kernel
theorem d_M_stepProcess_166 : decode b_M_stepProcess 166 = .ok (.iload 5, 2) := by decide +kernel
theorem d_M_stepProcess_168 : decode b_M_stepProcess 168 = .ok (.iconst 1, 1) := by decide +kernel
theorem d_M_stepProcess_169 : decode b_M_stepProcess 169 = .ok (.invokevirtual 72, 3) := by decide +kernel
theorem d_M_stepProcess_172 : decode b_M_stepProcess 172 = .ok (.ifCond .eq 24, 3) := by decide +kernel
theorem d_M_stepProcess_175 : decode b_M_stepProcess 175 = .ok (.aload_n 0, 1) := by decide +kernel
theorem d_M_stepProcess_176 : decode b_M_stepProcess 176 = .ok (.aload_n 0, 1) := by decide +kernel
theorem d_M_stepProcess_177 : decode b_M_stepProcess 177 = .ok (.iload 4, 2) := by decide +kernel
theorem d_M_stepProcess_179 : decode b_M_stepProcess 179 = .ok (.iconst 2, 1) := by decide +kernel
theorem d_M_stepProcess_180 : decode b_M_stepProcess 180 = .ok (.invokevirtual 72, 3) := by decide +kernel
theorem d_M_stepProcess_183 : decode b_M_stepProcess 183 = .ok (.iconst 1, 1) := by decide +kernel
theorem d_M_stepProcess_184 : decode b_M_stepProcess 184 = .ok (.bipush 8, 2) := by decide +kernel
theorem d_M_stepProcess_186 : decode b_M_stepProcess 186 = .ok (.invokevirtual 84, 3) := by decide +kernel
theorem d_M_stepProcess_189 : decode b_M_stepProcess 189 = .ok (.ifCond .eq 7, 3) := by decide +kernel
theorem d_M_stepProcess_192 : decode b_M_stepProcess 192 = .ok (.iconst 1, 1) := by decide +kernel
theorem d_M_stepProcess_193 : decode b_M_stepProcess 193 = .ok (.goto 4, 3) := by decide +kernel
theorem d_M_stepProcess_196 : decode b_M_stepProcess 196 = .ok (.iconst 0, 1) := by decide +kernel
theorem d_M_stepProcess_197 : decode b_M_stepProcess 197 = .ok (.istore_n 3, 1) := by decide +kernel
theorem d_M_stepProcess_198 : decode b_M_stepProcess 198 = .ok (.iload_n 3, 1) := by decide +kernel
theorem d_M_stepProcess_199 : decode b_M_stepProcess 199 = .ok (.ifCond .eq 7, 3) := by decide +kernel
theorem d_M_stepProcess_202 : decode b_M_stepProcess 202 = .ok (.iconst (-1), 1) := by decide +kernel
theorem d_M_stepProcess_203 : decode b_M_stepProcess 203 = .ok (.goto 5, 3) := by decide +kernel
theorem d_M_stepProcess_206 : decode b_M_stepProcess 206 = .ok (.bipush 64, 2) := by decide +kernel
theorem d_M_stepProcess_208 : decode b_M_stepProcess 208 = .ok (.ireturn, 1) := by decide +kernel
theorem d_M_stepRoom_0 : decode b_M_stepRoom 0 = .ok (.aload_n 0, 1) := by decide +kernel
theorem d_M_stepRoom_1 : decode b_M_stepRoom 1 = .ok (.getfield 8, 3) := by decide +kernel
theorem d_M_stepRoom_4 : decode b_M_stepRoom 4 = .ok (.aload_n 0, 1) := by decide +kernel
theorem d_M_stepRoom_5 : decode b_M_stepRoom 5 = .ok (.getfield 20, 3) := by decide +kernel
theorem d_M_stepRoom_8 : decode b_M_stepRoom 8 = .ok (.invokestatic 108, 3) := by decide +kernel
theorem d_M_stepRoom_11 : decode b_M_stepRoom 11 = .ok (.iconst 1, 1) := by decide +kernel
theorem d_M_stepRoom_12 : decode b_M_stepRoom 12 = .ok (.aload_n 0, 1) := by decide +kernel
theorem d_M_stepRoom_13 : decode b_M_stepRoom 13 = .ok (.getfield 8, 3) := by decide +kernel
theorem d_M_stepRoom_16 : decode b_M_stepRoom 16 = .ok (.iconst 4, 1) := by decide +kernel
theorem d_M_stepRoom_17 : decode b_M_stepRoom 17 = .ok (.baload, 1) := by decide +kernel
theorem d_M_stepRoom_18 : decode b_M_stepRoom 18 = .ok (.ishl, 1) := by decide +kernel
theorem d_M_stepRoom_19 : decode b_M_stepRoom 19 = .ok (.if_icmp .le 5, 3) := by decide +kernel
theorem d_M_stepRoom_22 : decode b_M_stepRoom 22 = .ok (.iconst 4, 1) := by decide +kernel
theorem d_M_stepRoom_23 : decode b_M_stepRoom 23 = .ok (.ireturn, 1) := by decide +kernel
theorem d_M_stepRoom_24 : decode b_M_stepRoom 24 = .ok (.aload_n 0, 1) := by decide +kernel
theorem d_M_stepRoom_25 : decode b_M_stepRoom 25 = .ok (.getfield 8, 3) := by decide +kernel
theorem d_M_stepRoom_28 : decode b_M_stepRoom 28 = .ok (.invokestatic 101, 3) := by decide +kernel
theorem d_M_stepRoom_31 : decode b_M_stepRoom 31 = .ok (.iconst 1, 1) := by decide +kernel
theorem d_M_stepRoom_32 : decode b_M_stepRoom 32 = .ok (.aload_n 0, 1) := by decide +kernel
theorem d_M_stepRoom_33 : decode b_M_stepRoom 33 = .ok (.getfield 8, 3) := by decide +kernel
theorem d_M_stepRoom_36 : decode b_M_stepRoom 36 = .ok (.iconst 5, 1) := by decide +kernel
theorem d_M_stepRoom_37 : decode b_M_stepRoom 37 = .ok (.baload, 1) := by decide +kernel
theorem d_M_stepRoom_38 : decode b_M_stepRoom 38 = .ok (.ishl, 1) := by decide +kernel
theorem d_M_stepRoom_39 : decode b_M_stepRoom 39 = .ok (.if_icmp .le 7, 3) := by decide +kernel
theorem d_M_stepRoom_42 : decode b_M_stepRoom 42 = .ok (.iconst 5, 1) := by decide +kernel
theorem d_M_stepRoom_43 : decode b_M_stepRoom 43 = .ok (.goto 4, 3) := by decide +kernel
theorem d_M_stepRoom_46 : decode b_M_stepRoom 46 = .ok (.iconst (-1), 1) := by decide +kernel
theorem d_M_stepRoom_47 : decode b_M_stepRoom 47 = .ok (.ireturn, 1) := by decide +kernel
theorem d_M_stepSpecials_0 : decode b_M_stepSpecials 0 = .ok (.iconst 0, 1) := by decide +kernel
theorem d_M_stepSpecials_1 : decode b_M_stepSpecials 1 = .ok (.istore_n 1, 1) := by decide +kernel
theorem d_M_stepSpecials_2 : decode b_M_stepSpecials 2 = .ok (.iload_n 1, 1) := by decide +kernel
theorem d_M_stepSpecials_3 : decode b_M_stepSpecials 3 = .ok (.bipush 15, 2) := by decide +kernel
theorem d_M_stepSpecials_5 : decode b_M_stepSpecials 5 = .ok (.if_icmp .ge 177, 3) := by decide +kernel
theorem d_M_stepSpecials_8 : decode b_M_stepSpecials 8 = .ok (.aload_n 0, 1) := by decide +kernel
theorem d_M_stepSpecials_9 : decode b_M_stepSpecials 9 = .ok (.getfield 8, 3) := by decide +kernel
theorem d_M_stepSpecials_12 : decode b_M_stepSpecials 12 = .ok (.iload_n 1, 1) := by decide +kernel
theorem d_M_stepSpecials_13 : decode b_M_stepSpecials 13 = .ok (.invokestatic 65, 3) := by decide +kernel
theorem d_M_stepSpecials_16 : decode b_M_stepSpecials 16 = .ok (.istore_n 2, 1) := by decide +kernel
theorem d_M_stepSpecials_17 : decode b_M_stepSpecials 17 = .ok (.iload_n 1, 1) := by decide +kernel
theorem d_M_stepSpecials_18 : decode b_M_stepSpecials 18 = .ok (.iconst 2, 1) := by decide +kernel
theorem d_M_stepSpecials_19 : decode b_M_stepSpecials 19 = .ok (.if_icmp .ge 10, 3) := by decide +kernel
theorem d_M_stepSpecials_22 : decode b_M_stepSpecials 22 = .ok (.iload_n 2, 1) := by decide +kernel
theorem d_M_stepSpecials_23 : decode b_M_stepSpecials 23 = .ok (.invokestatic 57, 3) := by decide +kernel
theorem d_M_stepSpecials_26 : decode b_M_stepSpecials 26 = .ok (.goto 85, 3) := by decide +kernel
theorem d_M_stepSpecials_29 : decode b_M_stepSpecials 29 = .ok (.iload_n 1, 1) := by decide +kernel
theorem d_M_stepSpecials_30 : decode b_M_stepSpecials 30 = .ok (.bipush 13, 2) := by decide +kernel
theorem d_M_stepSpecials_32 : decode b_M_stepSpecials 32 = .ok (.if_icmp .ge 11, 3) := by decide +kernel
theorem d_M_stepSpecials_35 : decode b_M_stepSpecials 35 = .ok (.aload_n 0, 1) := by decide +kernel
theorem d_M_stepSpecials_36 : decode b_M_stepSpecials 36 = .ok (.iload_n 2, 1) := by decide +kernel
theorem d_M_stepSpecials_37 : decode b_M_stepSpecials 37 = .ok (.invokevirtual 112, 3) := by decide +kernel
theorem d_M_stepSpecials_40 : decode b_M_stepSpecials 40 = .ok (.goto 71, 3) := by decide +kernel
theorem d_M_stepSpecials_43 : decode b_M_stepSpecials 43 = .ok (.iload_n 1, 1) := by decide +kernel
theorem d_M_stepSpecials_44 : decode b_M_stepSpecials 44 = .ok (.bipush 13, 2) := by decide +kernel
theorem d_M_stepSpecials_46 : decode b_M_stepSpecials 46 = .ok (.if_icmp .ne 43, 3) := by decide +kernel
theorem d_M_stepSpecials_49 : decode b_M_stepSpecials 49 = .ok (.aload_n 0, 1) := by decide +kernel
theorem d_M_stepSpecials_50 : decode b_M_stepSpecials 50 = .ok (.iload_n 2, 1) := by decide +kernel
theorem d_M_stepSpecials_51 : decode b_M_stepSpecials 51 = .ok (.sipush 256, 3) := by decide +kernel
theorem d_M_stepSpecials_54 : decode b_M_stepSpecials 54 = .ok (.invokevirtual 68, 3) := by decide +kernel
theorem d_M_stepSpecials_57 : decode b_M_stepSpecials 57 = .ok (.ifCond .eq 28, 3) := by decide +kernel
theorem d_M_stepSpecials_60 : decode b_M_stepSpecials 60 = .ok (.aload_n 0, 1) := by decide +kernel
theorem d_M_stepSpecials_61 : decode b_M_stepSpecials 61 = .ok (.getfield 8, 3) := by decide +kernel
theorem d_M_stepSpecials_64 : decode b_M_stepSpecials 64 = .ok (.aload_n 0, 1) := by decide +kernel
theorem d_M_stepSpecials_65 : decode b_M_stepSpecials 65 = .ok (.getfield 20, 3) := by decide +kernel
theorem d_M_stepSpecials_68 : decode b_M_stepSpecials 68 = .ok (.iload_n 2, 1) := by decide +kernel
theorem d_M_stepSpecials_69 : decode b_M_stepSpecials 69 = .ok (.iconst 2, 1) := by decide +kernel
theorem d_M_stepSpecials_70 : decode b_M_stepSpecials 70 = .ok (.idiv, 1) := by decide +kernel
theorem d_M_stepSpecials_71 : decode b_M_stepSpecials 71 = .ok (.iaload, 1) := by decide +kernel
theorem d_M_stepSpecials_72 : decode b_M_stepSpecials 72 = .ok (.invokestatic 54, 3) := by decide +kernel
theorem d_M_stepSpecials_75 : decode b_M_stepSpecials 75 = .ok (.sipush 256, 3) := by decide +kernel
theorem d_M_stepSpecials_78 : decode b_M_stepSpecials 78 = .ok (.if_icmp .ne 7, 3) := by decide +kernel
theorem d_M_stepSpecials_81 : decode b_M_stepSpecials 81 = .ok (.iconst 1, 1) := by decide +kernel
theorem d_M_stepSpecials_82 : decode b_M_stepSpecials 82 = .ok (.goto 29, 3) := by decide +kernel
theorem d_M_stepSpecials_85 : decode b_M_stepSpecials 85 = .ok (.iconst 0, 1) := by decide +kernel
theorem d_M_stepSpecials_86 : decode b_M_stepSpecials 86 = .ok (.goto 25, 3) := by decide +kernel
theorem d_M_stepSpecials_89 : decode b_M_stepSpecials 89 = .ok (.aload_n 0, 1) := by decide +kernel
theorem d_M_stepSpecials_90 : decode b_M_stepSpecials 90 = .ok (.iload_n 2, 1) := by decide +kernel
theorem d_M_stepSpecials_91 : decode b_M_stepSpecials 91 = .ok (.iconst 2, 1) := by decide +kernel
theorem d_M_stepSpecials_92 : decode b_M_stepSpecials 92 = .ok (.invokevirtual 68, 3) := by decide +kernel
theorem d_M_stepSpecials_95 : decode b_M_stepSpecials 95 = .ok (.ifCond .eq 15, 3) := by decide +kernel
theorem d_M_stepSpecials_98 : decode b_M_stepSpecials 98 = .ok (.aload_n 0, 1) := by decide +kernel
theorem d_M_stepSpecials_99 : decode b_M_stepSpecials 99 = .ok (.iload_n 2, 1) := by decide +kernel
theorem d_M_stepSpecials_100 : decode b_M_stepSpecials 100 = .ok (.invokevirtual 80, 3) := by decide +kernel
theorem d_M_stepSpecials_103 : decode b_M_stepSpecials 103 = .ok (.ifCond .ne 7, 3) := by decide +kernel
theorem d_M_stepSpecials_106 : decode b_M_stepSpecials 106 = .ok (.iconst 1, 1) := by decide +kernel
theorem d_M_stepSpecials_107 : decode b_M_stepSpecials 107 = .ok (.goto 4, 3) := by decide +kernel
theorem d_M_stepSpecials_110 : decode b_M_stepSpecials 110 = .ok (.iconst 0, 1) := by decide +kernel
theorem d_M_stepSpecials_111 : decode b_M_stepSpecials 111 = .ok (.istore_n 3, 1) := by decide +kernel
theorem d_M_stepSpecials_112 : decode b_M_stepSpecials 112 = .ok (.iload_n 1, 1) := by decide +kernel
theorem d_M_stepSpecials_113 : decode b_M_stepSpecials 113 = .ok (.iconst 2, 1) := by decide +kernel
theorem d_M_stepSpecials_114 : decode b_M_stepSpecials 114 = .ok (.if_icmp .ge 7, 3) := by decide +kernel
theorem d_M_stepSpecials_117 : decode b_M_stepSpecials 117 = .ok (.iconst 0, 1) := by decide +kernel
theorem d_M_stepSpecials_118 : decode b_M_stepSpecials 118 = .ok (.goto 4, 3) := by decide +kernel
theorem d_M_stepSpecials_121 : decode b_M_stepSpecials 121 = .ok (.iconst 2, 1) := by decide +kernel
theorem d_M_stepSpecials_122 : decode b_M_stepSpecials 122 = .ok (.istore 4, 2) := by decide +kernel
theorem d_M_stepSpecials_124 : decode b_M_stepSpecials 124 = .ok (.iload 4, 2) := by decide +kernel
theorem d_M_stepSpecials_126 : decode b_M_stepSpecials 126 = .ok (.iload_n 1, 1) := by decide +kernel
theorem d_M_stepSpecials_127 : decode b_M_stepSpecials 127 = .ok (.if_icmp .ge 38, 3) := by decide +kernel
theorem d_M_stepSpecials_130 : decode b_M_stepSpecials 130 = .ok (.iload_n 1, 1) := by decide +kernel
theorem d_M_stepSpecials_131 : decode b_M_stepSpecials 131 = .ok (.bipush 13, 2) := by decide +kernel
theorem d_M_stepSpecials_133 : decode b_M_stepSpecials 133 = .ok (.if_icmp .ge 32, 3) := by decide +kernel
theorem d_M_stepSpecials_136 : decode b_M_stepSpecials 136 = .ok (.iload_n 3, 1) := by decide +kernel
theorem d_M_stepSpecials_137 : decode b_M_stepSpecials 137 = .ok (.ifCond .eq 20, 3) := by decide +kernel
theorem d_M_stepSpecials_140 : decode b_M_stepSpecials 140 = .ok (.aload_n 0, 1) := by decide +kernel
theorem d_M_stepSpecials_141 : decode b_M_stepSpecials 141 = .ok (.getfield 8, 3) := by decide +kernel
theorem d_M_stepSpecials_144 : decode b_M_stepSpecials 144 = .ok (.iload 4, 2) := by decide +kernel
theorem d_M_stepSpecials_146 : decode b_M_stepSpecials 146 = .ok (.invokestatic 65, 3) := by decide +kernel
theorem d_M_stepSpecials_149 : decode b_M_stepSpecials 149 = .ok (.iload_n 2, 1) := by decide +kernel
theorem d_M_stepSpecials_150 : decode b_M_stepSpecials 150 = .ok (.if_icmp .eq 7, 3) := by decide +kernel
theorem d_M_stepSpecials_153 : decode b_M_stepSpecials 153 = .ok (.iconst 1, 1) := by decide +kernel
theorem d_M_stepSpecials_154 : decode b_M_stepSpecials 154 = .ok (.goto 4, 3) := by decide +kernel
theorem d_M_stepSpecials_157 : decode b_M_stepSpecials 157 = .ok (.iconst 0, 1) := by decide +kernel
theorem d_M_stepSpecials_158 : decode b_M_stepSpecials 158 = .ok (.istore_n 3, 1) := by decide +kernel
theorem d_M_stepSpecials_159 : decode b_M_stepSpecials 159 = .ok (.iinc 4 1, 3) := by decide +kernel
theorem d_M_stepSpecials_162 : decode b_M_stepSpecials 162 = .ok (.goto (-38), 3) := by decide +kernel
theorem d_M_stepSpecials_165 : decode b_M_stepSpecials 165 = .ok (.iload_n 3, 1) := by decide +kernel
theorem d_M_stepSpecials_166 : decode b_M_stepSpecials 166 = .ok (.ifCond .ne 10, 3) := by decide +kernel
theorem d_M_stepSpecials_169 : decode b_M_stepSpecials 169 = .ok (.bipush 8, 2) := by decide +kernel
theorem d_M_stepSpecials_171 : decode b_M_stepSpecials 171 = .ok (.iconst 4, 1) := by decide +kernel
theorem d_M_stepSpecials_172 : decode b_M_stepSpecials 172 = .ok (.iload_n 1, 1) := by decide +kernel
theorem d_M_stepSpecials_173 : decode b_M_stepSpecials 173 = .ok (.imul, 1) := by decide +kernel
theorem d_M_stepSpecials_174 : decode b_M_stepSpecials 174 = .ok (.iadd, 1) := by decide +kernel
theorem d_M_stepSpecials_175 : decode b_M_stepSpecials 175 = .ok (.ireturn, 1) := by decide +kernel
theorem d_M_stepSpecials_176 : decode b_M_stepSpecials 176 = .ok (.iinc 1 1, 3) := by decide +kernel
theorem d_M_stepSpecials_179 : decode b_M_stepSpecials 179 = .ok (.goto (-177), 3) := by decide +kernel
theorem d_M_stepSpecials_182 : decode b_M_stepSpecials 182 = .ok (.iconst (-1), 1) := by decide +kernel
theorem d_M_stepSpecials_183 : decode b_M_stepSpecials 183 = .ok (.ireturn, 1) := by decide +kernel
theorem d_M_stepValues_0 : decode b_M_stepValues 0 = .ok (.bipush 8, 2) := by decide +kernel
theorem d_M_stepValues_2 : decode b_M_stepValues 2 = .ok (.istore_n 1, 1) := by decide +kernel
theorem d_M_stepValues_3 : decode b_M_stepValues 3 = .ok (.iconst 0, 1) := by decide +kernel
theorem d_M_stepValues_4 : decode b_M_stepValues 4 = .ok (.istore_n 2, 1) := by decide +kernel
theorem d_M_stepValues_5 : decode b_M_stepValues 5 = .ok (.iload_n 2, 1) := by decide +kernel
theorem d_M_stepValues_6 : decode b_M_stepValues 6 = .ok (.bipush 50, 2) := by decide +kernel
theorem d_M_stepValues_8 : decode b_M_stepValues 8 = .ok (.if_icmp .ge 22, 3) := by decide +kernel
theorem d_M_stepValues_11 : decode b_M_stepValues 11 = .ok (.aload_n 0, 1) := by decide +kernel
theorem d_M_stepValues_12 : decode b_M_stepValues 12 = .ok (.iload_n 1, 1) := by decide +kernel
theorem d_M_stepValues_13 : decode b_M_stepValues 13 = .ok (.invokevirtual 105, 3) := by decide +kernel
theorem d_M_stepValues_16 : decode b_M_stepValues 16 = .ok (.ifCond .ne 5, 3) := by decide +kernel
theorem d_M_stepValues_19 : decode b_M_stepValues 19 = .ok (.iload_n 1, 1) := by decide +kernel
theorem d_M_stepValues_20 : decode b_M_stepValues 20 = .ok (.ireturn, 1) := by decide +kernel
theorem d_M_stepValues_21 : decode b_M_stepValues 21 = .ok (.iinc 1 4, 3) := by decide +kernel
theorem d_M_stepValues_24 : decode b_M_stepValues 24 = .ok (.iinc 2 1, 3) := by decide +kernel
theorem d_M_stepValues_27 : decode b_M_stepValues 27 = .ok (.goto (-22), 3) := by decide +kernel
theorem d_M_stepValues_30 : decode b_M_stepValues 30 = .ok (.iconst 1, 1) := by decide +kernel
theorem d_M_stepValues_31 : decode b_M_stepValues 31 = .ok (.istore_n 2, 1) := by decide +kernel
theorem d_M_stepValues_32 : decode b_M_stepValues 32 = .ok (.iload_n 2, 1) := by decide +kernel
theorem d_M_stepValues_33 : decode b_M_stepValues 33 = .ok (.aload_n 0, 1) := by decide +kernel
theorem d_M_stepValues_34 : decode b_M_stepValues 34 = .ok (.getfield 8, 3) := by decide +kernel
theorem d_M_stepValues_37 : decode b_M_stepValues 37 = .ok (.invokestatic 101, 3) := by decide +kernel
theorem d_M_stepValues_40 : decode b_M_stepValues 40 = .ok (.if_icmp .gt 172, 3) := by decide +kernel
theorem d_M_stepValues_43 : decode b_M_stepValues 43 = .ok (.aload_n 0, 1) := by decide +kernel
theorem d_M_stepValues_44 : decode b_M_stepValues 44 = .ok (.getfield 20, 3) := by decide +kernel
theorem d_M_stepValues_47 : decode b_M_stepValues 47 = .ok (.iload_n 2, 1) := by decide +kernel
theorem d_M_stepValues_48 : decode b_M_stepValues 48 = .ok (.iload_n 1, 1) := by decide +kernel
theorem d_M_stepValues_49 : decode b_M_stepValues 49 = .ok (.iastore, 1) := by decide +kernel
theorem d_M_stepValues_50 : decode b_M_stepValues 50 = .ok (.aload_n 0, 1) := by decide +kernel
theorem d_M_stepValues_51 : decode b_M_stepValues 51 = .ok (.iload_n 1, 1) := by decide +kernel
theorem d_M_stepValues_52 : decode b_M_stepValues 52 = .ok (.invokevirtual 105, 3) := by decide +kernel
theorem d_M_stepValues_55 : decode b_M_stepValues 55 = .ok (.ifCond .ne 5, 3) := by decide +kernel
theorem d_M_stepValues_58 : decode b_M_stepValues 58 = .ok (.iload_n 1, 1) := by decide +kernel
theorem d_M_stepValues_59 : decode b_M_stepValues 59 = .ok (.ireturn, 1) := by decide +kernel
theorem d_M_stepValues_60 : decode b_M_stepValues 60 = .ok (.iload_n 1, 1) := by decide +kernel
theorem d_M_stepValues_61 : decode b_M_stepValues 61 = .ok (.iconst 5, 1) := by decide +kernel
theorem d_M_stepValues_62 : decode b_M_stepValues 62 = .ok (.iadd, 1) := by decide +kernel
theorem d_M_stepValues_63 : decode b_M_stepValues 63 = .ok (.aload_n 0, 1) := by decide +kernel
theorem d_M_stepValues_64 : decode b_M_stepValues 64 = .ok (.getfield 40, 3) := by decide +kernel
theorem d_M_stepValues_67 : decode b_M_stepValues 67 = .ok (.if_icmp .gt 26, 3) := by decide +kernel
theorem d_M_stepValues_70 : decode b_M_stepValues 70 = .ok (.aload_n 0, 1) := by decide +kernel
theorem d_M_stepValues_71 : decode b_M_stepValues 71 = .ok (.getfield 8, 3) := by decide +kernel
theorem d_M_stepValues_74 : decode b_M_stepValues 74 = .ok (.iload_n 1, 1) := by decide +kernel
theorem d_M_stepValues_75 : decode b_M_stepValues 75 = .ok (.iconst 4, 1) := by decide +kernel
theorem d_M_stepValues_76 : decode b_M_stepValues 76 = .ok (.iadd, 1) := by decide +kernel
theorem d_M_stepValues_77 : decode b_M_stepValues 77 = .ok (.baload, 1) := by decide +kernel
theorem d_M_stepValues_78 : decode b_M_stepValues 78 = .ok (.ifCond .eq 19, 3) := by decide +kernel
theorem d_M_stepValues_81 : decode b_M_stepValues 81 = .ok (.aload_n 0, 1) := by decide +kernel
theorem d_M_stepValues_82 : decode b_M_stepValues 82 = .ok (.getfield 8, 3) := by decide +kernel
theorem d_M_stepValues_85 : decode b_M_stepValues 85 = .ok (.iload_n 1, 1) := by decide +kernel
theorem d_M_stepValues_86 : decode b_M_stepValues 86 = .ok (.iconst 4, 1) := by decide +kernel
theorem d_M_stepValues_87 : decode b_M_stepValues 87 = .ok (.iadd, 1) := by decide +kernel
theorem d_M_stepValues_88 : decode b_M_stepValues 88 = .ok (.baload, 1) := by decide +kernel
theorem d_M_stepValues_89 : decode b_M_stepValues 89 = .ok (.iconst 1, 1) := by decide +kernel
theorem d_M_stepValues_90 : decode b_M_stepValues 90 = .ok (.if_icmp .eq 7, 3) := by decide +kernel
theorem d_M_stepValues_93 : decode b_M_stepValues 93 = .ok (.iload_n 1, 1) := by decide +kernel
theorem d_M_stepValues_94 : decode b_M_stepValues 94 = .ok (.iconst 4, 1) := by decide +kernel
theorem d_M_stepValues_95 : decode b_M_stepValues 95 = .ok (.iadd, 1) := by decide +kernel
theorem d_M_stepValues_96 : decode b_M_stepValues 96 = .ok (.ireturn, 1) := by decide +kernel
theorem d_M_stepValues_97 : decode b_M_stepValues 97 = .ok (.iload_n 1, 1) := by decide +kernel
theorem d_M_stepValues_98 : decode b_M_stepValues 98 = .ok (.bipush 7, 2) := by decide +kernel
theorem d_M_stepValues_100 : decode b_M_stepValues 100 = .ok (.iadd, 1) := by decide +kernel
theorem d_M_stepValues_101 : decode b_M_stepValues 101 = .ok (.aload_n 0, 1) := by decide +kernel
theorem d_M_stepValues_102 : decode b_M_stepValues 102 = .ok (.getfield 40, 3) := by decide +kernel
theorem d_M_stepValues_105 : decode b_M_stepValues 105 = .ok (.if_icmp .le 7, 3) := by decide +kernel
theorem d_M_stepValues_108 : decode b_M_stepValues 108 = .ok (.iload_n 1, 1) := by decide +kernel
theorem d_M_stepValues_109 : decode b_M_stepValues 109 = .ok (.iconst 5, 1) := by decide +kernel
theorem d_M_stepValues_110 : decode b_M_stepValues 110 = .ok (.iadd, 1) := by decide +kernel
theorem d_M_stepValues_111 : decode b_M_stepValues 111 = .ok (.ireturn, 1) := by decide +kernel
theorem d_M_stepValues_112 : decode b_M_stepValues 112 = .ok (.aload_n 0, 1) := by decide +kernel
theorem d_M_stepValues_113 : decode b_M_stepValues 113 = .ok (.getfield 8, 3) := by decide +kernel
theorem d_M_stepValues_116 : decode b_M_stepValues 116 = .ok (.iload_n 1, 1) := by decide +kernel
theorem d_M_stepValues_117 : decode b_M_stepValues 117 = .ok (.invokestatic 54, 3) := by decide +kernel
theorem d_M_stepValues_120 : decode b_M_stepValues 120 = .ok (.istore_n 3, 1) := by decide +kernel
theorem d_M_stepValues_121 : decode b_M_stepValues 121 = .ok (.aload_n 0, 1) := by decide +kernel
theorem d_M_stepValues_122 : decode b_M_stepValues 122 = .ok (.getfield 8, 3) := by decide +kernel
theorem d_M_stepValues_125 : decode b_M_stepValues 125 = .ok (.iload_n 1, 1) := by decide +kernel
theorem d_M_stepValues_126 : decode b_M_stepValues 126 = .ok (.invokestatic 50, 3) := by decide +kernel
theorem d_M_stepValues_129 : decode b_M_stepValues 129 = .ok (.istore 4, 2) := by decide +kernel
theorem d_M_stepValues_131 : decode b_M_stepValues 131 = .ok (.iinc 1 7, 3) := by decide +kernel
theorem d_M_stepValues_134 : decode b_M_stepValues 134 = .ok (.iload 4, 2) := by decide +kernel
theorem d_M_stepValues_136 : decode b_M_stepValues 136 = .ok (.ifCond .eq 15, 3) := by decide +kernel
theorem d_M_stepValues_139 : decode b_M_stepValues 139 = .ok (.iload_n 1, 1) := by decide +kernel
theorem d_M_stepValues_140 : decode b_M_stepValues 140 = .ok (.iload_n 3, 1) := by decide +kernel
theorem d_M_stepValues_141 : decode b_M_stepValues 141 = .ok (.iadd, 1) := by decide +kernel
theorem d_M_stepValues_142 : decode b_M_stepValues 142 = .ok (.aload_n 0, 1) := by decide +kernel
theorem d_M_stepValues_143 : decode b_M_stepValues 143 = .ok (.getfield 40, 3) := by decide +kernel
theorem d_M_stepValues_146 : decode b_M_stepValues 146 = .ok (.if_icmp .le 5, 3) := by decide +kernel
theorem d_M_stepValues_149 : decode b_M_stepValues 149 = .ok (.iload_n 1, 1) := by decide +kernel
theorem d_M_stepValues_150 : decode b_M_stepValues 150 = .ok (.ireturn, 1) := by decide +kernel
theorem d_M_stepValues_151 : decode b_M_stepValues 151 = .ok (.iconst 0, 1) := by decide +kernel
theorem d_M_stepValues_152 : decode b_M_stepValues 152 = .ok (.istore 5, 2) := by decide +kernel
theorem d_M_stepValues_154 : decode b_M_stepValues 154 = .ok (.iload 5, 2) := by decide +kernel
theorem d_M_stepValues_156 : decode b_M_stepValues 156 = .ok (.iload_n 3, 1) := by decide +kernel
theorem d_M_stepValues_157 : decode b_M_stepValues 157 = .ok (.if_icmp .ge 34, 3) := by decide +kernel
theorem d_M_stepValues_160 : decode b_M_stepValues 160 = .ok (.iload 4, 2) := by decide +kernel
theorem d_M_stepValues_162 : decode b_M_stepValues 162 = .ok (.ifCond .ne 29, 3) := by decide +kernel
theorem d_M_stepValues_165 : decode b_M_stepValues 165 = .ok (.aload_n 0, 1) := by decide +kernel
theorem d_M_stepValues_166 : decode b_M_stepValues 166 = .ok (.iload_n 1, 1) := by decide +kernel
theorem d_M_stepValues_167 : decode b_M_stepValues 167 = .ok (.iconst 4, 1) := by decide +kernel
theorem d_M_stepValues_168 : decode b_M_stepValues 168 = .ok (.iload 5, 2) := by decide +kernel
theorem d_M_stepValues_170 : decode b_M_stepValues 170 = .ok (.imul, 1) := by decide +kernel
theorem d_M_stepValues_171 : decode b_M_stepValues 171 = .ok (.iadd, 1) := by decide +kernel
theorem d_M_stepValues_172 : decode b_M_stepValues 172 = .ok (.invokevirtual 105, 3) := by decide +kernel
theorem d_M_stepValues_175 : decode b_M_stepValues 175 = .ok (.ifCond .ne 10, 3) := by decide +kernel
theorem d_M_stepValues_178 : decode b_M_stepValues 178 = .ok (.iload_n 1, 1) := by decide +kernel
theorem d_M_stepValues_179 : decode b_M_stepValues 179 = .ok (.iconst 4, 1) := by decide +kernel
theorem d_M_stepValues_180 : decode b_M_stepValues 180 = .ok (.iload 5, 2) := by decide +kernel
theorem d_M_stepValues_182 : decode b_M_stepValues 182 = .ok (.imul, 1) := by decide +kernel
theorem d_M_stepValues_183 : decode b_M_stepValues 183 = .ok (.iadd, 1) := by decide +kernel
theorem d_M_stepValues_184 : decode b_M_stepValues 184 = .ok (.ireturn, 1) := by decide +kernel
theorem d_M_stepValues_185 : decode b_M_stepValues 185 = .ok (.iinc 5 1, 3) := by decide +kernel
theorem d_M_stepValues_188 : decode b_M_stepValues 188 = .ok (.goto (-34), 3) := by decide +kernel
theorem d_M_stepValues_191 : decode b_M_stepValues 191 = .ok (.iload_n 1, 1) := by decide +kernel
theorem d_M_stepValues_192 : decode b_M_stepValues 192 = .ok (.iload 4, 2) := by decide +kernel
theorem d_M_stepValues_194 : decode b_M_stepValues 194 = .ok (.ifCond .eq 7, 3) := by decide +kernel
theorem d_M_stepValues_197 : decode b_M_stepValues 197 = .ok (.iload_n 3, 1) := by decide +kernel
theorem d_M_stepValues_198 : decode b_M_stepValues 198 = .ok (.goto 6, 3) := by decide +kernel
theorem d_M_stepValues_201 : decode b_M_stepValues 201 = .ok (.iconst 4, 1) := by decide +kernel
theorem d_M_stepValues_202 : decode b_M_stepValues 202 = .ok (.iload_n 3, 1) := by decide +kernel
theorem d_M_stepValues_203 : decode b_M_stepValues 203 = .ok (.imul, 1) := by decide +kernel
theorem d_M_stepValues_204 : decode b_M_stepValues 204 = .ok (.iadd, 1) := by decide +kernel
theorem d_M_stepValues_205 : decode b_M_stepValues 205 = .ok (.istore_n 1, 1) := by decide +kernel
theorem d_M_stepValues_206 : decode b_M_stepValues 206 = .ok (.iinc 2 1, 3) := by decide +kernel
theorem d_M_stepValues_209 : decode b_M_stepValues 209 = .ok (.goto (-177), 3) := by decide +kernel
theorem d_M_stepValues_212 : decode b_M_stepValues 212 = .ok (.iload_n 1, 1) := by decide +kernel
theorem d_M_stepValues_213 : decode b_M_stepValues 213 = .ok (.aload_n 0, 1) := by decide +kernel
theorem d_M_stepValues_214 : decode b_M_stepValues 214 = .ok (.getfield 40, 3) := by decide +kernel
theorem d_M_stepValues_217 : decode b_M_stepValues 217 = .ok (.if_icmp .ge 7, 3) := by decide +kernel
theorem d_M_stepValues_220 : decode b_M_stepValues 220 = .ok (.iload_n 1, 1) := by decide +kernel
theorem d_M_stepValues_221 : decode b_M_stepValues 221 = .ok (.goto 4, 3) := by decide +kernel
theorem d_M_stepValues_224 : decode b_M_stepValues 224 = .ok (.iconst (-1), 1) := by decide +kernel
theorem d_M_stepValues_225 : decode b_M_stepValues 225 = .ok (.ireturn, 1) := by decide +kernel
theorem d_M_temporaries_0 : decode b_M_temporaries 0 = .ok (.aload_n 0, 1) := by decide +kernel
theorem d_M_temporaries_1 : decode b_M_temporaries 1 = .ok (.iload_n 1, 1) := by decide +kernel
theorem d_M_temporaries_2 : decode b_M_temporaries 2 = .ok (.iconst 0, 1) := by decide +kernel
theorem d_M_temporaries_3 : decode b_M_temporaries 3 = .ok (.invokevirtual 72, 3) := by decide +kernel
theorem d_M_temporaries_6 : decode b_M_temporaries 6 = .ok (.iconst 5, 1) := by decide +kernel
theorem d_M_temporaries_7 : decode b_M_temporaries 7 = .ok (.ishr, 1) := by decide +kernel
theorem d_M_temporaries_8 : decode b_M_temporaries 8 = .ok (.bipush 31, 2) := by decide +kernel
theorem d_M_temporaries_10 : decode b_M_temporaries 10 = .ok (.iand, 1) := by decide +kernel
theorem d_M_temporaries_11 : decode b_M_temporaries 11 = .ok (.ireturn, 1) := by decide +kernel
theorem d_M_thrown_0 : decode b_M_thrown 0 = .ok (.aload_n 0, 1) := by decide +kernel
theorem d_M_thrown_1 : decode b_M_thrown 1 = .ok (.getfield 36, 3) := by decide +kernel
theorem d_M_thrown_4 : decode b_M_thrown 4 = .ok (.ireturn, 1) := by decide +kernel
theorem d_M_word_0 : decode b_M_word 0 = .ok (.aload_n 0, 1) := by decide +kernel
theorem d_M_word_1 : decode b_M_word 1 = .ok (.iload_n 1, 1) := by decide +kernel
theorem d_M_word_2 : decode b_M_word 2 = .ok (.baload, 1) := by decide +kernel
theorem d_M_word_3 : decode b_M_word 3 = .ok (.bipush 24, 2) := by decide +kernel
theorem d_M_word_5 : decode b_M_word 5 = .ok (.ishl, 1) := by decide +kernel
theorem d_M_word_6 : decode b_M_word 6 = .ok (.aload_n 0, 1) := by decide +kernel
theorem d_M_word_7 : decode b_M_word 7 = .ok (.iload_n 1, 1) := by decide +kernel
theorem d_M_word_8 : decode b_M_word 8 = .ok (.iconst 1, 1) := by decide +kernel
theorem d_M_word_9 : decode b_M_word 9 = .ok (.iadd, 1) := by decide +kernel
theorem d_M_word_10 : decode b_M_word 10 = .ok (.baload, 1) := by decide +kernel
theorem d_M_word_11 : decode b_M_word 11 = .ok (.sipush 255, 3) := by decide +kernel
theorem d_M_word_14 : decode b_M_word 14 = .ok (.iand, 1) := by decide +kernel
theorem d_M_word_15 : decode b_M_word 15 = .ok (.bipush 16, 2) := by decide +kernel
theorem d_M_word_17 : decode b_M_word 17 = .ok (.ishl, 1) := by decide +kernel
theorem d_M_word_18 : decode b_M_word 18 = .ok (.ior, 1) := by decide +kernel
theorem d_M_word_19 : decode b_M_word 19 = .ok (.aload_n 0, 1) := by decide +kernel
theorem d_M_word_20 : decode b_M_word 20 = .ok (.iload_n 1, 1) := by decide +kernel
theorem d_M_word_21 : decode b_M_word 21 = .ok (.iconst 2, 1) := by decide +kernel
theorem d_M_word_22 : decode b_M_word 22 = .ok (.iadd, 1) := by decide +kernel
theorem d_M_word_23 : decode b_M_word 23 = .ok (.baload, 1) := by decide +kernel
theorem d_M_word_24 : decode b_M_word 24 = .ok (.sipush 255, 3) := by decide +kernel
theorem d_M_word_27 : decode b_M_word 27 = .ok (.iand, 1) := by decide +kernel
theorem d_M_word_28 : decode b_M_word 28 = .ok (.bipush 8, 2) := by decide +kernel
theorem d_M_word_30 : decode b_M_word 30 = .ok (.ishl, 1) := by decide +kernel
theorem d_M_word_31 : decode b_M_word 31 = .ok (.ior, 1) := by decide +kernel
theorem d_M_word_32 : decode b_M_word 32 = .ok (.aload_n 0, 1) := by decide +kernel
theorem d_M_word_33 : decode b_M_word 33 = .ok (.iload_n 1, 1) := by decide +kernel
theorem d_M_word_34 : decode b_M_word 34 = .ok (.iconst 3, 1) := by decide +kernel
theorem d_M_word_35 : decode b_M_word 35 = .ok (.iadd, 1) := by decide +kernel
theorem d_M_word_36 : decode b_M_word 36 = .ok (.baload, 1) := by decide +kernel
theorem d_M_word_37 : decode b_M_word 37 = .ok (.sipush 255, 3) := by decide +kernel
theorem d_M_word_40 : decode b_M_word 40 = .ok (.iand, 1) := by decide +kernel
theorem d_M_word_41 : decode b_M_word 41 = .ok (.ior, 1) := by decide +kernel
theorem d_M_word_42 : decode b_M_word 42 = .ok (.ireturn, 1) := by decide +kernel
theorem d_M_words_0 : decode b_M_words 0 = .ok (.aload_n 0, 1) := by decide +kernel
theorem d_M_words_1 : decode b_M_words 1 = .ok (.iconst 0, 1) := by decide +kernel
theorem d_M_words_2 : decode b_M_words 2 = .ok (.putfield 36, 3) := by decide +kernel
theorem d_M_words_5 : decode b_M_words 5 = .ok (.aload_n 0, 1) := by decide +kernel
theorem d_M_words_6 : decode b_M_words 6 = .ok (.getfield 149, 3) := by decide +kernel
theorem d_M_words_9 : decode b_M_words 9 = .ok (.ifCond .ne 7, 3) := by decide +kernel
theorem d_M_words_12 : decode b_M_words 12 = .ok (.iconst 0, 1) := by decide +kernel
theorem d_M_words_13 : decode b_M_words 13 = .ok (.goto 14, 3) := by decide +kernel
theorem d_M_words_16 : decode b_M_words 16 = .ok (.aload_n 0, 1) := by decide +kernel
theorem d_M_words_17 : decode b_M_words 17 = .ok (.getfield 14, 3) := by decide +kernel
theorem d_M_words_20 : decode b_M_words 20 = .ok (.aload_n 0, 1) := by decide +kernel
theorem d_M_words_21 : decode b_M_words 21 = .ok (.getfield 20, 3) := by decide +kernel
theorem d_M_words_24 : decode b_M_words 24 = .ok (.invokestatic 108, 3) := by decide +kernel
theorem d_M_words_27 : decode b_M_words 27 = .ok (.ireturn, 1) := by decide +kernel
theorem d_M_wordsOf_0 : decode b_M_wordsOf 0 = .ok (.iconst 0, 1) := by decide +kernel
theorem d_M_wordsOf_1 : decode b_M_wordsOf 1 = .ok (.istore_n 2, 1) := by decide +kernel
theorem d_M_wordsOf_2 : decode b_M_wordsOf 2 = .ok (.iconst 1, 1) := by decide +kernel
theorem d_M_wordsOf_3 : decode b_M_wordsOf 3 = .ok (.istore_n 3, 1) := by decide +kernel
theorem d_M_wordsOf_4 : decode b_M_wordsOf 4 = .ok (.iload_n 3, 1) := by decide +kernel
theorem d_M_wordsOf_5 : decode b_M_wordsOf 5 = .ok (.aload_n 0, 1) := by decide +kernel
theorem d_M_wordsOf_6 : decode b_M_wordsOf 6 = .ok (.invokestatic 101, 3) := by decide +kernel
theorem d_M_wordsOf_9 : decode b_M_wordsOf 9 = .ok (.if_icmp .gt 44, 3) := by decide +kernel
theorem d_M_wordsOf_12 : decode b_M_wordsOf 12 = .ok (.aload_n 0, 1) := by decide +kernel
theorem d_M_wordsOf_13 : decode b_M_wordsOf 13 = .ok (.aload_n 1, 1) := by decide +kernel
theorem d_M_wordsOf_14 : decode b_M_wordsOf 14 = .ok (.iload_n 3, 1) := by decide +kernel
theorem d_M_wordsOf_15 : decode b_M_wordsOf 15 = .ok (.iaload, 1) := by decide +kernel
theorem d_M_wordsOf_16 : decode b_M_wordsOf 16 = .ok (.invokestatic 54, 3) := by decide +kernel
theorem d_M_wordsOf_19 : decode b_M_wordsOf 19 = .ok (.istore 4, 2) := by decide +kernel
theorem d_M_wordsOf_21 : decode b_M_wordsOf 21 = .ok (.iload_n 2, 1) := by decide +kernel
theorem d_M_wordsOf_22 : decode b_M_wordsOf 22 = .ok (.iconst 4, 1) := by decide +kernel
theorem d_M_wordsOf_23 : decode b_M_wordsOf 23 = .ok (.aload_n 0, 1) := by decide +kernel
theorem d_M_wordsOf_24 : decode b_M_wordsOf 24 = .ok (.aload_n 1, 1) := by decide +kernel
theorem d_M_wordsOf_25 : decode b_M_wordsOf 25 = .ok (.iload_n 3, 1) := by decide +kernel
theorem d_M_wordsOf_26 : decode b_M_wordsOf 26 = .ok (.iaload, 1) := by decide +kernel
theorem d_M_wordsOf_27 : decode b_M_wordsOf 27 = .ok (.invokestatic 50, 3) := by decide +kernel
theorem d_M_wordsOf_30 : decode b_M_wordsOf 30 = .ok (.ifCond .eq 12, 3) := by decide +kernel
theorem d_M_wordsOf_33 : decode b_M_wordsOf 33 = .ok (.iload 4, 2) := by decide +kernel
theorem d_M_wordsOf_35 : decode b_M_wordsOf 35 = .ok (.iconst 3, 1) := by decide +kernel
theorem d_M_wordsOf_36 : decode b_M_wordsOf 36 = .ok (.iadd, 1) := by decide +kernel
theorem d_M_wordsOf_37 : decode b_M_wordsOf 37 = .ok (.iconst 4, 1) := by decide +kernel
theorem d_M_wordsOf_38 : decode b_M_wordsOf 38 = .ok (.idiv, 1) := by decide +kernel
theorem d_M_wordsOf_39 : decode b_M_wordsOf 39 = .ok (.goto 5, 3) := by decide +kernel
theorem d_M_wordsOf_42 : decode b_M_wordsOf 42 = .ok (.iload 4, 2) := by decide +kernel
theorem d_M_wordsOf_44 : decode b_M_wordsOf 44 = .ok (.iadd, 1) := by decide +kernel
theorem d_M_wordsOf_45 : decode b_M_wordsOf 45 = .ok (.iadd, 1) := by decide +kernel
theorem d_M_wordsOf_46 : decode b_M_wordsOf 46 = .ok (.istore_n 2, 1) := by decide +kernel
theorem d_M_wordsOf_47 : decode b_M_wordsOf 47 = .ok (.iinc 3 1, 3) := by decide +kernel
theorem d_M_wordsOf_50 : decode b_M_wordsOf 50 = .ok (.goto (-46), 3) := by decide +kernel
theorem d_M_wordsOf_53 : decode b_M_wordsOf 53 = .ok (.iload_n 2, 1) := by decide +kernel
theorem d_M_wordsOf_54 : decode b_M_wordsOf 54 = .ok (.ireturn, 1) := by decide +kernel
theorem d_M_write_0 : decode b_M_write 0 = .ok (.aload_n 0, 1) := by decide +kernel
theorem d_M_write_1 : decode b_M_write 1 = .ok (.iconst 0, 1) := by decide +kernel
theorem d_M_write_2 : decode b_M_write 2 = .ok (.putfield 36, 3) := by decide +kernel
theorem d_M_write_5 : decode b_M_write 5 = .ok (.aload_n 0, 1) := by decide +kernel
theorem d_M_write_6 : decode b_M_write 6 = .ok (.getfield 149, 3) := by decide +kernel
theorem d_M_write_9 : decode b_M_write 9 = .ok (.ifCond .ne 5, 3) := by decide +kernel
theorem d_M_write_12 : decode b_M_write 12 = .ok (.iconst (-1), 1) := by decide +kernel
theorem d_M_write_13 : decode b_M_write 13 = .ok (.ireturn, 1) := by decide +kernel
theorem d_M_write_14 : decode b_M_write 14 = .ok (.aload_n 0, 1) := by decide +kernel
theorem d_M_write_15 : decode b_M_write 15 = .ok (.invokevirtual 166, 3) := by decide +kernel
theorem d_M_write_18 : decode b_M_write 18 = .ok (.iconst 0, 1) := by decide +kernel
theorem d_M_write_19 : decode b_M_write 19 = .ok (.istore_n 1, 1) := by decide +kernel
theorem d_M_write_20 : decode b_M_write 20 = .ok (.iconst 1, 1) := by decide +kernel
theorem d_M_write_21 : decode b_M_write 21 = .ok (.istore_n 2, 1) := by decide +kernel
theorem d_M_write_22 : decode b_M_write 22 = .ok (.iload_n 2, 1) := by decide +kernel
theorem d_M_write_23 : decode b_M_write 23 = .ok (.aload_n 0, 1) := by decide +kernel
theorem d_M_write_24 : decode b_M_write 24 = .ok (.getfield 14, 3) := by decide +kernel
theorem d_M_write_27 : decode b_M_write 27 = .ok (.invokestatic 101, 3) := by decide +kernel
theorem d_M_write_30 : decode b_M_write 30 = .ok (.if_icmp .gt 46, 3) := by decide +kernel
theorem d_M_write_33 : decode b_M_write 33 = .ok (.aload_n 0, 1) := by decide +kernel
theorem d_M_write_34 : decode b_M_write 34 = .ok (.getfield 30, 3) := by decide +kernel
theorem d_M_write_37 : decode b_M_write 37 = .ok (.iload_n 2, 1) := by decide +kernel
theorem d_M_write_38 : decode b_M_write 38 = .ok (.iaload, 1) := by decide +kernel
theorem d_M_write_39 : decode b_M_write 39 = .ok (.ifCond .le 9, 3) := by decide +kernel
theorem d_M_write_42 : decode b_M_write 42 = .ok (.iload_n 1, 1) := by decide +kernel
theorem d_M_write_43 : decode b_M_write 43 = .ok (.iconst 1, 1) := by decide +kernel
theorem d_M_write_44 : decode b_M_write 44 = .ok (.iadd, 1) := by decide +kernel
theorem d_M_write_45 : decode b_M_write 45 = .ok (.goto 4, 3) := by decide +kernel
theorem d_M_write_48 : decode b_M_write 48 = .ok (.iload_n 1, 1) := by decide +kernel
theorem d_M_write_49 : decode b_M_write 49 = .ok (.istore_n 1, 1) := by decide +kernel
theorem d_M_write_50 : decode b_M_write 50 = .ok (.aload_n 0, 1) := by decide +kernel
theorem d_M_write_51 : decode b_M_write 51 = .ok (.getfield 30, 3) := by decide +kernel
theorem d_M_write_54 : decode b_M_write 54 = .ok (.iload_n 2, 1) := by decide +kernel
theorem d_M_write_55 : decode b_M_write 55 = .ok (.aload_n 0, 1) := by decide +kernel
theorem d_M_write_56 : decode b_M_write 56 = .ok (.getfield 30, 3) := by decide +kernel
theorem d_M_write_59 : decode b_M_write 59 = .ok (.iload_n 2, 1) := by decide +kernel
theorem d_M_write_60 : decode b_M_write 60 = .ok (.iaload, 1) := by decide +kernel
theorem d_M_write_61 : decode b_M_write 61 = .ok (.ifCond .le 7, 3) := by decide +kernel
theorem d_M_write_64 : decode b_M_write 64 = .ok (.iload_n 1, 1) := by decide +kernel
theorem d_M_write_65 : decode b_M_write 65 = .ok (.goto 4, 3) := by decide +kernel
theorem d_M_write_68 : decode b_M_write 68 = .ok (.iconst 0, 1) := by decide +kernel
theorem d_M_write_69 : decode b_M_write 69 = .ok (.iastore, 1) := by decide +kernel
theorem d_M_write_70 : decode b_M_write 70 = .ok (.iinc 2 1, 3) := by decide +kernel
theorem d_M_write_73 : decode b_M_write 73 = .ok (.goto (-51), 3) := by decide +kernel
theorem d_M_write_76 : decode b_M_write 76 = .ok (.aload_n 0, 1) := by decide +kernel
theorem d_M_write_77 : decode b_M_write 77 = .ok (.iconst 0, 1) := by decide +kernel
theorem d_M_write_78 : decode b_M_write 78 = .ok (.putfield 40, 3) := by decide +kernel
theorem d_M_write_81 : decode b_M_write 81 = .ok (.iconst 0, 1) := by decide +kernel
theorem d_M_write_82 : decode b_M_write 82 = .ok (.istore_n 2, 1) := by decide +kernel
theorem d_M_write_83 : decode b_M_write 83 = .ok (.iload_n 2, 1) := by decide +kernel
theorem d_M_write_84 : decode b_M_write 84 = .ok (.bipush 6, 2) := by decide +kernel
theorem d_M_write_86 : decode b_M_write 86 = .ok (.if_icmp .ge 20, 3) := by decide +kernel
theorem d_M_write_89 : decode b_M_write 89 = .ok (.aload_n 0, 1) := by decide +kernel
theorem d_M_write_90 : decode b_M_write 90 = .ok (.aload_n 0, 1) := by decide +kernel
theorem d_M_write_91 : decode b_M_write 91 = .ok (.getfield 14, 3) := by decide +kernel
theorem d_M_write_94 : decode b_M_write 94 = .ok (.iload_n 2, 1) := by decide +kernel
theorem d_M_write_95 : decode b_M_write 95 = .ok (.baload, 1) := by decide +kernel
theorem d_M_write_96 : decode b_M_write 96 = .ok (.iconst 1, 1) := by decide +kernel
theorem d_M_write_97 : decode b_M_write 97 = .ok (.invokevirtual 169, 3) := by decide +kernel
theorem d_M_write_100 : decode b_M_write 100 = .ok (.iinc 2 1, 3) := by decide +kernel
theorem d_M_write_103 : decode b_M_write 103 = .ok (.goto (-20), 3) := by decide +kernel
theorem d_M_write_106 : decode b_M_write 106 = .ok (.aload_n 0, 1) := by decide +kernel
theorem d_M_write_107 : decode b_M_write 107 = .ok (.iload_n 1, 1) := by decide +kernel
theorem d_M_write_108 : decode b_M_write 108 = .ok (.iconst 2, 1) := by decide +kernel
theorem d_M_write_109 : decode b_M_write 109 = .ok (.invokevirtual 169, 3) := by decide +kernel
theorem d_M_write_112 : decode b_M_write 112 = .ok (.iconst 0, 1) := by decide +kernel
theorem d_M_write_113 : decode b_M_write 113 = .ok (.istore_n 2, 1) := by decide +kernel
theorem d_M_write_114 : decode b_M_write 114 = .ok (.iload_n 2, 1) := by decide +kernel
theorem d_M_write_115 : decode b_M_write 115 = .ok (.bipush 50, 2) := by decide +kernel
theorem d_M_write_117 : decode b_M_write 117 = .ok (.if_icmp .ge 26, 3) := by decide +kernel
theorem d_M_write_120 : decode b_M_write 120 = .ok (.aload_n 0, 1) := by decide +kernel
theorem d_M_write_121 : decode b_M_write 121 = .ok (.aload_n 0, 1) := by decide +kernel
theorem d_M_write_122 : decode b_M_write 122 = .ok (.aload_n 0, 1) := by decide +kernel
theorem d_M_write_123 : decode b_M_write 123 = .ok (.getfield 14, 3) := by decide +kernel
theorem d_M_write_126 : decode b_M_write 126 = .ok (.iload_n 2, 1) := by decide +kernel
theorem d_M_write_127 : decode b_M_write 127 = .ok (.invokestatic 65, 3) := by decide +kernel
theorem d_M_write_130 : decode b_M_write 130 = .ok (.invokevirtual 173, 3) := by decide +kernel
theorem d_M_write_133 : decode b_M_write 133 = .ok (.iconst 4, 1) := by decide +kernel
theorem d_M_write_134 : decode b_M_write 134 = .ok (.invokevirtual 169, 3) := by decide +kernel
theorem d_M_write_137 : decode b_M_write 137 = .ok (.iinc 2 1, 3) := by decide +kernel
theorem d_M_write_140 : decode b_M_write 140 = .ok (.goto (-26), 3) := by decide +kernel
theorem d_M_write_143 : decode b_M_write 143 = .ok (.iconst 1, 1) := by decide +kernel
theorem d_M_write_144 : decode b_M_write 144 = .ok (.istore_n 2, 1) := by decide +kernel
theorem d_M_write_145 : decode b_M_write 145 = .ok (.iload_n 2, 1) := by decide +kernel
theorem d_M_write_146 : decode b_M_write 146 = .ok (.aload_n 0, 1) := by decide +kernel
theorem d_M_write_147 : decode b_M_write 147 = .ok (.getfield 14, 3) := by decide +kernel
theorem d_M_write_150 : decode b_M_write 150 = .ok (.invokestatic 101, 3) := by decide +kernel
theorem d_M_write_153 : decode b_M_write 153 = .ok (.if_icmp .gt 151, 3) := by decide +kernel
theorem d_M_write_156 : decode b_M_write 156 = .ok (.aload_n 0, 1) := by decide +kernel
theorem d_M_write_157 : decode b_M_write 157 = .ok (.getfield 30, 3) := by decide +kernel
theorem d_M_write_160 : decode b_M_write 160 = .ok (.iload_n 2, 1) := by decide +kernel
theorem d_M_write_161 : decode b_M_write 161 = .ok (.iaload, 1) := by decide +kernel
theorem d_M_write_162 : decode b_M_write 162 = .ok (.ifCond .ne 6, 3) := by decide +kernel
theorem d_M_write_165 : decode b_M_write 165 = .ok (.goto 133, 3) := by decide +kernel
theorem d_M_write_168 : decode b_M_write 168 = .ok (.aload_n 0, 1) := by decide +kernel
theorem d_M_write_169 : decode b_M_write 169 = .ok (.getfield 20, 3) := by decide +kernel
theorem d_M_write_172 : decode b_M_write 172 = .ok (.iload_n 2, 1) := by decide +kernel
theorem d_M_write_173 : decode b_M_write 173 = .ok (.iaload, 1) := by decide +kernel
theorem d_M_write_174 : decode b_M_write 174 = .ok (.istore_n 3, 1) := by decide +kernel
theorem d_M_write_175 : decode b_M_write 175 = .ok (.aload_n 0, 1) := by decide +kernel
theorem d_M_write_176 : decode b_M_write 176 = .ok (.getfield 14, 3) := by decide +kernel
theorem d_M_write_179 : decode b_M_write 179 = .ok (.iload_n 3, 1) := by decide +kernel
theorem d_M_write_180 : decode b_M_write 180 = .ok (.invokestatic 54, 3) := by decide +kernel
theorem d_M_write_183 : decode b_M_write 183 = .ok (.istore 4, 2) := by decide +kernel
theorem d_M_write_185 : decode b_M_write 185 = .ok (.aload_n 0, 1) := by decide +kernel
theorem d_M_write_186 : decode b_M_write 186 = .ok (.aload_n 0, 1) := by decide +kernel
theorem d_M_write_187 : decode b_M_write 187 = .ok (.aload_n 0, 1) := by decide +kernel
theorem d_M_write_188 : decode b_M_write 188 = .ok (.getfield 14, 3) := by decide +kernel
theorem d_M_write_191 : decode b_M_write 191 = .ok (.iload_n 3, 1) := by decide +kernel
theorem d_M_write_192 : decode b_M_write 192 = .ok (.invokestatic 47, 3) := by decide +kernel
theorem d_M_write_195 : decode b_M_write 195 = .ok (.invokevirtual 173, 3) := by decide +kernel
theorem d_M_write_198 : decode b_M_write 198 = .ok (.iconst 4, 1) := by decide +kernel
theorem d_M_write_199 : decode b_M_write 199 = .ok (.invokevirtual 169, 3) := by decide +kernel
theorem d_M_write_202 : decode b_M_write 202 = .ok (.aload_n 0, 1) := by decide +kernel
theorem d_M_write_203 : decode b_M_write 203 = .ok (.aload_n 0, 1) := by decide +kernel
theorem d_M_write_204 : decode b_M_write 204 = .ok (.getfield 14, 3) := by decide +kernel
theorem d_M_write_207 : decode b_M_write 207 = .ok (.iload_n 3, 1) := by decide +kernel
theorem d_M_write_208 : decode b_M_write 208 = .ok (.iconst 4, 1) := by decide +kernel
theorem d_M_write_209 : decode b_M_write 209 = .ok (.iadd, 1) := by decide +kernel
theorem d_M_write_210 : decode b_M_write 210 = .ok (.baload, 1) := by decide +kernel
theorem d_M_write_211 : decode b_M_write 211 = .ok (.iconst 1, 1) := by decide +kernel
theorem d_M_write_212 : decode b_M_write 212 = .ok (.invokevirtual 169, 3) := by decide +kernel
theorem d_M_write_215 : decode b_M_write 215 = .ok (.aload_n 0, 1) := by decide +kernel
theorem d_M_write_216 : decode b_M_write 216 = .ok (.iload 4, 2) := by decide +kernel
theorem d_M_write_218 : decode b_M_write 218 = .ok (.iconst 2, 1) := by decide +kernel
theorem d_M_write_219 : decode b_M_write 219 = .ok (.invokevirtual 169, 3) := by decide +kernel
theorem d_M_write_222 : decode b_M_write 222 = .ok (.iconst 0, 1) := by decide +kernel
theorem d_M_write_223 : decode b_M_write 223 = .ok (.istore 5, 2) := by decide +kernel
theorem d_M_write_225 : decode b_M_write 225 = .ok (.iload 5, 2) := by decide +kernel
theorem d_M_write_227 : decode b_M_write 227 = .ok (.iload 4, 2) := by decide +kernel
theorem d_M_write_229 : decode b_M_write 229 = .ok (.if_icmp .ge 69, 3) := by decide +kernel
theorem d_M_write_232 : decode b_M_write 232 = .ok (.aload_n 0, 1) := by decide +kernel
theorem d_M_write_233 : decode b_M_write 233 = .ok (.aload_n 0, 1) := by decide +kernel
theorem d_M_write_234 : decode b_M_write 234 = .ok (.getfield 14, 3) := by decide +kernel
theorem d_M_write_237 : decode b_M_write 237 = .ok (.iload_n 3, 1) := by decide +kernel
theorem d_M_write_238 : decode b_M_write 238 = .ok (.invokestatic 50, 3) := by decide +kernel
theorem d_M_write_241 : decode b_M_write 241 = .ok (.ifCond .eq 18, 3) := by decide +kernel
theorem d_M_write_244 : decode b_M_write 244 = .ok (.aload_n 0, 1) := by decide +kernel
theorem d_M_write_245 : decode b_M_write 245 = .ok (.getfield 14, 3) := by decide +kernel
theorem d_M_write_248 : decode b_M_write 248 = .ok (.iload_n 3, 1) := by decide +kernel
theorem d_M_write_249 : decode b_M_write 249 = .ok (.bipush 7, 2) := by decide +kernel
theorem d_M_write_251 : decode b_M_write 251 = .ok (.iadd, 1) := by decide +kernel
theorem d_M_write_252 : decode b_M_write 252 = .ok (.iload 5, 2) := by decide +kernel
theorem d_M_write_254 : decode b_M_write 254 = .ok (.iadd, 1) := by decide +kernel
theorem d_M_write_255 : decode b_M_write 255 = .ok (.baload, 1) := by decide +kernel
theorem d_M_write_256 : decode b_M_write 256 = .ok (.goto 17, 3) := by decide +kernel
theorem d_M_write_259 : decode b_M_write 259 = .ok (.aload_n 0, 1) := by decide +kernel
theorem d_M_write_260 : decode b_M_write 260 = .ok (.aload_n 0, 1) := by decide +kernel
theorem d_M_write_261 : decode b_M_write 261 = .ok (.getfield 14, 3) := by decide +kernel
theorem d_M_write_264 : decode b_M_write 264 = .ok (.iload_n 3, 1) := by decide +kernel
theorem d_M_write_265 : decode b_M_write 265 = .ok (.iload 5, 2) := by decide +kernel
theorem d_M_write_267 : decode b_M_write 267 = .ok (.invokestatic 61, 3) := by decide +kernel
theorem d_M_write_270 : decode b_M_write 270 = .ok (.invokevirtual 173, 3) := by decide +kernel
theorem d_M_write_273 : decode b_M_write 273 = .ok (.aload_n 0, 1) := by decide +kernel
theorem d_M_write_274 : decode b_M_write 274 = .ok (.getfield 14, 3) := by decide +kernel
theorem d_M_write_277 : decode b_M_write 277 = .ok (.iload_n 3, 1) := by decide +kernel
theorem d_M_write_278 : decode b_M_write 278 = .ok (.invokestatic 50, 3) := by decide +kernel
theorem d_M_write_281 : decode b_M_write 281 = .ok (.ifCond .eq 7, 3) := by decide +kernel
theorem d_M_write_284 : decode b_M_write 284 = .ok (.iconst 1, 1) := by decide +kernel
theorem d_M_write_285 : decode b_M_write 285 = .ok (.goto 4, 3) := by decide +kernel
theorem d_M_write_288 : decode b_M_write 288 = .ok (.iconst 4, 1) := by decide +kernel
theorem d_M_write_289 : decode b_M_write 289 = .ok (.invokevirtual 169, 3) := by decide +kernel
theorem d_M_write_292 : decode b_M_write 292 = .ok (.iinc 5 1, 3) := by decide +kernel
theorem d_M_write_295 : decode b_M_write 295 = .ok (.goto (-70), 3) := by decide +kernel
theorem d_M_write_298 : decode b_M_write 298 = .ok (.iinc 2 1, 3) := by decide +kernel
theorem d_M_write_301 : decode b_M_write 301 = .ok (.goto (-156), 3) := by decide +kernel
theorem d_M_write_304 : decode b_M_write 304 = .ok (.aload_n 0, 1) := by decide +kernel
theorem d_M_write_305 : decode b_M_write 305 = .ok (.getfield 40, 3) := by decide +kernel
theorem d_M_write_308 : decode b_M_write 308 = .ok (.ireturn, 1) := by decide +kernel
