theorem dX7_tellNext_2 : decode cX7_tellNext 2 = .ok (.iload_n 2, 1) := by decide +kernel
theorem dX7_tellNext_3 : decode cX7_tellNext 3 = .ok (.invokevirtual 127, 3) := by decide +kernel
theorem dX7_tellNext_6 : decode cX7_tellNext 6 = .ok (.istore_n 3, 1) := by decide +kernel
theorem dX7_tellNext_7 : decode cX7_tellNext 7 = .ok (.aload_n 0, 1) := by decide +kernel
theorem dX7_tellNext_8 : decode cX7_tellNext 8 = .ok (.iconst 0, 1) := by decide +kernel
theorem dX7_tellNext_9 : decode cX7_tellNext 9 = .ok (.putfield 130, 3) := by decide +kernel
theorem dX7_tellNext_12 : decode cX7_tellNext 12 = .ok (.iconst 0, 1) := by decide +kernel
theorem dX7_tellNext_13 : decode cX7_tellNext 13 = .ok (.istore 4, 2) := by decide +kernel
theorem dX7_tellNext_15 : decode cX7_tellNext 15 = .ok (.iload 4, 2) := by decide +kernel
theorem dX7_tellNext_17 : decode cX7_tellNext 17 = .ok (.bipush 7, 2) := by decide +kernel
theorem dX7_tellNext_19 : decode cX7_tellNext 19 = .ok (.if_icmp .ge 158, 3) := by decide +kernel
theorem dX7_tellNext_22 : decode cX7_tellNext 22 = .ok (.iload 4, 2) := by decide +kernel
theorem dX7_tellNext_24 : decode cX7_tellNext 24 = .ok (.ifCond .ne 7, 3) := by decide +kernel
theorem dX7_tellNext_27 : decode cX7_tellNext 27 = .ok (.iload_n 2, 1) := by decide +kernel
theorem dX7_tellNext_28 : decode cX7_tellNext 28 = .ok (.goto 26, 3) := by decide +kernel
theorem dX7_tellNext_31 : decode cX7_tellNext 31 = .ok (.iload_n 2, 1) := by decide +kernel
theorem dX7_tellNext_32 : decode cX7_tellNext 32 = .ok (.getstatic 133, 3) := by decide +kernel
theorem dX7_tellNext_35 : decode cX7_tellNext 35 = .ok (.iload 4, 2) := by decide +kernel
theorem dX7_tellNext_37 : decode cX7_tellNext 37 = .ok (.iconst 1, 1) := by decide +kernel
theorem dX7_tellNext_38 : decode cX7_tellNext 38 = .ok (.isub, 1) := by decide +kernel
theorem dX7_tellNext_39 : decode cX7_tellNext 39 = .ok (.iconst 2, 1) := by decide +kernel
theorem dX7_tellNext_40 : decode cX7_tellNext 40 = .ok (.idiv, 1) := by decide +kernel
theorem dX7_tellNext_41 : decode cX7_tellNext 41 = .ok (.iaload, 1) := by decide +kernel
theorem dX7_tellNext_42 : decode cX7_tellNext 42 = .ok (.iconst 1, 1) := by decide +kernel
theorem dX7_tellNext_43 : decode cX7_tellNext 43 = .ok (.iload 4, 2) := by decide +kernel
theorem dX7_tellNext_45 : decode cX7_tellNext 45 = .ok (.iconst 1, 1) := by decide +kernel
theorem dX7_tellNext_46 : decode cX7_tellNext 46 = .ok (.isub, 1) := by decide +kernel
theorem dX7_tellNext_47 : decode cX7_tellNext 47 = .ok (.iconst 2, 1) := by decide +kernel
theorem dX7_tellNext_48 : decode cX7_tellNext 48 = .ok (.irem, 1) := by decide +kernel
theorem dX7_tellNext_49 : decode cX7_tellNext 49 = .ok (.iadd, 1) := by decide +kernel
theorem dX7_tellNext_50 : decode cX7_tellNext 50 = .ok (.iload_n 3, 1) := by decide +kernel
theorem dX7_tellNext_51 : decode cX7_tellNext 51 = .ok (.invokestatic 136, 3) := by decide +kernel
theorem dX7_tellNext_54 : decode cX7_tellNext 54 = .ok (.istore 5, 2) := by decide +kernel
theorem dX7_tellNext_56 : decode cX7_tellNext 56 = .ok (.iconst 0, 1) := by decide +kernel
theorem dX7_tellNext_57 : decode cX7_tellNext 57 = .ok (.istore 6, 2) := by decide +kernel
theorem dX7_tellNext_59 : decode cX7_tellNext 59 = .ok (.iload 6, 2) := by decide +kernel
theorem dX7_tellNext_61 : decode cX7_tellNext 61 = .ok (.bipush 9, 2) := by decide +kernel
theorem dX7_tellNext_63 : decode cX7_tellNext 63 = .ok (.if_icmp .ge 108, 3) := by decide +kernel
theorem dX7_tellNext_66 : decode cX7_tellNext 66 = .ok (.iload 5, 2) := by decide +kernel
theorem dX7_tellNext_68 : decode cX7_tellNext 68 = .ok (.ifCond .lt 103, 3) := by decide +kernel
theorem dX7_tellNext_71 : decode cX7_tellNext 71 = .ok (.iload 6, 2) := by decide +kernel
theorem dX7_tellNext_73 : decode cX7_tellNext 73 = .ok (.ifCond .ne 8, 3) := by decide +kernel
theorem dX7_tellNext_76 : decode cX7_tellNext 76 = .ok (.iload 5, 2) := by decide +kernel
theorem dX7_tellNext_78 : decode cX7_tellNext 78 = .ok (.goto 29, 3) := by decide +kernel
theorem dX7_tellNext_81 : decode cX7_tellNext 81 = .ok (.iload 5, 2) := by decide +kernel
theorem dX7_tellNext_83 : decode cX7_tellNext 83 = .ok (.getstatic 133, 3) := by decide +kernel
theorem dX7_tellNext_86 : decode cX7_tellNext 86 = .ok (.iconst 3, 1) := by decide +kernel
theorem dX7_tellNext_87 : decode cX7_tellNext 87 = .ok (.iload 6, 2) := by decide +kernel
theorem dX7_tellNext_89 : decode cX7_tellNext 89 = .ok (.iconst 1, 1) := by decide +kernel
theorem dX7_tellNext_90 : decode cX7_tellNext 90 = .ok (.isub, 1) := by decide +kernel
theorem dX7_tellNext_91 : decode cX7_tellNext 91 = .ok (.iconst 2, 1) := by decide +kernel
theorem dX7_tellNext_92 : decode cX7_tellNext 92 = .ok (.idiv, 1) := by decide +kernel
theorem dX7_tellNext_93 : decode cX7_tellNext 93 = .ok (.iadd, 1) := by decide +kernel
theorem dX7_tellNext_94 : decode cX7_tellNext 94 = .ok (.iaload, 1) := by decide +kernel
theorem dX7_tellNext_95 : decode cX7_tellNext 95 = .ok (.iconst 1, 1) := by decide +kernel
theorem dX7_tellNext_96 : decode cX7_tellNext 96 = .ok (.iload 6, 2) := by decide +kernel
theorem dX7_tellNext_98 : decode cX7_tellNext 98 = .ok (.iconst 1, 1) := by decide +kernel
theorem dX7_tellNext_99 : decode cX7_tellNext 99 = .ok (.isub, 1) := by decide +kernel
theorem dX7_tellNext_100 : decode cX7_tellNext 100 = .ok (.iconst 2, 1) := by decide +kernel
theorem dX7_tellNext_101 : decode cX7_tellNext 101 = .ok (.irem, 1) := by decide +kernel
theorem dX7_tellNext_102 : decode cX7_tellNext 102 = .ok (.iadd, 1) := by decide +kernel
theorem dX7_tellNext_103 : decode cX7_tellNext 103 = .ok (.iload_n 3, 1) := by decide +kernel
theorem dX7_tellNext_104 : decode cX7_tellNext 104 = .ok (.invokestatic 136, 3) := by decide +kernel
theorem dX7_tellNext_107 : decode cX7_tellNext 107 = .ok (.istore 7, 2) := by decide +kernel
theorem dX7_tellNext_109 : decode cX7_tellNext 109 = .ok (.iload 7, 2) := by decide +kernel
theorem dX7_tellNext_111 : decode cX7_tellNext 111 = .ok (.ifCond .lt 54, 3) := by decide +kernel
theorem dX7_tellNext_114 : decode cX7_tellNext 114 = .ok (.aload_n 0, 1) := by decide +kernel
theorem dX7_tellNext_115 : decode cX7_tellNext 115 = .ok (.getfield 31, 3) := by decide +kernel
theorem dX7_tellNext_118 : decode cX7_tellNext 118 = .ok (.aload_n 0, 1) := by decide +kernel
theorem dX7_tellNext_119 : decode cX7_tellNext 119 = .ok (.getfield 130, 3) := by decide +kernel
theorem dX7_tellNext_122 : decode cX7_tellNext 122 = .ok (.iload 7, 2) := by decide +kernel
theorem dX7_tellNext_124 : decode cX7_tellNext 124 = .ok (.iastore, 1) := by decide +kernel
theorem dX7_tellNext_125 : decode cX7_tellNext 125 = .ok (.aload_n 0, 1) := by decide +kernel
theorem dX7_tellNext_126 : decode cX7_tellNext 126 = .ok (.getfield 34, 3) := by decide +kernel
theorem dX7_tellNext_129 : decode cX7_tellNext 129 = .ok (.aload_n 0, 1) := by decide +kernel
theorem dX7_tellNext_130 : decode cX7_tellNext 130 = .ok (.getfield 130, 3) := by decide +kernel
theorem dX7_tellNext_133 : decode cX7_tellNext 133 = .ok (.iload 4, 2) := by decide +kernel
theorem dX7_tellNext_135 : decode cX7_tellNext 135 = .ok (.ifCond .ne 7, 3) := by decide +kernel
theorem dX7_tellNext_138 : decode cX7_tellNext 138 = .ok (.iconst 0, 1) := by decide +kernel
theorem dX7_tellNext_139 : decode cX7_tellNext 139 = .ok (.goto 4, 3) := by decide +kernel
theorem dX7_tellNext_142 : decode cX7_tellNext 142 = .ok (.iconst 1, 1) := by decide +kernel
theorem dX7_tellNext_143 : decode cX7_tellNext 143 = .ok (.iload 6, 2) := by decide +kernel
theorem dX7_tellNext_145 : decode cX7_tellNext 145 = .ok (.ifCond .ne 7, 3) := by decide +kernel
theorem dX7_tellNext_148 : decode cX7_tellNext 148 = .ok (.iconst 0, 1) := by decide +kernel
theorem dX7_tellNext_149 : decode cX7_tellNext 149 = .ok (.goto 4, 3) := by decide +kernel
theorem dX7_tellNext_152 : decode cX7_tellNext 152 = .ok (.iconst 1, 1) := by decide +kernel
theorem dX7_tellNext_153 : decode cX7_tellNext 153 = .ok (.iadd, 1) := by decide +kernel
theorem dX7_tellNext_154 : decode cX7_tellNext 154 = .ok (.iastore, 1) := by decide +kernel
theorem dX7_tellNext_155 : decode cX7_tellNext 155 = .ok (.aload_n 0, 1) := by decide +kernel
theorem dX7_tellNext_156 : decode cX7_tellNext 156 = .ok (.dup, 1) := by decide +kernel
theorem dX7_tellNext_157 : decode cX7_tellNext 157 = .ok (.getfield 130, 3) := by decide +kernel
theorem dX7_tellNext_160 : decode cX7_tellNext 160 = .ok (.iconst 1, 1) := by decide +kernel
theorem dX7_tellNext_161 : decode cX7_tellNext 161 = .ok (.iadd, 1) := by decide +kernel
theorem dX7_tellNext_162 : decode cX7_tellNext 162 = .ok (.putfield 130, 3) := by decide +kernel
theorem dX7_tellNext_165 : decode cX7_tellNext 165 = .ok (.iinc 6 1, 3) := by decide +kernel
theorem dX7_tellNext_168 : decode cX7_tellNext 168 = .ok (.goto (-109), 3) := by decide +kernel
theorem dX7_tellNext_171 : decode cX7_tellNext 171 = .ok (.iinc 4 1, 3) := by decide +kernel
theorem dX7_tellNext_174 : decode cX7_tellNext 174 = .ok (.goto (-159), 3) := by decide +kernel
theorem dX7_tellNext_177 : decode cX7_tellNext 177 = .ok (.return_, 1) := by decide +kernel
theorem dX7_moved_0 : decode cX7_moved 0 = .ok (.iload_n 3, 1) := by decide +kernel
theorem dX7_moved_1 : decode cX7_moved 1 = .ok (.iload_n 1, 1) := by decide +kernel
theorem dX7_moved_2 : decode cX7_moved 2 = .ok (.ishr, 1) := by decide +kernel
theorem dX7_moved_3 : decode cX7_moved 3 = .ok (.iconst 1, 1) := by decide +kernel
theorem dX7_moved_4 : decode cX7_moved 4 = .ok (.iand, 1) := by decide +kernel
theorem dX7_moved_5 : decode cX7_moved 5 = .ok (.iconst 1, 1) := by decide +kernel
theorem dX7_moved_6 : decode cX7_moved 6 = .ok (.if_icmp .ne 5, 3) := by decide +kernel
theorem dX7_moved_9 : decode cX7_moved 9 = .ok (.iconst (-1), 1) := by decide +kernel
theorem dX7_moved_10 : decode cX7_moved 10 = .ok (.ireturn, 1) := by decide +kernel
theorem dX7_moved_11 : decode cX7_moved 11 = .ok (.iload_n 0, 1) := by decide +kernel
theorem dX7_moved_12 : decode cX7_moved 12 = .ok (.iload_n 1, 1) := by decide +kernel
theorem dX7_moved_13 : decode cX7_moved 13 = .ok (.invokestatic 112, 3) := by decide +kernel
theorem dX7_moved_16 : decode cX7_moved 16 = .ok (.istore 4, 2) := by decide +kernel
theorem dX7_moved_18 : decode cX7_moved 18 = .ok (.iload_n 0, 1) := by decide +kernel
theorem dX7_moved_19 : decode cX7_moved 19 = .ok (.getstatic 106, 3) := by decide +kernel
theorem dX7_moved_22 : decode cX7_moved 22 = .ok (.iload_n 1, 1) := by decide +kernel
theorem dX7_moved_23 : decode cX7_moved 23 = .ok (.iaload, 1) := by decide +kernel
theorem dX7_moved_24 : decode cX7_moved 24 = .ok (.iload 4, 2) := by decide +kernel
theorem dX7_moved_26 : decode cX7_moved 26 = .ok (.iload_n 2, 1) := by decide +kernel
theorem dX7_moved_27 : decode cX7_moved 27 = .ok (.iadd, 1) := by decide +kernel
theorem dX7_moved_28 : decode cX7_moved 28 = .ok (.iconst 3, 1) := by decide +kernel
theorem dX7_moved_29 : decode cX7_moved 29 = .ok (.irem, 1) := by decide +kernel
theorem dX7_moved_30 : decode cX7_moved 30 = .ok (.iload 4, 2) := by decide +kernel
theorem dX7_moved_32 : decode cX7_moved 32 = .ok (.isub, 1) := by decide +kernel
theorem dX7_moved_33 : decode cX7_moved 33 = .ok (.imul, 1) := by decide +kernel
theorem dX7_moved_34 : decode cX7_moved 34 = .ok (.iadd, 1) := by decide +kernel
theorem dX7_moved_35 : decode cX7_moved 35 = .ok (.ireturn, 1) := by decide +kernel
theorem dX7_ahead_0 : decode cX7_ahead 0 = .ok (.iconst 0, 1) := by decide +kernel
theorem dX7_ahead_1 : decode cX7_ahead 1 = .ok (.istore_n 2, 1) := by decide +kernel
theorem dX7_ahead_2 : decode cX7_ahead 2 = .ok (.iconst 0, 1) := by decide +kernel
theorem dX7_ahead_3 : decode cX7_ahead 3 = .ok (.istore_n 3, 1) := by decide +kernel
theorem dX7_ahead_4 : decode cX7_ahead 4 = .ok (.iconst 0, 1) := by decide +kernel
theorem dX7_ahead_5 : decode cX7_ahead 5 = .ok (.istore 4, 2) := by decide +kernel
theorem dX7_ahead_7 : decode cX7_ahead 7 = .ok (.iload 4, 2) := by decide +kernel
theorem dX7_ahead_9 : decode cX7_ahead 9 = .ok (.bipush 7, 2) := by decide +kernel
theorem dX7_ahead_11 : decode cX7_ahead 11 = .ok (.if_icmp .ge 94, 3) := by decide +kernel
theorem dX7_ahead_14 : decode cX7_ahead 14 = .ok (.aload_n 0, 1) := by decide +kernel
theorem dX7_ahead_15 : decode cX7_ahead 15 = .ok (.getfield 7, 3) := by decide +kernel
theorem dX7_ahead_18 : decode cX7_ahead 18 = .ok (.sipush 313, 3) := by decide +kernel
theorem dX7_ahead_21 : decode cX7_ahead 21 = .ok (.iload 4, 2) := by decide +kernel
theorem dX7_ahead_23 : decode cX7_ahead 23 = .ok (.iadd, 1) := by decide +kernel
theorem dX7_ahead_24 : decode cX7_ahead 24 = .ok (.iaload, 1) := by decide +kernel
theorem dX7_ahead_25 : decode cX7_ahead 25 = .ok (.ifCond .lt 27, 3) := by decide +kernel
theorem dX7_ahead_28 : decode cX7_ahead 28 = .ok (.aload_n 0, 1) := by decide +kernel
theorem dX7_ahead_29 : decode cX7_ahead 29 = .ok (.getfield 7, 3) := by decide +kernel
theorem dX7_ahead_32 : decode cX7_ahead 32 = .ok (.sipush 313, 3) := by decide +kernel
theorem dX7_ahead_35 : decode cX7_ahead 35 = .ok (.iload 4, 2) := by decide +kernel
theorem dX7_ahead_37 : decode cX7_ahead 37 = .ok (.iadd, 1) := by decide +kernel
theorem dX7_ahead_38 : decode cX7_ahead 38 = .ok (.iaload, 1) := by decide +kernel
theorem dX7_ahead_39 : decode cX7_ahead 39 = .ok (.iload_n 1, 1) := by decide +kernel
theorem dX7_ahead_40 : decode cX7_ahead 40 = .ok (.iload 4, 2) := by decide +kernel
theorem dX7_ahead_42 : decode cX7_ahead 42 = .ok (.invokestatic 112, 3) := by decide +kernel
theorem dX7_ahead_45 : decode cX7_ahead 45 = .ok (.if_icmp .eq 7, 3) := by decide +kernel
theorem dX7_ahead_48 : decode cX7_ahead 48 = .ok (.iconst 1, 1) := by decide +kernel
theorem dX7_ahead_49 : decode cX7_ahead 49 = .ok (.goto 4, 3) := by decide +kernel
theorem dX7_ahead_52 : decode cX7_ahead 52 = .ok (.iconst 0, 1) := by decide +kernel
theorem dX7_ahead_53 : decode cX7_ahead 53 = .ok (.istore 5, 2) := by decide +kernel
theorem dX7_ahead_55 : decode cX7_ahead 55 = .ok (.iload_n 2, 1) := by decide +kernel
theorem dX7_ahead_56 : decode cX7_ahead 56 = .ok (.iload 4, 2) := by decide +kernel
theorem dX7_ahead_58 : decode cX7_ahead 58 = .ok (.bipush 6, 2) := by decide +kernel
theorem dX7_ahead_60 : decode cX7_ahead 60 = .ok (.if_icmp .eq 9, 3) := by decide +kernel
theorem dX7_ahead_63 : decode cX7_ahead 63 = .ok (.iload 4, 2) := by decide +kernel
theorem dX7_ahead_65 : decode cX7_ahead 65 = .ok (.iconst 2, 1) := by decide +kernel
theorem dX7_ahead_66 : decode cX7_ahead 66 = .ok (.if_icmp .ge 8, 3) := by decide +kernel
theorem dX7_ahead_69 : decode cX7_ahead 69 = .ok (.iload 5, 2) := by decide +kernel
theorem dX7_ahead_71 : decode cX7_ahead 71 = .ok (.goto 4, 3) := by decide +kernel
theorem dX7_ahead_74 : decode cX7_ahead 74 = .ok (.iconst 0, 1) := by decide +kernel
theorem dX7_ahead_75 : decode cX7_ahead 75 = .ok (.iadd, 1) := by decide +kernel
theorem dX7_ahead_76 : decode cX7_ahead 76 = .ok (.istore_n 2, 1) := by decide +kernel
theorem dX7_ahead_77 : decode cX7_ahead 77 = .ok (.iload_n 3, 1) := by decide +kernel
theorem dX7_ahead_78 : decode cX7_ahead 78 = .ok (.iload 4, 2) := by decide +kernel
theorem dX7_ahead_80 : decode cX7_ahead 80 = .ok (.bipush 6, 2) := by decide +kernel
theorem dX7_ahead_82 : decode cX7_ahead 82 = .ok (.if_icmp .ge 14, 3) := by decide +kernel
theorem dX7_ahead_85 : decode cX7_ahead 85 = .ok (.iload 4, 2) := by decide +kernel
theorem dX7_ahead_87 : decode cX7_ahead 87 = .ok (.iconst 1, 1) := by decide +kernel
theorem dX7_ahead_88 : decode cX7_ahead 88 = .ok (.if_icmp .le 8, 3) := by decide +kernel
theorem dX7_ahead_91 : decode cX7_ahead 91 = .ok (.iload 5, 2) := by decide +kernel
theorem dX7_ahead_93 : decode cX7_ahead 93 = .ok (.goto 4, 3) := by decide +kernel
theorem dX7_ahead_96 : decode cX7_ahead 96 = .ok (.iconst 0, 1) := by decide +kernel
theorem dX7_ahead_97 : decode cX7_ahead 97 = .ok (.iadd, 1) := by decide +kernel
theorem dX7_ahead_98 : decode cX7_ahead 98 = .ok (.istore_n 3, 1) := by decide +kernel
theorem dX7_ahead_99 : decode cX7_ahead 99 = .ok (.iinc 4 1, 3) := by decide +kernel
theorem dX7_ahead_102 : decode cX7_ahead 102 = .ok (.goto (-95), 3) := by decide +kernel
theorem dX7_ahead_105 : decode cX7_ahead 105 = .ok (.iload_n 2, 1) := by decide +kernel
theorem dX7_ahead_106 : decode cX7_ahead 106 = .ok (.iconst 1, 1) := by decide +kernel
theorem dX7_ahead_107 : decode cX7_ahead 107 = .ok (.if_icmp .gt 8, 3) := by decide +kernel
theorem dX7_ahead_110 : decode cX7_ahead 110 = .ok (.iload_n 3, 1) := by decide +kernel
theorem dX7_ahead_111 : decode cX7_ahead 111 = .ok (.iconst 1, 1) := by decide +kernel
theorem dX7_ahead_112 : decode cX7_ahead 112 = .ok (.if_icmp .le 8, 3) := by decide +kernel
theorem dX7_ahead_115 : decode cX7_ahead 115 = .ok (.ldc 140, 2) := by decide +kernel
theorem dX7_ahead_117 : decode cX7_ahead 117 = .ok (.goto 6, 3) := by decide +kernel
theorem dX7_ahead_120 : decode cX7_ahead 120 = .ok (.iload_n 2, 1) := by decide +kernel
theorem dX7_ahead_121 : decode cX7_ahead 121 = .ok (.iload_n 3, 1) := by decide +kernel
theorem dX7_ahead_122 : decode cX7_ahead 122 = .ok (.iadd, 1) := by decide +kernel
theorem dX7_ahead_123 : decode cX7_ahead 123 = .ok (.ireturn, 1) := by decide +kernel
theorem dX7_tell_0 : decode cX7_tell 0 = .ok (.aload_n 0, 1) := by decide +kernel
theorem dX7_tell_1 : decode cX7_tell 1 = .ok (.getfield 7, 3) := by decide +kernel
theorem dX7_tell_4 : decode cX7_tell 4 = .ok (.iconst 0, 1) := by decide +kernel
theorem dX7_tell_5 : decode cX7_tell 5 = .ok (.iaload, 1) := by decide +kernel
theorem dX7_tell_6 : decode cX7_tell 6 = .ok (.iconst 1, 1) := by decide +kernel
theorem dX7_tell_7 : decode cX7_tell 7 = .ok (.isub, 1) := by decide +kernel
theorem dX7_tell_8 : decode cX7_tell 8 = .ok (.istore_n 1, 1) := by decide +kernel
theorem dX7_tell_9 : decode cX7_tell 9 = .ok (.iload_n 1, 1) := by decide +kernel
theorem dX7_tell_10 : decode cX7_tell 10 = .ok (.istore_n 2, 1) := by decide +kernel
theorem dX7_tell_11 : decode cX7_tell 11 = .ok (.iload_n 2, 1) := by decide +kernel
theorem dX7_tell_12 : decode cX7_tell 12 = .ok (.ifCond .lt 228, 3) := by decide +kernel
theorem dX7_tell_15 : decode cX7_tell 15 = .ok (.iconst 0, 1) := by decide +kernel
theorem dX7_tell_16 : decode cX7_tell 16 = .ok (.istore_n 3, 1) := by decide +kernel
theorem dX7_tell_17 : decode cX7_tell 17 = .ok (.iload_n 3, 1) := by decide +kernel
theorem dX7_tell_18 : decode cX7_tell 18 = .ok (.sipush 2187, 3) := by decide +kernel
theorem dX7_tell_21 : decode cX7_tell 21 = .ok (.if_icmp .ge 213, 3) := by decide +kernel
theorem dX7_tell_24 : decode cX7_tell 24 = .ok (.aload_n 0, 1) := by decide +kernel
theorem dX7_tell_25 : decode cX7_tell 25 = .ok (.iload_n 2, 1) := by decide +kernel
theorem dX7_tell_26 : decode cX7_tell 26 = .ok (.iload_n 3, 1) := by decide +kernel
theorem dX7_tell_27 : decode cX7_tell 27 = .ok (.invokevirtual 124, 3) := by decide +kernel
theorem dX7_tell_30 : decode cX7_tell 30 = .ok (.ifCond .eq 17, 3) := by decide +kernel
theorem dX7_tell_33 : decode cX7_tell 33 = .ok (.iload_n 2, 1) := by decide +kernel
theorem dX7_tell_34 : decode cX7_tell 34 = .ok (.iload_n 1, 1) := by decide +kernel
theorem dX7_tell_35 : decode cX7_tell 35 = .ok (.if_icmp .ne 7, 3) := by decide +kernel
theorem dX7_tell_38 : decode cX7_tell 38 = .ok (.iconst 0, 1) := by decide +kernel
theorem dX7_tell_39 : decode cX7_tell 39 = .ok (.goto 10, 3) := by decide +kernel
theorem dX7_tell_42 : decode cX7_tell 42 = .ok (.ldc 140, 2) := by decide +kernel
theorem dX7_tell_44 : decode cX7_tell 44 = .ok (.goto 5, 3) := by decide +kernel
theorem dX7_tell_47 : decode cX7_tell 47 = .ok (.ldc 141, 2) := by decide +kernel
theorem dX7_tell_49 : decode cX7_tell 49 = .ok (.istore 4, 2) := by decide +kernel
theorem dX7_tell_51 : decode cX7_tell 51 = .ok (.iload 4, 2) := by decide +kernel
theorem dX7_tell_53 : decode cX7_tell 53 = .ok (.ifCond .ne 7, 3) := by decide +kernel
theorem dX7_tell_56 : decode cX7_tell 56 = .ok (.iconst 1, 1) := by decide +kernel
theorem dX7_tell_57 : decode cX7_tell 57 = .ok (.goto 4, 3) := by decide +kernel
theorem dX7_tell_60 : decode cX7_tell 60 = .ok (.iconst 0, 1) := by decide +kernel
theorem dX7_tell_61 : decode cX7_tell 61 = .ok (.istore 5, 2) := by decide +kernel
theorem dX7_tell_63 : decode cX7_tell 63 = .ok (.iload 4, 2) := by decide +kernel
theorem dX7_tell_65 : decode cX7_tell 65 = .ok (.ldc 140, 2) := by decide +kernel
theorem dX7_tell_67 : decode cX7_tell 67 = .ok (.if_icmp .ne 121, 3) := by decide +kernel
theorem dX7_tell_70 : decode cX7_tell 70 = .ok (.aload_n 0, 1) := by decide +kernel
theorem dX7_tell_71 : decode cX7_tell 71 = .ok (.iload_n 2, 1) := by decide +kernel
theorem dX7_tell_72 : decode cX7_tell 72 = .ok (.iload_n 3, 1) := by decide +kernel
theorem dX7_tell_73 : decode cX7_tell 73 = .ok (.invokevirtual 142, 3) := by decide +kernel
theorem dX7_tell_76 : decode cX7_tell 76 = .ok (.iconst 0, 1) := by decide +kernel
theorem dX7_tell_77 : decode cX7_tell 77 = .ok (.istore 6, 2) := by decide +kernel
theorem dX7_tell_79 : decode cX7_tell 79 = .ok (.iload 6, 2) := by decide +kernel
theorem dX7_tell_81 : decode cX7_tell 81 = .ok (.aload_n 0, 1) := by decide +kernel
theorem dX7_tell_82 : decode cX7_tell 82 = .ok (.getfield 130, 3) := by decide +kernel
theorem dX7_tell_85 : decode cX7_tell 85 = .ok (.if_icmp .ge 103, 3) := by decide +kernel
theorem dX7_tell_88 : decode cX7_tell 88 = .ok (.sipush 2187, 3) := by decide +kernel
theorem dX7_tell_91 : decode cX7_tell 91 = .ok (.iload_n 2, 1) := by decide +kernel
theorem dX7_tell_92 : decode cX7_tell 92 = .ok (.iconst 1, 1) := by decide +kernel
theorem dX7_tell_93 : decode cX7_tell 93 = .ok (.iadd, 1) := by decide +kernel
theorem dX7_tell_94 : decode cX7_tell 94 = .ok (.imul, 1) := by decide +kernel
theorem dX7_tell_95 : decode cX7_tell 95 = .ok (.aload_n 0, 1) := by decide +kernel
theorem dX7_tell_96 : decode cX7_tell 96 = .ok (.getfield 31, 3) := by decide +kernel
theorem dX7_tell_99 : decode cX7_tell 99 = .ok (.iload 6, 2) := by decide +kernel
theorem dX7_tell_101 : decode cX7_tell 101 = .ok (.iaload, 1) := by decide +kernel
theorem dX7_tell_102 : decode cX7_tell 102 = .ok (.iadd, 1) := by decide +kernel
theorem dX7_tell_103 : decode cX7_tell 103 = .ok (.istore 7, 2) := by decide +kernel
theorem dX7_tell_105 : decode cX7_tell 105 = .ok (.aload_n 0, 1) := by decide +kernel
theorem dX7_tell_106 : decode cX7_tell 106 = .ok (.getfield 34, 3) := by decide +kernel
theorem dX7_tell_109 : decode cX7_tell 109 = .ok (.iload 6, 2) := by decide +kernel
theorem dX7_tell_111 : decode cX7_tell 111 = .ok (.iaload, 1) := by decide +kernel
theorem dX7_tell_112 : decode cX7_tell 112 = .ok (.aload_n 0, 1) := by decide +kernel
theorem dX7_tell_113 : decode cX7_tell 113 = .ok (.getfield 25, 3) := by decide +kernel
theorem dX7_tell_116 : decode cX7_tell 116 = .ok (.iload 7, 2) := by decide +kernel
theorem dX7_tell_118 : decode cX7_tell 118 = .ok (.iaload, 1) := by decide +kernel
theorem dX7_tell_119 : decode cX7_tell 119 = .ok (.iadd, 1) := by decide +kernel
theorem dX7_tell_120 : decode cX7_tell 120 = .ok (.istore 8, 2) := by decide +kernel
theorem dX7_tell_122 : decode cX7_tell 122 = .ok (.iload 8, 2) := by decide +kernel
theorem dX7_tell_124 : decode cX7_tell 124 = .ok (.iload 4, 2) := by decide +kernel
theorem dX7_tell_126 : decode cX7_tell 126 = .ok (.if_icmp .ge 10, 3) := by decide +kernel
theorem dX7_tell_129 : decode cX7_tell 129 = .ok (.iload 8, 2) := by decide +kernel
theorem dX7_tell_131 : decode cX7_tell 131 = .ok (.istore 4, 2) := by decide +kernel
theorem dX7_tell_133 : decode cX7_tell 133 = .ok (.iconst 0, 1) := by decide +kernel
theorem dX7_tell_134 : decode cX7_tell 134 = .ok (.istore 5, 2) := by decide +kernel
theorem dX7_tell_136 : decode cX7_tell 136 = .ok (.iload 5, 2) := by decide +kernel
theorem dX7_tell_138 : decode cX7_tell 138 = .ok (.iload 8, 2) := by decide +kernel
theorem dX7_tell_140 : decode cX7_tell 140 = .ok (.iload 4, 2) := by decide +kernel
theorem dX7_tell_142 : decode cX7_tell 142 = .ok (.if_icmp .ne 20, 3) := by decide +kernel
theorem dX7_tell_145 : decode cX7_tell 145 = .ok (.iload 8, 2) := by decide +kernel
theorem dX7_tell_147 : decode cX7_tell 147 = .ok (.ldc 140, 2) := by decide +kernel
theorem dX7_tell_149 : decode cX7_tell 149 = .ok (.if_icmp .ge 13, 3) := by decide +kernel
theorem dX7_tell_152 : decode cX7_tell 152 = .ok (.aload_n 0, 1) := by decide +kernel
theorem dX7_tell_153 : decode cX7_tell 153 = .ok (.getfield 28, 3) := by decide +kernel
theorem dX7_tell_156 : decode cX7_tell 156 = .ok (.iload 7, 2) := by decide +kernel
theorem dX7_tell_158 : decode cX7_tell 158 = .ok (.iaload, 1) := by decide +kernel
theorem dX7_tell_159 : decode cX7_tell 159 = .ok (.goto 4, 3) := by decide +kernel
theorem dX7_tell_162 : decode cX7_tell 162 = .ok (.iconst 0, 1) := by decide +kernel
theorem dX7_tell_163 : decode cX7_tell 163 = .ok (.iadd, 1) := by decide +kernel
theorem dX7_tell_164 : decode cX7_tell 164 = .ok (.istore 5, 2) := by decide +kernel
theorem dX7_tell_166 : decode cX7_tell 166 = .ok (.iload 5, 2) := by decide +kernel
theorem dX7_tell_168 : decode cX7_tell 168 = .ok (.ldc 146, 2) := by decide +kernel
theorem dX7_tell_170 : decode cX7_tell 170 = .ok (.if_icmp .le 8, 3) := by decide +kernel
theorem dX7_tell_173 : decode cX7_tell 173 = .ok (.ldc 146, 2) := by decide +kernel
theorem dX7_tell_175 : decode cX7_tell 175 = .ok (.goto 5, 3) := by decide +kernel
theorem dX7_tell_178 : decode cX7_tell 178 = .ok (.iload 5, 2) := by decide +kernel
theorem dX7_tell_180 : decode cX7_tell 180 = .ok (.istore 5, 2) := by decide +kernel
theorem dX7_tell_182 : decode cX7_tell 182 = .ok (.iinc 6 1, 3) := by decide +kernel
theorem dX7_tell_185 : decode cX7_tell 185 = .ok (.goto (-106), 3) := by decide +kernel
theorem dX7_tell_188 : decode cX7_tell 188 = .ok (.aload_n 0, 1) := by decide +kernel
theorem dX7_tell_189 : decode cX7_tell 189 = .ok (.getfield 25, 3) := by decide +kernel
theorem dX7_tell_192 : decode cX7_tell 192 = .ok (.sipush 2187, 3) := by decide +kernel
theorem dX7_tell_195 : decode cX7_tell 195 = .ok (.iload_n 2, 1) := by decide +kernel
theorem dX7_tell_196 : decode cX7_tell 196 = .ok (.imul, 1) := by decide +kernel
theorem dX7_tell_197 : decode cX7_tell 197 = .ok (.iload_n 3, 1) := by decide +kernel
theorem dX7_tell_198 : decode cX7_tell 198 = .ok (.iadd, 1) := by decide +kernel
theorem dX7_tell_199 : decode cX7_tell 199 = .ok (.iload 4, 2) := by decide +kernel
theorem dX7_tell_201 : decode cX7_tell 201 = .ok (.ldc 140, 2) := by decide +kernel
theorem dX7_tell_203 : decode cX7_tell 203 = .ok (.if_icmp .le 8, 3) := by decide +kernel
theorem dX7_tell_206 : decode cX7_tell 206 = .ok (.ldc 140, 2) := by decide +kernel
theorem dX7_tell_208 : decode cX7_tell 208 = .ok (.goto 5, 3) := by decide +kernel
theorem dX7_tell_211 : decode cX7_tell 211 = .ok (.iload 4, 2) := by decide +kernel
theorem dX7_tell_213 : decode cX7_tell 213 = .ok (.iastore, 1) := by decide +kernel
theorem dX7_tell_214 : decode cX7_tell 214 = .ok (.aload_n 0, 1) := by decide +kernel
theorem dX7_tell_215 : decode cX7_tell 215 = .ok (.getfield 28, 3) := by decide +kernel
theorem dX7_tell_218 : decode cX7_tell 218 = .ok (.sipush 2187, 3) := by decide +kernel
theorem dX7_tell_221 : decode cX7_tell 221 = .ok (.iload_n 2, 1) := by decide +kernel
theorem dX7_tell_222 : decode cX7_tell 222 = .ok (.imul, 1) := by decide +kernel
theorem dX7_tell_223 : decode cX7_tell 223 = .ok (.iload_n 3, 1) := by decide +kernel
theorem dX7_tell_224 : decode cX7_tell 224 = .ok (.iadd, 1) := by decide +kernel
theorem dX7_tell_225 : decode cX7_tell 225 = .ok (.iload 5, 2) := by decide +kernel
theorem dX7_tell_227 : decode cX7_tell 227 = .ok (.iastore, 1) := by decide +kernel
theorem dX7_tell_228 : decode cX7_tell 228 = .ok (.iinc 3 1, 3) := by decide +kernel
theorem dX7_tell_231 : decode cX7_tell 231 = .ok (.goto (-214), 3) := by decide +kernel
theorem dX7_tell_234 : decode cX7_tell 234 = .ok (.iinc 2 (-1), 3) := by decide +kernel
theorem dX7_tell_237 : decode cX7_tell 237 = .ok (.goto (-226), 3) := by decide +kernel
theorem dX7_tell_240 : decode cX7_tell 240 = .ok (.ldc 140, 2) := by decide +kernel
theorem dX7_tell_242 : decode cX7_tell 242 = .ok (.istore_n 2, 1) := by decide +kernel
theorem dX7_tell_243 : decode cX7_tell 243 = .ok (.iconst 0, 1) := by decide +kernel
theorem dX7_tell_244 : decode cX7_tell 244 = .ok (.istore_n 3, 1) := by decide +kernel
theorem dX7_tell_245 : decode cX7_tell 245 = .ok (.iload_n 3, 1) := by decide +kernel
theorem dX7_tell_246 : decode cX7_tell 246 = .ok (.sipush 2187, 3) := by decide +kernel
theorem dX7_tell_249 : decode cX7_tell 249 = .ok (.if_icmp .ge 36, 3) := by decide +kernel
theorem dX7_tell_252 : decode cX7_tell 252 = .ok (.aload_n 0, 1) := by decide +kernel
theorem dX7_tell_253 : decode cX7_tell 253 = .ok (.iload_n 3, 1) := by decide +kernel
theorem dX7_tell_254 : decode cX7_tell 254 = .ok (.invokevirtual 147, 3) := by decide +kernel
theorem dX7_tell_257 : decode cX7_tell 257 = .ok (.aload_n 0, 1) := by decide +kernel
theorem dX7_tell_258 : decode cX7_tell 258 = .ok (.getfield 25, 3) := by decide +kernel
theorem dX7_tell_261 : decode cX7_tell 261 = .ok (.iload_n 3, 1) := by decide +kernel
theorem dX7_tell_262 : decode cX7_tell 262 = .ok (.iaload, 1) := by decide +kernel
theorem dX7_tell_263 : decode cX7_tell 263 = .ok (.iadd, 1) := by decide +kernel
theorem dX7_tell_264 : decode cX7_tell 264 = .ok (.istore 4, 2) := by decide +kernel
theorem dX7_tell_266 : decode cX7_tell 266 = .ok (.iload 4, 2) := by decide +kernel
theorem dX7_tell_268 : decode cX7_tell 268 = .ok (.iload_n 2, 1) := by decide +kernel
theorem dX7_tell_269 : decode cX7_tell 269 = .ok (.if_icmp .ge 8, 3) := by decide +kernel
theorem dX7_tell_272 : decode cX7_tell 272 = .ok (.iload 4, 2) := by decide +kernel
theorem dX7_tell_274 : decode cX7_tell 274 = .ok (.goto 4, 3) := by decide +kernel
theorem dX7_tell_277 : decode cX7_tell 277 = .ok (.iload_n 2, 1) := by decide +kernel
theorem dX7_tell_278 : decode cX7_tell 278 = .ok (.istore_n 2, 1) := by decide +kernel
theorem dX7_tell_279 : decode cX7_tell 279 = .ok (.iinc 3 1, 3) := by decide +kernel
theorem dX7_tell_282 : decode cX7_tell 282 = .ok (.goto (-37), 3) := by decide +kernel
theorem dX7_tell_285 : decode cX7_tell 285 = .ok (.iload_n 2, 1) := by decide +kernel
theorem dX7_tell_286 : decode cX7_tell 286 = .ok (.ireturn, 1) := by decide +kernel
theorem dX7_tellWay_0 : decode cX7_tellWay 0 = .ok (.aload_n 0, 1) := by decide +kernel
theorem dX7_tellWay_1 : decode cX7_tellWay 1 = .ok (.invokevirtual 150, 3) := by decide +kernel
theorem dX7_tellWay_4 : decode cX7_tellWay 4 = .ok (.istore_n 1, 1) := by decide +kernel
theorem dX7_tellWay_5 : decode cX7_tellWay 5 = .ok (.iload_n 1, 1) := by decide +kernel
theorem dX7_tellWay_6 : decode cX7_tellWay 6 = .ok (.ldc 140, 2) := by decide +kernel
theorem dX7_tellWay_8 : decode cX7_tellWay 8 = .ok (.if_icmp .ne 5, 3) := by decide +kernel
theorem dX7_tellWay_11 : decode cX7_tellWay 11 = .ok (.iload_n 1, 1) := by decide +kernel
theorem dX7_tellWay_12 : decode cX7_tellWay 12 = .ok (.ireturn, 1) := by decide +kernel
theorem dX7_tellWay_13 : decode cX7_tellWay 13 = .ok (.iconst 0, 1) := by decide +kernel
theorem dX7_tellWay_14 : decode cX7_tellWay 14 = .ok (.istore_n 2, 1) := by decide +kernel
theorem dX7_tellWay_15 : decode cX7_tellWay 15 = .ok (.aload_n 0, 1) := by decide +kernel
theorem dX7_tellWay_16 : decode cX7_tellWay 16 = .ok (.iload_n 2, 1) := by decide +kernel
theorem dX7_tellWay_17 : decode cX7_tellWay 17 = .ok (.invokevirtual 147, 3) := by decide +kernel
theorem dX7_tellWay_20 : decode cX7_tellWay 20 = .ok (.aload_n 0, 1) := by decide +kernel
theorem dX7_tellWay_21 : decode cX7_tellWay 21 = .ok (.getfield 25, 3) := by decide +kernel
theorem dX7_tellWay_24 : decode cX7_tellWay 24 = .ok (.iload_n 2, 1) := by decide +kernel
theorem dX7_tellWay_25 : decode cX7_tellWay 25 = .ok (.iaload, 1) := by decide +kernel
theorem dX7_tellWay_26 : decode cX7_tellWay 26 = .ok (.iadd, 1) := by decide +kernel
theorem dX7_tellWay_27 : decode cX7_tellWay 27 = .ok (.iload_n 1, 1) := by decide +kernel
theorem dX7_tellWay_28 : decode cX7_tellWay 28 = .ok (.if_icmp .eq 9, 3) := by decide +kernel
theorem dX7_tellWay_31 : decode cX7_tellWay 31 = .ok (.iinc 2 1, 3) := by decide +kernel
theorem dX7_tellWay_34 : decode cX7_tellWay 34 = .ok (.goto (-19), 3) := by decide +kernel
theorem dX7_tellWay_37 : decode cX7_tellWay 37 = .ok (.aload_n 0, 1) := by decide +kernel
theorem dX7_tellWay_38 : decode cX7_tellWay 38 = .ok (.getfield 37, 3) := by decide +kernel
theorem dX7_tellWay_41 : decode cX7_tellWay 41 = .ok (.iconst 0, 1) := by decide +kernel
theorem dX7_tellWay_42 : decode cX7_tellWay 42 = .ok (.iload_n 2, 1) := by decide +kernel
theorem dX7_tellWay_43 : decode cX7_tellWay 43 = .ok (.iastore, 1) := by decide +kernel
theorem dX7_tellWay_44 : decode cX7_tellWay 44 = .ok (.iconst 1, 1) := by decide +kernel
theorem dX7_tellWay_45 : decode cX7_tellWay 45 = .ok (.istore_n 3, 1) := by decide +kernel
theorem dX7_tellWay_46 : decode cX7_tellWay 46 = .ok (.iload_n 3, 1) := by decide +kernel
theorem dX7_tellWay_47 : decode cX7_tellWay 47 = .ok (.aload_n 0, 1) := by decide +kernel
theorem dX7_tellWay_48 : decode cX7_tellWay 48 = .ok (.getfield 7, 3) := by decide +kernel
theorem dX7_tellWay_51 : decode cX7_tellWay 51 = .ok (.iconst 0, 1) := by decide +kernel
theorem dX7_tellWay_52 : decode cX7_tellWay 52 = .ok (.iaload, 1) := by decide +kernel
theorem dX7_tellWay_53 : decode cX7_tellWay 53 = .ok (.if_icmp .ge 143, 3) := by decide +kernel
theorem dX7_tellWay_56 : decode cX7_tellWay 56 = .ok (.aload_n 0, 1) := by decide +kernel
theorem dX7_tellWay_57 : decode cX7_tellWay 57 = .ok (.iload_n 3, 1) := by decide +kernel
theorem dX7_tellWay_58 : decode cX7_tellWay 58 = .ok (.iconst 1, 1) := by decide +kernel
theorem dX7_tellWay_59 : decode cX7_tellWay 59 = .ok (.isub, 1) := by decide +kernel
theorem dX7_tellWay_60 : decode cX7_tellWay 60 = .ok (.aload_n 0, 1) := by decide +kernel
theorem dX7_tellWay_61 : decode cX7_tellWay 61 = .ok (.getfield 37, 3) := by decide +kernel
theorem dX7_tellWay_64 : decode cX7_tellWay 64 = .ok (.iload_n 3, 1) := by decide +kernel
theorem dX7_tellWay_65 : decode cX7_tellWay 65 = .ok (.iconst 1, 1) := by decide +kernel
theorem dX7_tellWay_66 : decode cX7_tellWay 66 = .ok (.isub, 1) := by decide +kernel
theorem dX7_tellWay_67 : decode cX7_tellWay 67 = .ok (.iaload, 1) := by decide +kernel
theorem dX7_tellWay_68 : decode cX7_tellWay 68 = .ok (.invokevirtual 142, 3) := by decide +kernel
theorem dX7_tellWay_71 : decode cX7_tellWay 71 = .ok (.sipush 2187, 3) := by decide +kernel
theorem dX7_tellWay_74 : decode cX7_tellWay 74 = .ok (.istore 4, 2) := by decide +kernel
theorem dX7_tellWay_76 : decode cX7_tellWay 76 = .ok (.iconst 0, 1) := by decide +kernel
theorem dX7_tellWay_77 : decode cX7_tellWay 77 = .ok (.istore 5, 2) := by decide +kernel
theorem dX7_tellWay_79 : decode cX7_tellWay 79 = .ok (.iload 5, 2) := by decide +kernel
theorem dX7_tellWay_81 : decode cX7_tellWay 81 = .ok (.aload_n 0, 1) := by decide +kernel
theorem dX7_tellWay_82 : decode cX7_tellWay 82 = .ok (.getfield 130, 3) := by decide +kernel
theorem dX7_tellWay_85 : decode cX7_tellWay 85 = .ok (.if_icmp .ge 97, 3) := by decide +kernel
theorem dX7_tellWay_88 : decode cX7_tellWay 88 = .ok (.aload_n 0, 1) := by decide +kernel
theorem dX7_tellWay_89 : decode cX7_tellWay 89 = .ok (.getfield 34, 3) := by decide +kernel
theorem dX7_tellWay_92 : decode cX7_tellWay 92 = .ok (.iload 5, 2) := by decide +kernel
theorem dX7_tellWay_94 : decode cX7_tellWay 94 = .ok (.iaload, 1) := by decide +kernel
theorem dX7_tellWay_95 : decode cX7_tellWay 95 = .ok (.aload_n 0, 1) := by decide +kernel
theorem dX7_tellWay_96 : decode cX7_tellWay 96 = .ok (.getfield 25, 3) := by decide +kernel
theorem dX7_tellWay_99 : decode cX7_tellWay 99 = .ok (.sipush 2187, 3) := by decide +kernel
theorem dX7_tellWay_102 : decode cX7_tellWay 102 = .ok (.iload_n 3, 1) := by decide +kernel
theorem dX7_tellWay_103 : decode cX7_tellWay 103 = .ok (.imul, 1) := by decide +kernel
theorem dX7_tellWay_104 : decode cX7_tellWay 104 = .ok (.aload_n 0, 1) := by decide +kernel
theorem dX7_tellWay_105 : decode cX7_tellWay 105 = .ok (.getfield 31, 3) := by decide +kernel
theorem dX7_tellWay_108 : decode cX7_tellWay 108 = .ok (.iload 5, 2) := by decide +kernel
theorem dX7_tellWay_110 : decode cX7_tellWay 110 = .ok (.iaload, 1) := by decide +kernel
theorem dX7_tellWay_111 : decode cX7_tellWay 111 = .ok (.iadd, 1) := by decide +kernel
theorem dX7_tellWay_112 : decode cX7_tellWay 112 = .ok (.iaload, 1) := by decide +kernel
theorem dX7_tellWay_113 : decode cX7_tellWay 113 = .ok (.iadd, 1) := by decide +kernel
theorem dX7_tellWay_114 : decode cX7_tellWay 114 = .ok (.aload_n 0, 1) := by decide +kernel
theorem dX7_tellWay_115 : decode cX7_tellWay 115 = .ok (.getfield 25, 3) := by decide +kernel
theorem dX7_tellWay_118 : decode cX7_tellWay 118 = .ok (.sipush 2187, 3) := by decide +kernel
theorem dX7_tellWay_121 : decode cX7_tellWay 121 = .ok (.iload_n 3, 1) := by decide +kernel
theorem dX7_tellWay_122 : decode cX7_tellWay 122 = .ok (.iconst 1, 1) := by decide +kernel
theorem dX7_tellWay_123 : decode cX7_tellWay 123 = .ok (.isub, 1) := by decide +kernel
theorem dX7_tellWay_124 : decode cX7_tellWay 124 = .ok (.imul, 1) := by decide +kernel
theorem dX7_tellWay_125 : decode cX7_tellWay 125 = .ok (.aload_n 0, 1) := by decide +kernel
theorem dX7_tellWay_126 : decode cX7_tellWay 126 = .ok (.getfield 37, 3) := by decide +kernel
theorem dX7_tellWay_129 : decode cX7_tellWay 129 = .ok (.iload_n 3, 1) := by decide +kernel
theorem dX7_tellWay_130 : decode cX7_tellWay 130 = .ok (.iconst 1, 1) := by decide +kernel
theorem dX7_tellWay_131 : decode cX7_tellWay 131 = .ok (.isub, 1) := by decide +kernel
theorem dX7_tellWay_132 : decode cX7_tellWay 132 = .ok (.iaload, 1) := by decide +kernel
theorem dX7_tellWay_133 : decode cX7_tellWay 133 = .ok (.iadd, 1) := by decide +kernel
theorem dX7_tellWay_134 : decode cX7_tellWay 134 = .ok (.iaload, 1) := by decide +kernel
theorem dX7_tellWay_135 : decode cX7_tellWay 135 = .ok (.if_icmp .ne 7, 3) := by decide +kernel
theorem dX7_tellWay_138 : decode cX7_tellWay 138 = .ok (.iconst 1, 1) := by decide +kernel
theorem dX7_tellWay_139 : decode cX7_tellWay 139 = .ok (.goto 4, 3) := by decide +kernel
theorem dX7_tellWay_142 : decode cX7_tellWay 142 = .ok (.iconst 0, 1) := by decide +kernel
theorem dX7_tellWay_143 : decode cX7_tellWay 143 = .ok (.istore 6, 2) := by decide +kernel
theorem dX7_tellWay_145 : decode cX7_tellWay 145 = .ok (.iload 6, 2) := by decide +kernel
theorem dX7_tellWay_147 : decode cX7_tellWay 147 = .ok (.ifCond .eq 25, 3) := by decide +kernel
theorem dX7_tellWay_150 : decode cX7_tellWay 150 = .ok (.aload_n 0, 1) := by decide +kernel
theorem dX7_tellWay_151 : decode cX7_tellWay 151 = .ok (.getfield 31, 3) := by decide +kernel
theorem dX7_tellWay_154 : decode cX7_tellWay 154 = .ok (.iload 5, 2) := by decide +kernel
theorem dX7_tellWay_156 : decode cX7_tellWay 156 = .ok (.iaload, 1) := by decide +kernel
theorem dX7_tellWay_157 : decode cX7_tellWay 157 = .ok (.iload 4, 2) := by decide +kernel
theorem dX7_tellWay_159 : decode cX7_tellWay 159 = .ok (.if_icmp .ge 13, 3) := by decide +kernel
theorem dX7_tellWay_162 : decode cX7_tellWay 162 = .ok (.aload_n 0, 1) := by decide +kernel
theorem dX7_tellWay_163 : decode cX7_tellWay 163 = .ok (.getfield 31, 3) := by decide +kernel
theorem dX7_tellWay_166 : decode cX7_tellWay 166 = .ok (.iload 5, 2) := by decide +kernel
theorem dX7_tellWay_168 : decode cX7_tellWay 168 = .ok (.iaload, 1) := by decide +kernel
theorem dX7_tellWay_169 : decode cX7_tellWay 169 = .ok (.goto 5, 3) := by decide +kernel
theorem dX7_tellWay_172 : decode cX7_tellWay 172 = .ok (.iload 4, 2) := by decide +kernel
theorem dX7_tellWay_174 : decode cX7_tellWay 174 = .ok (.istore 4, 2) := by decide +kernel
theorem dX7_tellWay_176 : decode cX7_tellWay 176 = .ok (.iinc 5 1, 3) := by decide +kernel
theorem dX7_tellWay_179 : decode cX7_tellWay 179 = .ok (.goto (-100), 3) := by decide +kernel
theorem dX7_tellWay_182 : decode cX7_tellWay 182 = .ok (.aload_n 0, 1) := by decide +kernel
theorem dX7_tellWay_183 : decode cX7_tellWay 183 = .ok (.getfield 37, 3) := by decide +kernel
theorem dX7_tellWay_186 : decode cX7_tellWay 186 = .ok (.iload_n 3, 1) := by decide +kernel
theorem dX7_tellWay_187 : decode cX7_tellWay 187 = .ok (.iload 4, 2) := by decide +kernel
theorem dX7_tellWay_189 : decode cX7_tellWay 189 = .ok (.iastore, 1) := by decide +kernel
theorem dX7_tellWay_190 : decode cX7_tellWay 190 = .ok (.iinc 3 1, 3) := by decide +kernel
theorem dX7_tellWay_193 : decode cX7_tellWay 193 = .ok (.goto (-147), 3) := by decide +kernel
theorem dX7_tellWay_196 : decode cX7_tellWay 196 = .ok (.iload_n 1, 1) := by decide +kernel
theorem dX7_tellWay_197 : decode cX7_tellWay 197 = .ok (.ireturn, 1) := by decide +kernel
theorem dX7_moves_0 : decode cX7_moves 0 = .ok (.aload_n 0, 1) := by decide +kernel
theorem dX7_moves_1 : decode cX7_moves 1 = .ok (.invokevirtual 150, 3) := by decide +kernel
theorem dX7_moves_4 : decode cX7_moves 4 = .ok (.istore_n 1, 1) := by decide +kernel
theorem dX7_moves_5 : decode cX7_moves 5 = .ok (.iload_n 1, 1) := by decide +kernel
theorem dX7_moves_6 : decode cX7_moves 6 = .ok (.ldc 140, 2) := by decide +kernel
theorem dX7_moves_8 : decode cX7_moves 8 = .ok (.if_icmp .ne 12, 3) := by decide +kernel
theorem dX7_moves_11 : decode cX7_moves 11 = .ok (.aload_n 0, 1) := by decide +kernel
theorem dX7_moves_12 : decode cX7_moves 12 = .ok (.ldc 71, 2) := by decide +kernel
theorem dX7_moves_14 : decode cX7_moves 14 = .ok (.invokevirtual 72, 3) := by decide +kernel
theorem dX7_moves_17 : decode cX7_moves 17 = .ok (.goto 4, 3) := by decide +kernel
theorem dX7_moves_20 : decode cX7_moves 20 = .ok (.iload_n 1, 1) := by decide +kernel
theorem dX7_moves_21 : decode cX7_moves 21 = .ok (.ireturn, 1) := by decide +kernel
theorem dX7_diagram_0 : decode cX7_diagram 0 = .ok (.aload_n 0, 1) := by decide +kernel
theorem dX7_diagram_1 : decode cX7_diagram 1 = .ok (.iload_n 1, 1) := by decide +kernel
theorem dX7_diagram_2 : decode cX7_diagram 2 = .ok (.invokevirtual 153, 3) := by decide +kernel
theorem dX7_diagram_5 : decode cX7_diagram 5 = .ok (.ifCond .ne 10, 3) := by decide +kernel
theorem dX7_diagram_8 : decode cX7_diagram 8 = .ok (.aload_n 0, 1) := by decide +kernel
theorem dX7_diagram_9 : decode cX7_diagram 9 = .ok (.ldc 83, 2) := by decide +kernel
theorem dX7_diagram_11 : decode cX7_diagram 11 = .ok (.invokevirtual 72, 3) := by decide +kernel
theorem dX7_diagram_14 : decode cX7_diagram 14 = .ok (.ireturn, 1) := by decide +kernel
theorem dX7_diagram_15 : decode cX7_diagram 15 = .ok (.aload_n 0, 1) := by decide +kernel
theorem dX7_diagram_16 : decode cX7_diagram 16 = .ok (.invokevirtual 156, 3) := by decide +kernel
theorem dX7_diagram_19 : decode cX7_diagram 19 = .ok (.ldc 140, 2) := by decide +kernel
theorem dX7_diagram_21 : decode cX7_diagram 21 = .ok (.if_icmp .ne 12, 3) := by decide +kernel
theorem dX7_diagram_24 : decode cX7_diagram 24 = .ok (.aload_n 0, 1) := by decide +kernel
theorem dX7_diagram_25 : decode cX7_diagram 25 = .ok (.ldc 71, 2) := by decide +kernel
theorem dX7_diagram_27 : decode cX7_diagram 27 = .ok (.invokevirtual 72, 3) := by decide +kernel
theorem dX7_diagram_30 : decode cX7_diagram 30 = .ok (.goto 9, 3) := by decide +kernel
theorem dX7_diagram_33 : decode cX7_diagram 33 = .ok (.aload_n 0, 1) := by decide +kernel
theorem dX7_diagram_34 : decode cX7_diagram 34 = .ok (.getfield 37, 3) := by decide +kernel
theorem dX7_diagram_37 : decode cX7_diagram 37 = .ok (.iload_n 1, 1) := by decide +kernel
theorem dX7_diagram_38 : decode cX7_diagram 38 = .ok (.iaload, 1) := by decide +kernel
theorem dX7_diagram_39 : decode cX7_diagram 39 = .ok (.ireturn, 1) := by decide +kernel
theorem dX7_stand_0 : decode cX7_stand 0 = .ok (.aload_n 0, 1) := by decide +kernel
theorem dX7_stand_1 : decode cX7_stand 1 = .ok (.iload_n 1, 1) := by decide +kernel
theorem dX7_stand_2 : decode cX7_stand 2 = .ok (.invokevirtual 153, 3) := by decide +kernel
theorem dX7_stand_5 : decode cX7_stand 5 = .ok (.ifCond .eq 10, 3) := by decide +kernel
theorem dX7_stand_8 : decode cX7_stand 8 = .ok (.iload_n 2, 1) := by decide +kernel
theorem dX7_stand_9 : decode cX7_stand 9 = .ok (.invokestatic 103, 3) := by decide +kernel
theorem dX7_stand_12 : decode cX7_stand 12 = .ok (.ifCond .ne 10, 3) := by decide +kernel
theorem dX7_stand_15 : decode cX7_stand 15 = .ok (.aload_n 0, 1) := by decide +kernel
theorem dX7_stand_16 : decode cX7_stand 16 = .ok (.ldc 83, 2) := by decide +kernel
theorem dX7_stand_18 : decode cX7_stand 18 = .ok (.invokevirtual 72, 3) := by decide +kernel
theorem dX7_stand_21 : decode cX7_stand 21 = .ok (.ireturn, 1) := by decide +kernel
theorem dX7_stand_22 : decode cX7_stand 22 = .ok (.aload_n 0, 1) := by decide +kernel
theorem dX7_stand_23 : decode cX7_stand 23 = .ok (.invokevirtual 156, 3) := by decide +kernel
theorem dX7_stand_26 : decode cX7_stand 26 = .ok (.ldc 140, 2) := by decide +kernel
theorem dX7_stand_28 : decode cX7_stand 28 = .ok (.if_icmp .ne 12, 3) := by decide +kernel
theorem dX7_stand_31 : decode cX7_stand 31 = .ok (.aload_n 0, 1) := by decide +kernel
theorem dX7_stand_32 : decode cX7_stand 32 = .ok (.ldc 71, 2) := by decide +kernel
theorem dX7_stand_34 : decode cX7_stand 34 = .ok (.invokevirtual 72, 3) := by decide +kernel
theorem dX7_stand_37 : decode cX7_stand 37 = .ok (.goto 13, 3) := by decide +kernel
theorem dX7_stand_40 : decode cX7_stand 40 = .ok (.aload_n 0, 1) := by decide +kernel
theorem dX7_stand_41 : decode cX7_stand 41 = .ok (.getfield 37, 3) := by decide +kernel
theorem dX7_stand_44 : decode cX7_stand 44 = .ok (.iload_n 1, 1) := by decide +kernel
theorem dX7_stand_45 : decode cX7_stand 45 = .ok (.iaload, 1) := by decide +kernel
theorem dX7_stand_46 : decode cX7_stand 46 = .ok (.iload_n 2, 1) := by decide +kernel
theorem dX7_stand_47 : decode cX7_stand 47 = .ok (.invokestatic 112, 3) := by decide +kernel
theorem dX7_stand_50 : decode cX7_stand 50 = .ok (.ireturn, 1) := by decide +kernel
theorem dX7_foot_0 : decode cX7_foot 0 = .ok (.aload_n 0, 1) := by decide +kernel
theorem dX7_foot_1 : decode cX7_foot 1 = .ok (.iload_n 1, 1) := by decide +kernel
theorem dX7_foot_2 : decode cX7_foot 2 = .ok (.invokevirtual 153, 3) := by decide +kernel
theorem dX7_foot_5 : decode cX7_foot 5 = .ok (.ifCond .ne 10, 3) := by decide +kernel
theorem dX7_foot_8 : decode cX7_foot 8 = .ok (.aload_n 0, 1) := by decide +kernel
theorem dX7_foot_9 : decode cX7_foot 9 = .ok (.ldc 83, 2) := by decide +kernel
theorem dX7_foot_11 : decode cX7_foot 11 = .ok (.invokevirtual 72, 3) := by decide +kernel
theorem dX7_foot_14 : decode cX7_foot 14 = .ok (.ireturn, 1) := by decide +kernel
theorem dX7_foot_15 : decode cX7_foot 15 = .ok (.aload_n 0, 1) := by decide +kernel
theorem dX7_foot_16 : decode cX7_foot 16 = .ok (.invokevirtual 156, 3) := by decide +kernel
theorem dX7_foot_19 : decode cX7_foot 19 = .ok (.ldc 140, 2) := by decide +kernel
theorem dX7_foot_21 : decode cX7_foot 21 = .ok (.if_icmp .ne 10, 3) := by decide +kernel
theorem dX7_foot_24 : decode cX7_foot 24 = .ok (.aload_n 0, 1) := by decide +kernel
theorem dX7_foot_25 : decode cX7_foot 25 = .ok (.ldc 71, 2) := by decide +kernel
theorem dX7_foot_27 : decode cX7_foot 27 = .ok (.invokevirtual 72, 3) := by decide +kernel
theorem dX7_foot_30 : decode cX7_foot 30 = .ok (.ireturn, 1) := by decide +kernel
theorem dX7_foot_31 : decode cX7_foot 31 = .ok (.iload_n 2, 1) := by decide +kernel
theorem dX7_foot_32 : decode cX7_foot 32 = .ok (.ifCond .eq 7, 3) := by decide +kernel
theorem dX7_foot_35 : decode cX7_foot 35 = .ok (.iconst 3, 1) := by decide +kernel
theorem dX7_foot_36 : decode cX7_foot 36 = .ok (.goto 4, 3) := by decide +kernel
theorem dX7_foot_39 : decode cX7_foot 39 = .ok (.iconst 0, 1) := by decide +kernel
theorem dX7_foot_40 : decode cX7_foot 40 = .ok (.istore_n 3, 1) := by decide +kernel
theorem dX7_foot_41 : decode cX7_foot 41 = .ok (.iload_n 3, 1) := by decide +kernel
theorem dX7_foot_42 : decode cX7_foot 42 = .ok (.iload_n 2, 1) := by decide +kernel
theorem dX7_foot_43 : decode cX7_foot 43 = .ok (.ifCond .eq 8, 3) := by decide +kernel
theorem dX7_foot_46 : decode cX7_foot 46 = .ok (.bipush 7, 2) := by decide +kernel
theorem dX7_foot_48 : decode cX7_foot 48 = .ok (.goto 4, 3) := by decide +kernel
theorem dX7_foot_51 : decode cX7_foot 51 = .ok (.iconst 3, 1) := by decide +kernel
theorem dX7_foot_52 : decode cX7_foot 52 = .ok (.if_icmp .ge 73, 3) := by decide +kernel
theorem dX7_foot_55 : decode cX7_foot 55 = .ok (.getstatic 133, 3) := by decide +kernel
theorem dX7_foot_58 : decode cX7_foot 58 = .ok (.iload_n 3, 1) := by decide +kernel
theorem dX7_foot_59 : decode cX7_foot 59 = .ok (.iaload, 1) := by decide +kernel
theorem dX7_foot_60 : decode cX7_foot 60 = .ok (.istore 4, 2) := by decide +kernel
theorem dX7_foot_62 : decode cX7_foot 62 = .ok (.iload_n 1, 1) := by decide +kernel
theorem dX7_foot_63 : decode cX7_foot 63 = .ok (.ifCond .ne 17, 3) := by decide +kernel
theorem dX7_foot_66 : decode cX7_foot 66 = .ok (.aload_n 0, 1) := by decide +kernel
theorem dX7_foot_67 : decode cX7_foot 67 = .ok (.getfield 7, 3) := by decide +kernel
theorem dX7_foot_70 : decode cX7_foot 70 = .ok (.sipush 313, 3) := by decide +kernel
theorem dX7_foot_73 : decode cX7_foot 73 = .ok (.iload 4, 2) := by decide +kernel
theorem dX7_foot_75 : decode cX7_foot 75 = .ok (.iadd, 1) := by decide +kernel
theorem dX7_foot_76 : decode cX7_foot 76 = .ok (.iaload, 1) := by decide +kernel
theorem dX7_foot_77 : decode cX7_foot 77 = .ok (.goto 16, 3) := by decide +kernel
theorem dX7_foot_80 : decode cX7_foot 80 = .ok (.aload_n 0, 1) := by decide +kernel
theorem dX7_foot_81 : decode cX7_foot 81 = .ok (.getfield 37, 3) := by decide +kernel
theorem dX7_foot_84 : decode cX7_foot 84 = .ok (.iload_n 1, 1) := by decide +kernel
theorem dX7_foot_85 : decode cX7_foot 85 = .ok (.iconst 1, 1) := by decide +kernel
theorem dX7_foot_86 : decode cX7_foot 86 = .ok (.isub, 1) := by decide +kernel
theorem dX7_foot_87 : decode cX7_foot 87 = .ok (.iaload, 1) := by decide +kernel
theorem dX7_foot_88 : decode cX7_foot 88 = .ok (.iload 4, 2) := by decide +kernel
theorem dX7_foot_90 : decode cX7_foot 90 = .ok (.invokestatic 112, 3) := by decide +kernel
theorem dX7_foot_93 : decode cX7_foot 93 = .ok (.istore 5, 2) := by decide +kernel
theorem dX7_foot_95 : decode cX7_foot 95 = .ok (.iload 5, 2) := by decide +kernel
theorem dX7_foot_97 : decode cX7_foot 97 = .ok (.ifCond .lt 22, 3) := by decide +kernel
theorem dX7_foot_100 : decode cX7_foot 100 = .ok (.iload 5, 2) := by decide +kernel
theorem dX7_foot_102 : decode cX7_foot 102 = .ok (.aload_n 0, 1) := by decide +kernel
theorem dX7_foot_103 : decode cX7_foot 103 = .ok (.getfield 37, 3) := by decide +kernel
theorem dX7_foot_106 : decode cX7_foot 106 = .ok (.iload_n 1, 1) := by decide +kernel
theorem dX7_foot_107 : decode cX7_foot 107 = .ok (.iaload, 1) := by decide +kernel
theorem dX7_foot_108 : decode cX7_foot 108 = .ok (.iload 4, 2) := by decide +kernel
theorem dX7_foot_110 : decode cX7_foot 110 = .ok (.invokestatic 112, 3) := by decide +kernel
theorem dX7_foot_113 : decode cX7_foot 113 = .ok (.if_icmp .eq 6, 3) := by decide +kernel
theorem dX7_foot_116 : decode cX7_foot 116 = .ok (.iload 4, 2) := by decide +kernel
theorem dX7_foot_118 : decode cX7_foot 118 = .ok (.ireturn, 1) := by decide +kernel
theorem dX7_foot_119 : decode cX7_foot 119 = .ok (.iinc 3 1, 3) := by decide +kernel
theorem dX7_foot_122 : decode cX7_foot 122 = .ok (.goto (-81), 3) := by decide +kernel
theorem dX7_foot_125 : decode cX7_foot 125 = .ok (.iconst (-1), 1) := by decide +kernel
theorem dX7_foot_126 : decode cX7_foot 126 = .ok (.ireturn, 1) := by decide +kernel
theorem dX7_ways_0 : decode cX7_ways 0 = .ok (.aload_n 0, 1) := by decide +kernel
theorem dX7_ways_1 : decode cX7_ways 1 = .ok (.invokevirtual 150, 3) := by decide +kernel
theorem dX7_ways_4 : decode cX7_ways 4 = .ok (.istore_n 1, 1) := by decide +kernel
theorem dX7_ways_5 : decode cX7_ways 5 = .ok (.iload_n 1, 1) := by decide +kernel
theorem dX7_ways_6 : decode cX7_ways 6 = .ok (.ldc 140, 2) := by decide +kernel
theorem dX7_ways_8 : decode cX7_ways 8 = .ok (.if_icmp .ne 10, 3) := by decide +kernel
theorem dX7_ways_11 : decode cX7_ways 11 = .ok (.aload_n 0, 1) := by decide +kernel
theorem dX7_ways_12 : decode cX7_ways 12 = .ok (.ldc 71, 2) := by decide +kernel
theorem dX7_ways_14 : decode cX7_ways 14 = .ok (.invokevirtual 72, 3) := by decide +kernel
theorem dX7_ways_17 : decode cX7_ways 17 = .ok (.ireturn, 1) := by decide +kernel
theorem dX7_ways_18 : decode cX7_ways 18 = .ok (.iconst 0, 1) := by decide +kernel
theorem dX7_ways_19 : decode cX7_ways 19 = .ok (.istore_n 2, 1) := by decide +kernel
theorem dX7_ways_20 : decode cX7_ways 20 = .ok (.iconst 0, 1) := by decide +kernel
theorem dX7_ways_21 : decode cX7_ways 21 = .ok (.istore_n 3, 1) := by decide +kernel
theorem dX7_ways_22 : decode cX7_ways 22 = .ok (.iload_n 3, 1) := by decide +kernel
theorem dX7_ways_23 : decode cX7_ways 23 = .ok (.sipush 2187, 3) := by decide +kernel
theorem dX7_ways_26 : decode cX7_ways 26 = .ok (.if_icmp .ge 51, 3) := by decide +kernel
theorem dX7_ways_29 : decode cX7_ways 29 = .ok (.iload_n 2, 1) := by decide +kernel
theorem dX7_ways_30 : decode cX7_ways 30 = .ok (.aload_n 0, 1) := by decide +kernel
theorem dX7_ways_31 : decode cX7_ways 31 = .ok (.iload_n 3, 1) := by decide +kernel
theorem dX7_ways_32 : decode cX7_ways 32 = .ok (.invokevirtual 147, 3) := by decide +kernel
theorem dX7_ways_35 : decode cX7_ways 35 = .ok (.aload_n 0, 1) := by decide +kernel
theorem dX7_ways_36 : decode cX7_ways 36 = .ok (.getfield 25, 3) := by decide +kernel
theorem dX7_ways_39 : decode cX7_ways 39 = .ok (.iload_n 3, 1) := by decide +kernel
theorem dX7_ways_40 : decode cX7_ways 40 = .ok (.iaload, 1) := by decide +kernel
theorem dX7_ways_41 : decode cX7_ways 41 = .ok (.iadd, 1) := by decide +kernel
theorem dX7_ways_42 : decode cX7_ways 42 = .ok (.iload_n 1, 1) := by decide +kernel
theorem dX7_ways_43 : decode cX7_ways 43 = .ok (.if_icmp .ne 12, 3) := by decide +kernel
theorem dX7_ways_46 : decode cX7_ways 46 = .ok (.aload_n 0, 1) := by decide +kernel
theorem dX7_ways_47 : decode cX7_ways 47 = .ok (.getfield 28, 3) := by decide +kernel
theorem dX7_ways_50 : decode cX7_ways 50 = .ok (.iload_n 3, 1) := by decide +kernel
theorem dX7_ways_51 : decode cX7_ways 51 = .ok (.iaload, 1) := by decide +kernel
theorem dX7_ways_52 : decode cX7_ways 52 = .ok (.goto 4, 3) := by decide +kernel
theorem dX7_ways_55 : decode cX7_ways 55 = .ok (.iconst 0, 1) := by decide +kernel
theorem dX7_ways_56 : decode cX7_ways 56 = .ok (.iadd, 1) := by decide +kernel
theorem dX7_ways_57 : decode cX7_ways 57 = .ok (.istore_n 2, 1) := by decide +kernel
theorem dX7_ways_58 : decode cX7_ways 58 = .ok (.iload_n 2, 1) := by decide +kernel
theorem dX7_ways_59 : decode cX7_ways 59 = .ok (.ldc 146, 2) := by decide +kernel
theorem dX7_ways_61 : decode cX7_ways 61 = .ok (.if_icmp .le 8, 3) := by decide +kernel
theorem dX7_ways_64 : decode cX7_ways 64 = .ok (.ldc 146, 2) := by decide +kernel
theorem dX7_ways_66 : decode cX7_ways 66 = .ok (.goto 4, 3) := by decide +kernel
theorem dX7_ways_69 : decode cX7_ways 69 = .ok (.iload_n 2, 1) := by decide +kernel
theorem dX7_ways_70 : decode cX7_ways 70 = .ok (.istore_n 2, 1) := by decide +kernel
theorem dX7_ways_71 : decode cX7_ways 71 = .ok (.iinc 3 1, 3) := by decide +kernel
theorem dX7_ways_74 : decode cX7_ways 74 = .ok (.goto (-52), 3) := by decide +kernel
theorem dX7_ways_77 : decode cX7_ways 77 = .ok (.iload_n 2, 1) := by decide +kernel
theorem dX7_ways_78 : decode cX7_ways 78 = .ok (.ireturn, 1) := by decide +kernel
theorem dX7_stuck_0 : decode cX7_stuck 0 = .ok (.iconst 0, 1) := by decide +kernel
theorem dX7_stuck_1 : decode cX7_stuck 1 = .ok (.istore_n 1, 1) := by decide +kernel
theorem dX7_stuck_2 : decode cX7_stuck 2 = .ok (.iload_n 1, 1) := by decide +kernel
theorem dX7_stuck_3 : decode cX7_stuck 3 = .ok (.sipush 2187, 3) := by decide +kernel
theorem dX7_stuck_6 : decode cX7_stuck 6 = .ok (.if_icmp .ge 30, 3) := by decide +kernel
theorem dX7_stuck_9 : decode cX7_stuck 9 = .ok (.aload_n 0, 1) := by decide +kernel
theorem dX7_stuck_10 : decode cX7_stuck 10 = .ok (.getfield 44, 3) := by decide +kernel
theorem dX7_stuck_13 : decode cX7_stuck 13 = .ok (.iload_n 1, 1) := by decide +kernel
theorem dX7_stuck_14 : decode cX7_stuck 14 = .ok (.aload_n 0, 1) := by decide +kernel
theorem dX7_stuck_15 : decode cX7_stuck 15 = .ok (.iload_n 1, 1) := by decide +kernel
theorem dX7_stuck_16 : decode cX7_stuck 16 = .ok (.invokevirtual 147, 3) := by decide +kernel
theorem dX7_stuck_19 : decode cX7_stuck 19 = .ok (.ldc 140, 2) := by decide +kernel
theorem dX7_stuck_21 : decode cX7_stuck 21 = .ok (.if_icmp .ge 7, 3) := by decide +kernel
theorem dX7_stuck_24 : decode cX7_stuck 24 = .ok (.iconst 1, 1) := by decide +kernel
theorem dX7_stuck_25 : decode cX7_stuck 25 = .ok (.goto 4, 3) := by decide +kernel
theorem dX7_stuck_28 : decode cX7_stuck 28 = .ok (.iconst 0, 1) := by decide +kernel
theorem dX7_stuck_29 : decode cX7_stuck 29 = .ok (.bastore, 1) := by decide +kernel
theorem dX7_stuck_30 : decode cX7_stuck 30 = .ok (.iinc 1 1, 3) := by decide +kernel
theorem dX7_stuck_33 : decode cX7_stuck 33 = .ok (.goto (-31), 3) := by decide +kernel
theorem dX7_stuck_36 : decode cX7_stuck 36 = .ok (.iconst 0, 1) := by decide +kernel
theorem dX7_stuck_37 : decode cX7_stuck 37 = .ok (.istore_n 1, 1) := by decide +kernel
theorem dX7_stuck_38 : decode cX7_stuck 38 = .ok (.iload_n 1, 1) := by decide +kernel
theorem dX7_stuck_39 : decode cX7_stuck 39 = .ok (.aload_n 0, 1) := by decide +kernel
theorem dX7_stuck_40 : decode cX7_stuck 40 = .ok (.getfield 7, 3) := by decide +kernel
theorem dX7_stuck_43 : decode cX7_stuck 43 = .ok (.iconst 0, 1) := by decide +kernel
theorem dX7_stuck_44 : decode cX7_stuck 44 = .ok (.iaload, 1) := by decide +kernel
theorem dX7_stuck_45 : decode cX7_stuck 45 = .ok (.if_icmp .ge 138, 3) := by decide +kernel
theorem dX7_stuck_48 : decode cX7_stuck 48 = .ok (.iconst 0, 1) := by decide +kernel
theorem dX7_stuck_49 : decode cX7_stuck 49 = .ok (.istore_n 2, 1) := by decide +kernel
theorem dX7_stuck_50 : decode cX7_stuck 50 = .ok (.iconst 0, 1) := by decide +kernel
theorem dX7_stuck_51 : decode cX7_stuck 51 = .ok (.istore_n 3, 1) := by decide +kernel
theorem dX7_stuck_52 : decode cX7_stuck 52 = .ok (.iload_n 3, 1) := by decide +kernel
theorem dX7_stuck_53 : decode cX7_stuck 53 = .ok (.sipush 2187, 3) := by decide +kernel
theorem dX7_stuck_56 : decode cX7_stuck 56 = .ok (.if_icmp .ge 54, 3) := by decide +kernel
theorem dX7_stuck_59 : decode cX7_stuck 59 = .ok (.aload_n 0, 1) := by decide +kernel
theorem dX7_stuck_60 : decode cX7_stuck 60 = .ok (.getfield 40, 3) := by decide +kernel
theorem dX7_stuck_63 : decode cX7_stuck 63 = .ok (.iload_n 3, 1) := by decide +kernel
theorem dX7_stuck_64 : decode cX7_stuck 64 = .ok (.aload_n 0, 1) := by decide +kernel
theorem dX7_stuck_65 : decode cX7_stuck 65 = .ok (.getfield 44, 3) := by decide +kernel
theorem dX7_stuck_68 : decode cX7_stuck 68 = .ok (.iload_n 3, 1) := by decide +kernel
theorem dX7_stuck_69 : decode cX7_stuck 69 = .ok (.baload, 1) := by decide +kernel
theorem dX7_stuck_70 : decode cX7_stuck 70 = .ok (.ifCond .eq 16, 3) := by decide +kernel
theorem dX7_stuck_73 : decode cX7_stuck 73 = .ok (.aload_n 0, 1) := by decide +kernel
theorem dX7_stuck_74 : decode cX7_stuck 74 = .ok (.iload_n 1, 1) := by decide +kernel
theorem dX7_stuck_75 : decode cX7_stuck 75 = .ok (.iload_n 3, 1) := by decide +kernel
theorem dX7_stuck_76 : decode cX7_stuck 76 = .ok (.invokevirtual 124, 3) := by decide +kernel
theorem dX7_stuck_79 : decode cX7_stuck 79 = .ok (.ifCond .eq 7, 3) := by decide +kernel
theorem dX7_stuck_82 : decode cX7_stuck 82 = .ok (.iconst 1, 1) := by decide +kernel
theorem dX7_stuck_83 : decode cX7_stuck 83 = .ok (.goto 4, 3) := by decide +kernel
theorem dX7_stuck_86 : decode cX7_stuck 86 = .ok (.iconst 0, 1) := by decide +kernel
theorem dX7_stuck_87 : decode cX7_stuck 87 = .ok (.bastore, 1) := by decide +kernel
theorem dX7_stuck_88 : decode cX7_stuck 88 = .ok (.iload_n 2, 1) := by decide +kernel
theorem dX7_stuck_89 : decode cX7_stuck 89 = .ok (.aload_n 0, 1) := by decide +kernel
theorem dX7_stuck_90 : decode cX7_stuck 90 = .ok (.getfield 40, 3) := by decide +kernel
theorem dX7_stuck_93 : decode cX7_stuck 93 = .ok (.iload_n 3, 1) := by decide +kernel
theorem dX7_stuck_94 : decode cX7_stuck 94 = .ok (.baload, 1) := by decide +kernel
theorem dX7_stuck_95 : decode cX7_stuck 95 = .ok (.ior, 1) := by decide +kernel
theorem dX7_stuck_96 : decode cX7_stuck 96 = .ok (.istore_n 2, 1) := by decide +kernel
theorem dX7_stuck_97 : decode cX7_stuck 97 = .ok (.aload_n 0, 1) := by decide +kernel
theorem dX7_stuck_98 : decode cX7_stuck 98 = .ok (.getfield 44, 3) := by decide +kernel
theorem dX7_stuck_101 : decode cX7_stuck 101 = .ok (.iload_n 3, 1) := by decide +kernel
theorem dX7_stuck_102 : decode cX7_stuck 102 = .ok (.iconst 0, 1) := by decide +kernel
theorem dX7_stuck_103 : decode cX7_stuck 103 = .ok (.bastore, 1) := by decide +kernel
theorem dX7_stuck_104 : decode cX7_stuck 104 = .ok (.iinc 3 1, 3) := by decide +kernel
theorem dX7_stuck_107 : decode cX7_stuck 107 = .ok (.goto (-55), 3) := by decide +kernel
theorem dX7_stuck_110 : decode cX7_stuck 110 = .ok (.iload_n 2, 1) := by decide +kernel
theorem dX7_stuck_111 : decode cX7_stuck 111 = .ok (.ifCond .ne 5, 3) := by decide +kernel
theorem dX7_stuck_114 : decode cX7_stuck 114 = .ok (.iload_n 1, 1) := by decide +kernel
theorem dX7_stuck_115 : decode cX7_stuck 115 = .ok (.ireturn, 1) := by decide +kernel
theorem dX7_stuck_116 : decode cX7_stuck 116 = .ok (.iconst 0, 1) := by decide +kernel
theorem dX7_stuck_117 : decode cX7_stuck 117 = .ok (.istore_n 3, 1) := by decide +kernel
theorem dX7_stuck_118 : decode cX7_stuck 118 = .ok (.iload_n 3, 1) := by decide +kernel
theorem dX7_stuck_119 : decode cX7_stuck 119 = .ok (.sipush 2187, 3) := by decide +kernel
theorem dX7_stuck_122 : decode cX7_stuck 122 = .ok (.if_icmp .ge 55, 3) := by decide +kernel
theorem dX7_stuck_125 : decode cX7_stuck 125 = .ok (.aload_n 0, 1) := by decide +kernel
theorem dX7_stuck_126 : decode cX7_stuck 126 = .ok (.getfield 40, 3) := by decide +kernel
theorem dX7_stuck_129 : decode cX7_stuck 129 = .ok (.iload_n 3, 1) := by decide +kernel
theorem dX7_stuck_130 : decode cX7_stuck 130 = .ok (.baload, 1) := by decide +kernel
theorem dX7_stuck_131 : decode cX7_stuck 131 = .ok (.ifCond .eq 40, 3) := by decide +kernel
theorem dX7_stuck_134 : decode cX7_stuck 134 = .ok (.aload_n 0, 1) := by decide +kernel
theorem dX7_stuck_135 : decode cX7_stuck 135 = .ok (.iload_n 1, 1) := by decide +kernel
theorem dX7_stuck_136 : decode cX7_stuck 136 = .ok (.iload_n 3, 1) := by decide +kernel
theorem dX7_stuck_137 : decode cX7_stuck 137 = .ok (.invokevirtual 142, 3) := by decide +kernel
theorem dX7_stuck_140 : decode cX7_stuck 140 = .ok (.iconst 0, 1) := by decide +kernel
theorem dX7_stuck_141 : decode cX7_stuck 141 = .ok (.istore 4, 2) := by decide +kernel
theorem dX7_stuck_143 : decode cX7_stuck 143 = .ok (.iload 4, 2) := by decide +kernel
theorem dX7_stuck_145 : decode cX7_stuck 145 = .ok (.aload_n 0, 1) := by decide +kernel
theorem dX7_stuck_146 : decode cX7_stuck 146 = .ok (.getfield 130, 3) := by decide +kernel
theorem dX7_stuck_149 : decode cX7_stuck 149 = .ok (.if_icmp .ge 22, 3) := by decide +kernel
theorem dX7_stuck_152 : decode cX7_stuck 152 = .ok (.aload_n 0, 1) := by decide +kernel
theorem dX7_stuck_153 : decode cX7_stuck 153 = .ok (.getfield 44, 3) := by decide +kernel
theorem dX7_stuck_156 : decode cX7_stuck 156 = .ok (.aload_n 0, 1) := by decide +kernel
theorem dX7_stuck_157 : decode cX7_stuck 157 = .ok (.getfield 31, 3) := by decide +kernel
theorem dX7_stuck_160 : decode cX7_stuck 160 = .ok (.iload 4, 2) := by decide +kernel
theorem dX7_stuck_162 : decode cX7_stuck 162 = .ok (.iaload, 1) := by decide +kernel
theorem dX7_stuck_163 : decode cX7_stuck 163 = .ok (.iconst 1, 1) := by decide +kernel
theorem dX7_stuck_164 : decode cX7_stuck 164 = .ok (.bastore, 1) := by decide +kernel
theorem dX7_stuck_165 : decode cX7_stuck 165 = .ok (.iinc 4 1, 3) := by decide +kernel
theorem dX7_stuck_168 : decode cX7_stuck 168 = .ok (.goto (-25), 3) := by decide +kernel
theorem dX7_stuck_171 : decode cX7_stuck 171 = .ok (.iinc 3 1, 3) := by decide +kernel
theorem dX7_stuck_174 : decode cX7_stuck 174 = .ok (.goto (-56), 3) := by decide +kernel
theorem dX7_stuck_177 : decode cX7_stuck 177 = .ok (.iinc 1 1, 3) := by decide +kernel
theorem dX7_stuck_180 : decode cX7_stuck 180 = .ok (.goto (-142), 3) := by decide +kernel
theorem dX7_stuck_183 : decode cX7_stuck 183 = .ok (.iconst (-1), 1) := by decide +kernel
theorem dX7_stuck_184 : decode cX7_stuck 184 = .ok (.ireturn, 1) := by decide +kernel
theorem dX7_without_0 : decode cX7_without 0 = .ok (.iload_n 1, 1) := by decide +kernel
theorem dX7_without_1 : decode cX7_without 1 = .ok (.invokestatic 64, 3) := by decide +kernel
theorem dX7_without_4 : decode cX7_without 4 = .ok (.ifCond .eq 10, 3) := by decide +kernel
theorem dX7_without_7 : decode cX7_without 7 = .ok (.iload_n 2, 1) := by decide +kernel
theorem dX7_without_8 : decode cX7_without 8 = .ok (.invokestatic 103, 3) := by decide +kernel
theorem dX7_without_11 : decode cX7_without 11 = .ok (.ifCond .ne 10, 3) := by decide +kernel
theorem dX7_without_14 : decode cX7_without 14 = .ok (.aload_n 0, 1) := by decide +kernel
theorem dX7_without_15 : decode cX7_without 15 = .ok (.ldc 83, 2) := by decide +kernel
theorem dX7_without_17 : decode cX7_without 17 = .ok (.invokevirtual 72, 3) := by decide +kernel
theorem dX7_without_20 : decode cX7_without 20 = .ok (.ireturn, 1) := by decide +kernel
theorem dX7_without_21 : decode cX7_without 21 = .ok (.sipush 229, 3) := by decide +kernel
theorem dX7_without_24 : decode cX7_without 24 = .ok (.bipush 7, 2) := by decide +kernel
theorem dX7_without_26 : decode cX7_without 26 = .ok (.iload_n 1, 1) := by decide +kernel
theorem dX7_without_27 : decode cX7_without 27 = .ok (.imul, 1) := by decide +kernel
theorem dX7_without_28 : decode cX7_without 28 = .ok (.iadd, 1) := by decide +kernel
theorem dX7_without_29 : decode cX7_without 29 = .ok (.iload_n 2, 1) := by decide +kernel
theorem dX7_without_30 : decode cX7_without 30 = .ok (.iadd, 1) := by decide +kernel
theorem dX7_without_31 : decode cX7_without 31 = .ok (.istore_n 3, 1) := by decide +kernel
theorem dX7_without_32 : decode cX7_without 32 = .ok (.aload_n 0, 1) := by decide +kernel
theorem dX7_without_33 : decode cX7_without 33 = .ok (.getfield 7, 3) := by decide +kernel
theorem dX7_without_36 : decode cX7_without 36 = .ok (.iload_n 3, 1) := by decide +kernel
theorem dX7_without_37 : decode cX7_without 37 = .ok (.iaload, 1) := by decide +kernel
theorem dX7_without_38 : decode cX7_without 38 = .ok (.istore 4, 2) := by decide +kernel
theorem dX7_without_40 : decode cX7_without 40 = .ok (.iload 4, 2) := by decide +kernel
theorem dX7_without_42 : decode cX7_without 42 = .ok (.ifCond .ge 10, 3) := by decide +kernel
theorem dX7_without_45 : decode cX7_without 45 = .ok (.aload_n 0, 1) := by decide +kernel
theorem dX7_without_46 : decode cX7_without 46 = .ok (.ldc 97, 2) := by decide +kernel
theorem dX7_without_48 : decode cX7_without 48 = .ok (.invokevirtual 72, 3) := by decide +kernel
theorem dX7_without_51 : decode cX7_without 51 = .ok (.ireturn, 1) := by decide +kernel
theorem dX7_without_52 : decode cX7_without 52 = .ok (.aload_n 0, 1) := by decide +kernel
theorem dX7_without_53 : decode cX7_without 53 = .ok (.invokevirtual 150, 3) := by decide +kernel
theorem dX7_without_56 : decode cX7_without 56 = .ok (.istore 5, 2) := by decide +kernel
theorem dX7_without_58 : decode cX7_without 58 = .ok (.iload 5, 2) := by decide +kernel
theorem dX7_without_60 : decode cX7_without 60 = .ok (.ldc 140, 2) := by decide +kernel
theorem dX7_without_62 : decode cX7_without 62 = .ok (.if_icmp .ne 10, 3) := by decide +kernel
theorem dX7_without_65 : decode cX7_without 65 = .ok (.aload_n 0, 1) := by decide +kernel
theorem dX7_without_66 : decode cX7_without 66 = .ok (.ldc 71, 2) := by decide +kernel
theorem dX7_without_68 : decode cX7_without 68 = .ok (.invokevirtual 72, 3) := by decide +kernel
theorem dX7_without_71 : decode cX7_without 71 = .ok (.ireturn, 1) := by decide +kernel
theorem dX7_without_72 : decode cX7_without 72 = .ok (.aload_n 0, 1) := by decide +kernel
theorem dX7_without_73 : decode cX7_without 73 = .ok (.getfield 7, 3) := by decide +kernel
theorem dX7_without_76 : decode cX7_without 76 = .ok (.iload_n 3, 1) := by decide +kernel
theorem dX7_without_77 : decode cX7_without 77 = .ok (.iconst (-1), 1) := by decide +kernel
theorem dX7_without_78 : decode cX7_without 78 = .ok (.iastore, 1) := by decide +kernel
theorem dX7_without_79 : decode cX7_without 79 = .ok (.iload 5, 2) := by decide +kernel
theorem dX7_without_81 : decode cX7_without 81 = .ok (.aload_n 0, 1) := by decide +kernel
theorem dX7_without_82 : decode cX7_without 82 = .ok (.invokevirtual 150, 3) := by decide +kernel
theorem dX7_without_85 : decode cX7_without 85 = .ok (.isub, 1) := by decide +kernel
theorem dX7_without_86 : decode cX7_without 86 = .ok (.istore 6, 2) := by decide +kernel
theorem dX7_without_88 : decode cX7_without 88 = .ok (.aload_n 0, 1) := by decide +kernel
theorem dX7_without_89 : decode cX7_without 89 = .ok (.getfield 7, 3) := by decide +kernel
theorem dX7_without_92 : decode cX7_without 92 = .ok (.iload_n 3, 1) := by decide +kernel
theorem dX7_without_93 : decode cX7_without 93 = .ok (.iload 4, 2) := by decide +kernel
theorem dX7_without_95 : decode cX7_without 95 = .ok (.iastore, 1) := by decide +kernel
theorem dX7_without_96 : decode cX7_without 96 = .ok (.iload 6, 2) := by decide +kernel
theorem dX7_without_98 : decode cX7_without 98 = .ok (.ireturn, 1) := by decide +kernel
theorem dX7_canHand_0 : decode cX7_canHand 0 = .ok (.iconst 0, 1) := by decide +kernel
theorem dX7_canHand_1 : decode cX7_canHand 1 = .ok (.istore_n 3, 1) := by decide +kernel
theorem dX7_canHand_2 : decode cX7_canHand 2 = .ok (.iload_n 1, 1) := by decide +kernel
theorem dX7_canHand_3 : decode cX7_canHand 3 = .ok (.istore 4, 2) := by decide +kernel
theorem dX7_canHand_5 : decode cX7_canHand 5 = .ok (.iload 4, 2) := by decide +kernel
theorem dX7_canHand_7 : decode cX7_canHand 7 = .ok (.iload_n 2, 1) := by decide +kernel
theorem dX7_canHand_8 : decode cX7_canHand 8 = .ok (.if_icmp .ge 19, 3) := by decide +kernel
theorem dX7_canHand_11 : decode cX7_canHand 11 = .ok (.iload_n 3, 1) := by decide +kernel
theorem dX7_canHand_12 : decode cX7_canHand 12 = .ok (.aload_n 0, 1) := by decide +kernel
theorem dX7_canHand_13 : decode cX7_canHand 13 = .ok (.getfield 50, 3) := by decide +kernel
theorem dX7_canHand_16 : decode cX7_canHand 16 = .ok (.iload 4, 2) := by decide +kernel
theorem dX7_canHand_18 : decode cX7_canHand 18 = .ok (.iaload, 1) := by decide +kernel
theorem dX7_canHand_19 : decode cX7_canHand 19 = .ok (.iadd, 1) := by decide +kernel
theorem dX7_canHand_20 : decode cX7_canHand 20 = .ok (.istore_n 3, 1) := by decide +kernel
theorem dX7_canHand_21 : decode cX7_canHand 21 = .ok (.iinc 4 1, 3) := by decide +kernel
theorem dX7_canHand_24 : decode cX7_canHand 24 = .ok (.goto (-19), 3) := by decide +kernel
theorem dX7_canHand_27 : decode cX7_canHand 27 = .ok (.iload_n 1, 1) := by decide +kernel
theorem dX7_canHand_28 : decode cX7_canHand 28 = .ok (.iload_n 2, 1) := by decide +kernel
theorem dX7_canHand_29 : decode cX7_canHand 29 = .ok (.if_icmp .eq 28, 3) := by decide +kernel
theorem dX7_canHand_32 : decode cX7_canHand 32 = .ok (.iload_n 3, 1) := by decide +kernel
theorem dX7_canHand_33 : decode cX7_canHand 33 = .ok (.iconst 4, 1) := by decide +kernel
theorem dX7_canHand_34 : decode cX7_canHand 34 = .ok (.if_icmp .gt 27, 3) := by decide +kernel
theorem dX7_canHand_37 : decode cX7_canHand 37 = .ok (.aload_n 0, 1) := by decide +kernel
theorem dX7_canHand_38 : decode cX7_canHand 38 = .ok (.getfield 47, 3) := by decide +kernel
theorem dX7_canHand_41 : decode cX7_canHand 41 = .ok (.iload_n 2, 1) := by decide +kernel
theorem dX7_canHand_42 : decode cX7_canHand 42 = .ok (.iconst 1, 1) := by decide +kernel
theorem dX7_canHand_43 : decode cX7_canHand 43 = .ok (.isub, 1) := by decide +kernel
theorem dX7_canHand_44 : decode cX7_canHand 44 = .ok (.iaload, 1) := by decide +kernel
theorem dX7_canHand_45 : decode cX7_canHand 45 = .ok (.aload_n 0, 1) := by decide +kernel
theorem dX7_canHand_46 : decode cX7_canHand 46 = .ok (.getfield 47, 3) := by decide +kernel
theorem dX7_canHand_49 : decode cX7_canHand 49 = .ok (.iload_n 1, 1) := by decide +kernel
theorem dX7_canHand_50 : decode cX7_canHand 50 = .ok (.iaload, 1) := by decide +kernel
theorem dX7_canHand_51 : decode cX7_canHand 51 = .ok (.isub, 1) := by decide +kernel
theorem dX7_canHand_52 : decode cX7_canHand 52 = .ok (.bipush 9, 2) := by decide +kernel
theorem dX7_canHand_54 : decode cX7_canHand 54 = .ok (.if_icmp .gt 7, 3) := by decide +kernel
theorem dX7_canHand_57 : decode cX7_canHand 57 = .ok (.iconst 1, 1) := by decide +kernel
theorem dX7_canHand_58 : decode cX7_canHand 58 = .ok (.goto 4, 3) := by decide +kernel
theorem dX7_canHand_61 : decode cX7_canHand 61 = .ok (.iconst 0, 1) := by decide +kernel
theorem dX7_canHand_62 : decode cX7_canHand 62 = .ok (.ireturn, 1) := by decide +kernel
theorem dX7_splitOf_0 : decode cX7_splitOf 0 = .ok (.aload_n 0, 1) := by decide +kernel
theorem dX7_splitOf_1 : decode cX7_splitOf 1 = .ok (.getfield 7, 3) := by decide +kernel
theorem dX7_splitOf_4 : decode cX7_splitOf 4 = .ok (.iconst 1, 1) := by decide +kernel
theorem dX7_splitOf_5 : decode cX7_splitOf 5 = .ok (.iload_n 1, 1) := by decide +kernel
theorem dX7_splitOf_6 : decode cX7_splitOf 6 = .ok (.iadd, 1) := by decide +kernel
theorem dX7_splitOf_7 : decode cX7_splitOf 7 = .ok (.iaload, 1) := by decide +kernel
theorem dX7_splitOf_8 : decode cX7_splitOf 8 = .ok (.istore_n 3, 1) := by decide +kernel
theorem dX7_splitOf_9 : decode cX7_splitOf 9 = .ok (.iconst 0, 1) := by decide +kernel
theorem dX7_splitOf_10 : decode cX7_splitOf 10 = .ok (.istore 4, 2) := by decide +kernel
theorem dX7_splitOf_12 : decode cX7_splitOf 12 = .ok (.iload 4, 2) := by decide +kernel
theorem dX7_splitOf_14 : decode cX7_splitOf 14 = .ok (.iload_n 3, 1) := by decide +kernel
theorem dX7_splitOf_15 : decode cX7_splitOf 15 = .ok (.if_icmp .ge 129, 3) := by decide +kernel
theorem dX7_splitOf_18 : decode cX7_splitOf 18 = .ok (.aload_n 0, 1) := by decide +kernel
theorem dX7_splitOf_19 : decode cX7_splitOf 19 = .ok (.iload_n 1, 1) := by decide +kernel
theorem dX7_splitOf_20 : decode cX7_splitOf 20 = .ok (.iload 4, 2) := by decide +kernel
theorem dX7_splitOf_22 : decode cX7_splitOf 22 = .ok (.iload_n 2, 1) := by decide +kernel
theorem dX7_splitOf_23 : decode cX7_splitOf 23 = .ok (.invokevirtual 121, 3) := by decide +kernel
theorem dX7_splitOf_26 : decode cX7_splitOf 26 = .ok (.istore 5, 2) := by decide +kernel
theorem dX7_splitOf_28 : decode cX7_splitOf 28 = .ok (.aload_n 0, 1) := by decide +kernel
theorem dX7_splitOf_29 : decode cX7_splitOf 29 = .ok (.iload_n 1, 1) := by decide +kernel
theorem dX7_splitOf_30 : decode cX7_splitOf 30 = .ok (.iload 4, 2) := by decide +kernel
theorem dX7_splitOf_32 : decode cX7_splitOf 32 = .ok (.iconst 0, 1) := by decide +kernel
theorem dX7_splitOf_33 : decode cX7_splitOf 33 = .ok (.invokevirtual 93, 3) := by decide +kernel
theorem dX7_splitOf_36 : decode cX7_splitOf 36 = .ok (.iconst 1, 1) := by decide +kernel
theorem dX7_splitOf_37 : decode cX7_splitOf 37 = .ok (.if_icmp .eq 15, 3) := by decide +kernel
theorem dX7_splitOf_40 : decode cX7_splitOf 40 = .ok (.aload_n 0, 1) := by decide +kernel
theorem dX7_splitOf_41 : decode cX7_splitOf 41 = .ok (.iload_n 1, 1) := by decide +kernel
theorem dX7_splitOf_42 : decode cX7_splitOf 42 = .ok (.iload 4, 2) := by decide +kernel
theorem dX7_splitOf_44 : decode cX7_splitOf 44 = .ok (.iconst 0, 1) := by decide +kernel
theorem dX7_splitOf_45 : decode cX7_splitOf 45 = .ok (.invokevirtual 93, 3) := by decide +kernel
theorem dX7_splitOf_48 : decode cX7_splitOf 48 = .ok (.iconst 3, 1) := by decide +kernel
theorem dX7_splitOf_49 : decode cX7_splitOf 49 = .ok (.if_icmp .ne 7, 3) := by decide +kernel
theorem dX7_splitOf_52 : decode cX7_splitOf 52 = .ok (.iconst 2, 1) := by decide +kernel
theorem dX7_splitOf_53 : decode cX7_splitOf 53 = .ok (.goto 4, 3) := by decide +kernel
theorem dX7_splitOf_56 : decode cX7_splitOf 56 = .ok (.iconst 1, 1) := by decide +kernel
theorem dX7_splitOf_57 : decode cX7_splitOf 57 = .ok (.istore 6, 2) := by decide +kernel
theorem dX7_splitOf_59 : decode cX7_splitOf 59 = .ok (.iload 4, 2) := by decide +kernel
theorem dX7_splitOf_61 : decode cX7_splitOf 61 = .ok (.istore 7, 2) := by decide +kernel
theorem dX7_splitOf_63 : decode cX7_splitOf 63 = .ok (.iload 7, 2) := by decide +kernel
theorem dX7_splitOf_65 : decode cX7_splitOf 65 = .ok (.ifCond .le 55, 3) := by decide +kernel
theorem dX7_splitOf_68 : decode cX7_splitOf 68 = .ok (.aload_n 0, 1) := by decide +kernel
theorem dX7_splitOf_69 : decode cX7_splitOf 69 = .ok (.getfield 47, 3) := by decide +kernel
theorem dX7_splitOf_72 : decode cX7_splitOf 72 = .ok (.iload 7, 2) := by decide +kernel
theorem dX7_splitOf_74 : decode cX7_splitOf 74 = .ok (.iconst 1, 1) := by decide +kernel
theorem dX7_splitOf_75 : decode cX7_splitOf 75 = .ok (.isub, 1) := by decide +kernel
theorem dX7_splitOf_76 : decode cX7_splitOf 76 = .ok (.iaload, 1) := by decide +kernel
theorem dX7_splitOf_77 : decode cX7_splitOf 77 = .ok (.iload 5, 2) := by decide +kernel
theorem dX7_splitOf_79 : decode cX7_splitOf 79 = .ok (.if_icmp .le 41, 3) := by decide +kernel
theorem dX7_splitOf_82 : decode cX7_splitOf 82 = .ok (.aload_n 0, 1) := by decide +kernel
theorem dX7_splitOf_83 : decode cX7_splitOf 83 = .ok (.getfield 47, 3) := by decide +kernel
theorem dX7_splitOf_86 : decode cX7_splitOf 86 = .ok (.iload 7, 2) := by decide +kernel
theorem dX7_splitOf_88 : decode cX7_splitOf 88 = .ok (.aload_n 0, 1) := by decide +kernel
theorem dX7_splitOf_89 : decode cX7_splitOf 89 = .ok (.getfield 47, 3) := by decide +kernel
theorem dX7_splitOf_92 : decode cX7_splitOf 92 = .ok (.iload 7, 2) := by decide +kernel
theorem dX7_splitOf_94 : decode cX7_splitOf 94 = .ok (.iconst 1, 1) := by decide +kernel
theorem dX7_splitOf_95 : decode cX7_splitOf 95 = .ok (.isub, 1) := by decide +kernel
theorem dX7_splitOf_96 : decode cX7_splitOf 96 = .ok (.iaload, 1) := by decide +kernel
theorem dX7_splitOf_97 : decode cX7_splitOf 97 = .ok (.iastore, 1) := by decide +kernel
theorem dX7_splitOf_98 : decode cX7_splitOf 98 = .ok (.aload_n 0, 1) := by decide +kernel
theorem dX7_splitOf_99 : decode cX7_splitOf 99 = .ok (.getfield 50, 3) := by decide +kernel
theorem dX7_splitOf_102 : decode cX7_splitOf 102 = .ok (.iload 7, 2) := by decide +kernel
theorem dX7_splitOf_104 : decode cX7_splitOf 104 = .ok (.aload_n 0, 1) := by decide +kernel
