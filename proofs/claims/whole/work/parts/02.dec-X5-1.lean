theorem dX5_leastNext_5 : decode cX5_leastNext 5 = .ok (.getfield 15, 3) := by decide +kernel
theorem dX5_leastNext_8 : decode cX5_leastNext 8 = .ok (.iload_n 1, 1) := by decide +kernel
theorem dX5_leastNext_9 : decode cX5_leastNext 9 = .ok (.invokevirtual 101, 3) := by decide +kernel
theorem dX5_leastNext_12 : decode cX5_leastNext 12 = .ok (.aload_n 0, 1) := by decide +kernel
theorem dX5_leastNext_13 : decode cX5_leastNext 13 = .ok (.getfield 22, 3) := by decide +kernel
theorem dX5_leastNext_16 : decode cX5_leastNext 16 = .ok (.aload_n 0, 1) := by decide +kernel
theorem dX5_leastNext_17 : decode cX5_leastNext 17 = .ok (.getfield 11, 3) := by decide +kernel
theorem dX5_leastNext_20 : decode cX5_leastNext 20 = .ok (.getfield 125, 3) := by decide +kernel
theorem dX5_leastNext_23 : decode cX5_leastNext 23 = .ok (.iload_n 2, 1) := by decide +kernel
theorem dX5_leastNext_24 : decode cX5_leastNext 24 = .ok (.iaload, 1) := by decide +kernel
theorem dX5_leastNext_25 : decode cX5_leastNext 25 = .ok (.invokevirtual 141, 3) := by decide +kernel
theorem dX5_leastNext_28 : decode cX5_leastNext 28 = .ok (.iconst 0, 1) := by decide +kernel
theorem dX5_leastNext_29 : decode cX5_leastNext 29 = .ok (.invokestatic 98, 3) := by decide +kernel
theorem dX5_leastNext_32 : decode cX5_leastNext 32 = .ok (.istore_n 3, 1) := by decide +kernel
theorem dX5_leastNext_33 : decode cX5_leastNext 33 = .ok (.aload_n 0, 1) := by decide +kernel
theorem dX5_leastNext_34 : decode cX5_leastNext 34 = .ok (.getfield 28, 3) := by decide +kernel
theorem dX5_leastNext_37 : decode cX5_leastNext 37 = .ok (.iload_n 1, 1) := by decide +kernel
theorem dX5_leastNext_38 : decode cX5_leastNext 38 = .ok (.aaload, 1) := by decide +kernel
theorem dX5_leastNext_39 : decode cX5_leastNext 39 = .ok (.iload_n 2, 1) := by decide +kernel
theorem dX5_leastNext_40 : decode cX5_leastNext 40 = .ok (.iaload, 1) := by decide +kernel
theorem dX5_leastNext_41 : decode cX5_leastNext 41 = .ok (.bipush 20, 2) := by decide +kernel
theorem dX5_leastNext_43 : decode cX5_leastNext 43 = .ok (.ishr, 1) := by decide +kernel
theorem dX5_leastNext_44 : decode cX5_leastNext 44 = .ok (.istore 4, 2) := by decide +kernel
theorem dX5_leastNext_46 : decode cX5_leastNext 46 = .ok (.sipush 2187, 3) := by decide +kernel
theorem dX5_leastNext_49 : decode cX5_leastNext 49 = .ok (.istore 5, 2) := by decide +kernel
theorem dX5_leastNext_51 : decode cX5_leastNext 51 = .ok (.aload_n 0, 1) := by decide +kernel
theorem dX5_leastNext_52 : decode cX5_leastNext 52 = .ok (.iload_n 2, 1) := by decide +kernel
theorem dX5_leastNext_53 : decode cX5_leastNext 53 = .ok (.bipush 67, 2) := by decide +kernel
theorem dX5_leastNext_55 : decode cX5_leastNext 55 = .ok (.iload_n 3, 1) := by decide +kernel
theorem dX5_leastNext_56 : decode cX5_leastNext 56 = .ok (.iconst (-1), 1) := by decide +kernel
theorem dX5_leastNext_57 : decode cX5_leastNext 57 = .ok (.ixor, 1) := by decide +kernel
theorem dX5_leastNext_58 : decode cX5_leastNext 58 = .ok (.iand, 1) := by decide +kernel
theorem dX5_leastNext_59 : decode cX5_leastNext 59 = .ok (.aload_n 0, 1) := by decide +kernel
theorem dX5_leastNext_60 : decode cX5_leastNext 60 = .ok (.getfield 48, 3) := by decide +kernel
theorem dX5_leastNext_63 : decode cX5_leastNext 63 = .ok (.invokevirtual 198, 3) := by decide +kernel
theorem dX5_leastNext_66 : decode cX5_leastNext 66 = .ok (.istore 6, 2) := by decide +kernel
theorem dX5_leastNext_68 : decode cX5_leastNext 68 = .ok (.iconst 0, 1) := by decide +kernel
theorem dX5_leastNext_69 : decode cX5_leastNext 69 = .ok (.istore 7, 2) := by decide +kernel
theorem dX5_leastNext_71 : decode cX5_leastNext 71 = .ok (.iload 7, 2) := by decide +kernel
theorem dX5_leastNext_73 : decode cX5_leastNext 73 = .ok (.iload 6, 2) := by decide +kernel
theorem dX5_leastNext_75 : decode cX5_leastNext 75 = .ok (.if_icmp .ge 113, 3) := by decide +kernel
theorem dX5_leastNext_78 : decode cX5_leastNext 78 = .ok (.aload_n 0, 1) := by decide +kernel
theorem dX5_leastNext_79 : decode cX5_leastNext 79 = .ok (.aload_n 0, 1) := by decide +kernel
theorem dX5_leastNext_80 : decode cX5_leastNext 80 = .ok (.getfield 48, 3) := by decide +kernel
theorem dX5_leastNext_83 : decode cX5_leastNext 83 = .ok (.iload 7, 2) := by decide +kernel
theorem dX5_leastNext_85 : decode cX5_leastNext 85 = .ok (.iaload, 1) := by decide +kernel
theorem dX5_leastNext_86 : decode cX5_leastNext 86 = .ok (.bipush 60, 2) := by decide +kernel
theorem dX5_leastNext_88 : decode cX5_leastNext 88 = .ok (.iload_n 3, 1) := by decide +kernel
theorem dX5_leastNext_89 : decode cX5_leastNext 89 = .ok (.iconst (-1), 1) := by decide +kernel
theorem dX5_leastNext_90 : decode cX5_leastNext 90 = .ok (.ixor, 1) := by decide +kernel
theorem dX5_leastNext_91 : decode cX5_leastNext 91 = .ok (.iand, 1) := by decide +kernel
theorem dX5_leastNext_92 : decode cX5_leastNext 92 = .ok (.aload_n 0, 1) := by decide +kernel
theorem dX5_leastNext_93 : decode cX5_leastNext 93 = .ok (.getfield 51, 3) := by decide +kernel
theorem dX5_leastNext_96 : decode cX5_leastNext 96 = .ok (.invokevirtual 198, 3) := by decide +kernel
theorem dX5_leastNext_99 : decode cX5_leastNext 99 = .ok (.istore 8, 2) := by decide +kernel
theorem dX5_leastNext_101 : decode cX5_leastNext 101 = .ok (.iconst 0, 1) := by decide +kernel
theorem dX5_leastNext_102 : decode cX5_leastNext 102 = .ok (.istore 9, 2) := by decide +kernel
theorem dX5_leastNext_104 : decode cX5_leastNext 104 = .ok (.iload 9, 2) := by decide +kernel
theorem dX5_leastNext_106 : decode cX5_leastNext 106 = .ok (.iload 8, 2) := by decide +kernel
theorem dX5_leastNext_108 : decode cX5_leastNext 108 = .ok (.if_icmp .ge 74, 3) := by decide +kernel
theorem dX5_leastNext_111 : decode cX5_leastNext 111 = .ok (.aload_n 0, 1) := by decide +kernel
theorem dX5_leastNext_112 : decode cX5_leastNext 112 = .ok (.getfield 51, 3) := by decide +kernel
theorem dX5_leastNext_115 : decode cX5_leastNext 115 = .ok (.iload 9, 2) := by decide +kernel
theorem dX5_leastNext_117 : decode cX5_leastNext 117 = .ok (.iaload, 1) := by decide +kernel
theorem dX5_leastNext_118 : decode cX5_leastNext 118 = .ok (.istore 10, 2) := by decide +kernel
theorem dX5_leastNext_120 : decode cX5_leastNext 120 = .ok (.iload 7, 2) := by decide +kernel
theorem dX5_leastNext_122 : decode cX5_leastNext 122 = .ok (.ifCond .le 7, 3) := by decide +kernel
theorem dX5_leastNext_125 : decode cX5_leastNext 125 = .ok (.iconst 1, 1) := by decide +kernel
theorem dX5_leastNext_126 : decode cX5_leastNext 126 = .ok (.goto 4, 3) := by decide +kernel
theorem dX5_leastNext_129 : decode cX5_leastNext 129 = .ok (.iconst 0, 1) := by decide +kernel
theorem dX5_leastNext_130 : decode cX5_leastNext 130 = .ok (.iload 9, 2) := by decide +kernel
theorem dX5_leastNext_132 : decode cX5_leastNext 132 = .ok (.ifCond .le 7, 3) := by decide +kernel
theorem dX5_leastNext_135 : decode cX5_leastNext 135 = .ok (.iconst 1, 1) := by decide +kernel
theorem dX5_leastNext_136 : decode cX5_leastNext 136 = .ok (.goto 4, 3) := by decide +kernel
theorem dX5_leastNext_139 : decode cX5_leastNext 139 = .ok (.iconst 0, 1) := by decide +kernel
theorem dX5_leastNext_140 : decode cX5_leastNext 140 = .ok (.iadd, 1) := by decide +kernel
theorem dX5_leastNext_141 : decode cX5_leastNext 141 = .ok (.istore 11, 2) := by decide +kernel
theorem dX5_leastNext_143 : decode cX5_leastNext 143 = .ok (.iload 10, 2) := by decide +kernel
theorem dX5_leastNext_145 : decode cX5_leastNext 145 = .ok (.iload 5, 2) := by decide +kernel
theorem dX5_leastNext_147 : decode cX5_leastNext 147 = .ok (.if_icmp .ge 29, 3) := by decide +kernel
theorem dX5_leastNext_150 : decode cX5_leastNext 150 = .ok (.iload 11, 2) := by decide +kernel
theorem dX5_leastNext_152 : decode cX5_leastNext 152 = .ok (.aload_n 0, 1) := by decide +kernel
theorem dX5_leastNext_153 : decode cX5_leastNext 153 = .ok (.getfield 28, 3) := by decide +kernel
theorem dX5_leastNext_156 : decode cX5_leastNext 156 = .ok (.iload_n 1, 1) := by decide +kernel
theorem dX5_leastNext_157 : decode cX5_leastNext 157 = .ok (.iconst 1, 1) := by decide +kernel
theorem dX5_leastNext_158 : decode cX5_leastNext 158 = .ok (.iadd, 1) := by decide +kernel
theorem dX5_leastNext_159 : decode cX5_leastNext 159 = .ok (.aaload, 1) := by decide +kernel
theorem dX5_leastNext_160 : decode cX5_leastNext 160 = .ok (.iload 10, 2) := by decide +kernel
theorem dX5_leastNext_162 : decode cX5_leastNext 162 = .ok (.iaload, 1) := by decide +kernel
theorem dX5_leastNext_163 : decode cX5_leastNext 163 = .ok (.bipush 20, 2) := by decide +kernel
theorem dX5_leastNext_165 : decode cX5_leastNext 165 = .ok (.ishr, 1) := by decide +kernel
theorem dX5_leastNext_166 : decode cX5_leastNext 166 = .ok (.iadd, 1) := by decide +kernel
theorem dX5_leastNext_167 : decode cX5_leastNext 167 = .ok (.iload 4, 2) := by decide +kernel
theorem dX5_leastNext_169 : decode cX5_leastNext 169 = .ok (.if_icmp .ne 7, 3) := by decide +kernel
theorem dX5_leastNext_172 : decode cX5_leastNext 172 = .ok (.iload 10, 2) := by decide +kernel
theorem dX5_leastNext_174 : decode cX5_leastNext 174 = .ok (.istore 5, 2) := by decide +kernel
theorem dX5_leastNext_176 : decode cX5_leastNext 176 = .ok (.iinc 9 1, 3) := by decide +kernel
theorem dX5_leastNext_179 : decode cX5_leastNext 179 = .ok (.goto (-75), 3) := by decide +kernel
theorem dX5_leastNext_182 : decode cX5_leastNext 182 = .ok (.iinc 7 1, 3) := by decide +kernel
theorem dX5_leastNext_185 : decode cX5_leastNext 185 = .ok (.goto (-114), 3) := by decide +kernel
theorem dX5_leastNext_188 : decode cX5_leastNext 188 = .ok (.iload 5, 2) := by decide +kernel
theorem dX5_leastNext_190 : decode cX5_leastNext 190 = .ok (.sipush 2187, 3) := by decide +kernel
theorem dX5_leastNext_193 : decode cX5_leastNext 193 = .ok (.if_icmp .ge 8, 3) := by decide +kernel
theorem dX5_leastNext_196 : decode cX5_leastNext 196 = .ok (.iload 5, 2) := by decide +kernel
theorem dX5_leastNext_198 : decode cX5_leastNext 198 = .ok (.goto 4, 3) := by decide +kernel
theorem dX5_leastNext_201 : decode cX5_leastNext 201 = .ok (.iload_n 2, 1) := by decide +kernel
theorem dX5_leastNext_202 : decode cX5_leastNext 202 = .ok (.ireturn, 1) := by decide +kernel
theorem dX5_makeArrival_0 : decode cX5_makeArrival 0 = .ok (.aload_n 0, 1) := by decide +kernel
theorem dX5_makeArrival_1 : decode cX5_makeArrival 1 = .ok (.getfield 61, 3) := by decide +kernel
theorem dX5_makeArrival_4 : decode cX5_makeArrival 4 = .ok (.iconst 1, 1) := by decide +kernel
theorem dX5_makeArrival_5 : decode cX5_makeArrival 5 = .ok (.iadd, 1) := by decide +kernel
theorem dX5_makeArrival_6 : decode cX5_makeArrival 6 = .ok (.istore_n 2, 1) := by decide +kernel
theorem dX5_makeArrival_7 : decode cX5_makeArrival 7 = .ok (.iload_n 2, 1) := by decide +kernel
theorem dX5_makeArrival_8 : decode cX5_makeArrival 8 = .ok (.iload_n 1, 1) := by decide +kernel
theorem dX5_makeArrival_9 : decode cX5_makeArrival 9 = .ok (.if_icmp .gt 117, 3) := by decide +kernel
theorem dX5_makeArrival_12 : decode cX5_makeArrival 12 = .ok (.iload_n 2, 1) := by decide +kernel
theorem dX5_makeArrival_13 : decode cX5_makeArrival 13 = .ok (.ifCond .ne 10, 3) := by decide +kernel
theorem dX5_makeArrival_16 : decode cX5_makeArrival 16 = .ok (.aload_n 0, 1) := by decide +kernel
theorem dX5_makeArrival_17 : decode cX5_makeArrival 17 = .ok (.invokevirtual 211, 3) := by decide +kernel
theorem dX5_makeArrival_20 : decode cX5_makeArrival 20 = .ok (.goto 100, 3) := by decide +kernel
theorem dX5_makeArrival_23 : decode cX5_makeArrival 23 = .ok (.aload_n 0, 1) := by decide +kernel
theorem dX5_makeArrival_24 : decode cX5_makeArrival 24 = .ok (.getfield 22, 3) := by decide +kernel
theorem dX5_makeArrival_27 : decode cX5_makeArrival 27 = .ok (.aload_n 0, 1) := by decide +kernel
theorem dX5_makeArrival_28 : decode cX5_makeArrival 28 = .ok (.getfield 15, 3) := by decide +kernel
theorem dX5_makeArrival_31 : decode cX5_makeArrival 31 = .ok (.iload_n 2, 1) := by decide +kernel
theorem dX5_makeArrival_32 : decode cX5_makeArrival 32 = .ok (.iconst 1, 1) := by decide +kernel
theorem dX5_makeArrival_33 : decode cX5_makeArrival 33 = .ok (.isub, 1) := by decide +kernel
theorem dX5_makeArrival_34 : decode cX5_makeArrival 34 = .ok (.invokevirtual 101, 3) := by decide +kernel
theorem dX5_makeArrival_37 : decode cX5_makeArrival 37 = .ok (.aload_n 0, 1) := by decide +kernel
theorem dX5_makeArrival_38 : decode cX5_makeArrival 38 = .ok (.getfield 35, 3) := by decide +kernel
theorem dX5_makeArrival_41 : decode cX5_makeArrival 41 = .ok (.iload_n 2, 1) := by decide +kernel
theorem dX5_makeArrival_42 : decode cX5_makeArrival 42 = .ok (.iconst 1, 1) := by decide +kernel
theorem dX5_makeArrival_43 : decode cX5_makeArrival 43 = .ok (.isub, 1) := by decide +kernel
theorem dX5_makeArrival_44 : decode cX5_makeArrival 44 = .ok (.aaload, 1) := by decide +kernel
theorem dX5_makeArrival_45 : decode cX5_makeArrival 45 = .ok (.iconst 0, 1) := by decide +kernel
theorem dX5_makeArrival_46 : decode cX5_makeArrival 46 = .ok (.aload_n 0, 1) := by decide +kernel
theorem dX5_makeArrival_47 : decode cX5_makeArrival 47 = .ok (.getfield 38, 3) := by decide +kernel
theorem dX5_makeArrival_50 : decode cX5_makeArrival 50 = .ok (.iconst 0, 1) := by decide +kernel
theorem dX5_makeArrival_51 : decode cX5_makeArrival 51 = .ok (.sipush 2187, 3) := by decide +kernel
theorem dX5_makeArrival_54 : decode cX5_makeArrival 54 = .ok (.invokestatic 163, 3) := by decide +kernel
theorem dX5_makeArrival_57 : decode cX5_makeArrival 57 = .ok (.aload_n 0, 1) := by decide +kernel
theorem dX5_makeArrival_58 : decode cX5_makeArrival 58 = .ok (.aload_n 0, 1) := by decide +kernel
theorem dX5_makeArrival_59 : decode cX5_makeArrival 59 = .ok (.getfield 38, 3) := by decide +kernel
theorem dX5_makeArrival_62 : decode cX5_makeArrival 62 = .ok (.invokevirtual 181, 3) := by decide +kernel
theorem dX5_makeArrival_65 : decode cX5_makeArrival 65 = .ok (.aload_n 0, 1) := by decide +kernel
theorem dX5_makeArrival_66 : decode cX5_makeArrival 66 = .ok (.getfield 22, 3) := by decide +kernel
theorem dX5_makeArrival_69 : decode cX5_makeArrival 69 = .ok (.invokevirtual 169, 3) := by decide +kernel
theorem dX5_makeArrival_72 : decode cX5_makeArrival 72 = .ok (.ifCond .eq 34, 3) := by decide +kernel
theorem dX5_makeArrival_75 : decode cX5_makeArrival 75 = .ok (.aload_n 0, 1) := by decide +kernel
theorem dX5_makeArrival_76 : decode cX5_makeArrival 76 = .ok (.getfield 38, 3) := by decide +kernel
theorem dX5_makeArrival_79 : decode cX5_makeArrival 79 = .ok (.bipush 60, 2) := by decide +kernel
theorem dX5_makeArrival_81 : decode cX5_makeArrival 81 = .ok (.aload_n 0, 1) := by decide +kernel
theorem dX5_makeArrival_82 : decode cX5_makeArrival 82 = .ok (.getfield 45, 3) := by decide +kernel
theorem dX5_makeArrival_85 : decode cX5_makeArrival 85 = .ok (.invokestatic 173, 3) := by decide +kernel
theorem dX5_makeArrival_88 : decode cX5_makeArrival 88 = .ok (.aload_n 0, 1) := by decide +kernel
theorem dX5_makeArrival_89 : decode cX5_makeArrival 89 = .ok (.getfield 45, 3) := by decide +kernel
theorem dX5_makeArrival_92 : decode cX5_makeArrival 92 = .ok (.bipush 67, 2) := by decide +kernel
theorem dX5_makeArrival_94 : decode cX5_makeArrival 94 = .ok (.aload_n 0, 1) := by decide +kernel
theorem dX5_makeArrival_95 : decode cX5_makeArrival 95 = .ok (.getfield 35, 3) := by decide +kernel
theorem dX5_makeArrival_98 : decode cX5_makeArrival 98 = .ok (.iload_n 2, 1) := by decide +kernel
theorem dX5_makeArrival_99 : decode cX5_makeArrival 99 = .ok (.aaload, 1) := by decide +kernel
theorem dX5_makeArrival_100 : decode cX5_makeArrival 100 = .ok (.invokestatic 173, 3) := by decide +kernel
theorem dX5_makeArrival_103 : decode cX5_makeArrival 103 = .ok (.goto 17, 3) := by decide +kernel
theorem dX5_makeArrival_106 : decode cX5_makeArrival 106 = .ok (.aload_n 0, 1) := by decide +kernel
theorem dX5_makeArrival_107 : decode cX5_makeArrival 107 = .ok (.aload_n 0, 1) := by decide +kernel
theorem dX5_makeArrival_108 : decode cX5_makeArrival 108 = .ok (.getfield 38, 3) := by decide +kernel
theorem dX5_makeArrival_111 : decode cX5_makeArrival 111 = .ok (.aload_n 0, 1) := by decide +kernel
theorem dX5_makeArrival_112 : decode cX5_makeArrival 112 = .ok (.getfield 35, 3) := by decide +kernel
theorem dX5_makeArrival_115 : decode cX5_makeArrival 115 = .ok (.iload_n 2, 1) := by decide +kernel
theorem dX5_makeArrival_116 : decode cX5_makeArrival 116 = .ok (.aaload, 1) := by decide +kernel
theorem dX5_makeArrival_117 : decode cX5_makeArrival 117 = .ok (.invokevirtual 214, 3) := by decide +kernel
theorem dX5_makeArrival_120 : decode cX5_makeArrival 120 = .ok (.iinc 2 1, 3) := by decide +kernel
theorem dX5_makeArrival_123 : decode cX5_makeArrival 123 = .ok (.goto (-116), 3) := by decide +kernel
theorem dX5_makeArrival_126 : decode cX5_makeArrival 126 = .ok (.aload_n 0, 1) := by decide +kernel
theorem dX5_makeArrival_127 : decode cX5_makeArrival 127 = .ok (.aload_n 0, 1) := by decide +kernel
theorem dX5_makeArrival_128 : decode cX5_makeArrival 128 = .ok (.getfield 61, 3) := by decide +kernel
theorem dX5_makeArrival_131 : decode cX5_makeArrival 131 = .ok (.iload_n 1, 1) := by decide +kernel
theorem dX5_makeArrival_132 : decode cX5_makeArrival 132 = .ok (.invokestatic 98, 3) := by decide +kernel
theorem dX5_makeArrival_135 : decode cX5_makeArrival 135 = .ok (.putfield 61, 3) := by decide +kernel
theorem dX5_makeArrival_138 : decode cX5_makeArrival 138 = .ok (.return_, 1) := by decide +kernel
theorem dX5_fillFirstArrival_0 : decode cX5_fillFirstArrival 0 = .ok (.iconst 0, 1) := by decide +kernel
theorem dX5_fillFirstArrival_1 : decode cX5_fillFirstArrival 1 = .ok (.istore_n 1, 1) := by decide +kernel
theorem dX5_fillFirstArrival_2 : decode cX5_fillFirstArrival 2 = .ok (.iload_n 1, 1) := by decide +kernel
theorem dX5_fillFirstArrival_3 : decode cX5_fillFirstArrival 3 = .ok (.sipush 2187, 3) := by decide +kernel
theorem dX5_fillFirstArrival_6 : decode cX5_fillFirstArrival 6 = .ok (.if_icmp .ge 110, 3) := by decide +kernel
theorem dX5_fillFirstArrival_9 : decode cX5_fillFirstArrival 9 = .ok (.aload_n 0, 1) := by decide +kernel
theorem dX5_fillFirstArrival_10 : decode cX5_fillFirstArrival 10 = .ok (.aload_n 0, 1) := by decide +kernel
theorem dX5_fillFirstArrival_11 : decode cX5_fillFirstArrival 11 = .ok (.getfield 11, 3) := by decide +kernel
theorem dX5_fillFirstArrival_14 : decode cX5_fillFirstArrival 14 = .ok (.getfield 125, 3) := by decide +kernel
theorem dX5_fillFirstArrival_17 : decode cX5_fillFirstArrival 17 = .ok (.iload_n 1, 1) := by decide +kernel
theorem dX5_fillFirstArrival_18 : decode cX5_fillFirstArrival 18 = .ok (.iaload, 1) := by decide +kernel
theorem dX5_fillFirstArrival_19 : decode cX5_fillFirstArrival 19 = .ok (.invokevirtual 130, 3) := by decide +kernel
theorem dX5_fillFirstArrival_22 : decode cX5_fillFirstArrival 22 = .ok (.istore_n 2, 1) := by decide +kernel
theorem dX5_fillFirstArrival_23 : decode cX5_fillFirstArrival 23 = .ok (.iconst 0, 1) := by decide +kernel
theorem dX5_fillFirstArrival_24 : decode cX5_fillFirstArrival 24 = .ok (.istore_n 3, 1) := by decide +kernel
theorem dX5_fillFirstArrival_25 : decode cX5_fillFirstArrival 25 = .ok (.iconst 0, 1) := by decide +kernel
theorem dX5_fillFirstArrival_26 : decode cX5_fillFirstArrival 26 = .ok (.istore 4, 2) := by decide +kernel
theorem dX5_fillFirstArrival_28 : decode cX5_fillFirstArrival 28 = .ok (.iconst 0, 1) := by decide +kernel
theorem dX5_fillFirstArrival_29 : decode cX5_fillFirstArrival 29 = .ok (.istore 5, 2) := by decide +kernel
theorem dX5_fillFirstArrival_31 : decode cX5_fillFirstArrival 31 = .ok (.iload 5, 2) := by decide +kernel
theorem dX5_fillFirstArrival_33 : decode cX5_fillFirstArrival 33 = .ok (.bipush 7, 2) := by decide +kernel
theorem dX5_fillFirstArrival_35 : decode cX5_fillFirstArrival 35 = .ok (.if_icmp .ge 44, 3) := by decide +kernel
theorem dX5_fillFirstArrival_38 : decode cX5_fillFirstArrival 38 = .ok (.iload_n 2, 1) := by decide +kernel
theorem dX5_fillFirstArrival_39 : decode cX5_fillFirstArrival 39 = .ok (.ifCond .eq 40, 3) := by decide +kernel
theorem dX5_fillFirstArrival_42 : decode cX5_fillFirstArrival 42 = .ok (.iload_n 2, 1) := by decide +kernel
theorem dX5_fillFirstArrival_43 : decode cX5_fillFirstArrival 43 = .ok (.iload 5, 2) := by decide +kernel
theorem dX5_fillFirstArrival_45 : decode cX5_fillFirstArrival 45 = .ok (.invokestatic 134, 3) := by decide +kernel
theorem dX5_fillFirstArrival_48 : decode cX5_fillFirstArrival 48 = .ok (.ifCond .eq 25, 3) := by decide +kernel
theorem dX5_fillFirstArrival_51 : decode cX5_fillFirstArrival 51 = .ok (.iload_n 3, 1) := by decide +kernel
theorem dX5_fillFirstArrival_52 : decode cX5_fillFirstArrival 52 = .ok (.bipush 67, 2) := by decide +kernel
theorem dX5_fillFirstArrival_54 : decode cX5_fillFirstArrival 54 = .ok (.iload 5, 2) := by decide +kernel
theorem dX5_fillFirstArrival_56 : decode cX5_fillFirstArrival 56 = .ok (.ishr, 1) := by decide +kernel
theorem dX5_fillFirstArrival_57 : decode cX5_fillFirstArrival 57 = .ok (.iconst 1, 1) := by decide +kernel
theorem dX5_fillFirstArrival_58 : decode cX5_fillFirstArrival 58 = .ok (.iand, 1) := by decide +kernel
theorem dX5_fillFirstArrival_59 : decode cX5_fillFirstArrival 59 = .ok (.iadd, 1) := by decide +kernel
theorem dX5_fillFirstArrival_60 : decode cX5_fillFirstArrival 60 = .ok (.istore_n 3, 1) := by decide +kernel
theorem dX5_fillFirstArrival_61 : decode cX5_fillFirstArrival 61 = .ok (.iload 4, 2) := by decide +kernel
theorem dX5_fillFirstArrival_63 : decode cX5_fillFirstArrival 63 = .ok (.bipush 60, 2) := by decide +kernel
theorem dX5_fillFirstArrival_65 : decode cX5_fillFirstArrival 65 = .ok (.iload 5, 2) := by decide +kernel
theorem dX5_fillFirstArrival_67 : decode cX5_fillFirstArrival 67 = .ok (.ishr, 1) := by decide +kernel
theorem dX5_fillFirstArrival_68 : decode cX5_fillFirstArrival 68 = .ok (.iconst 1, 1) := by decide +kernel
theorem dX5_fillFirstArrival_69 : decode cX5_fillFirstArrival 69 = .ok (.iand, 1) := by decide +kernel
theorem dX5_fillFirstArrival_70 : decode cX5_fillFirstArrival 70 = .ok (.iadd, 1) := by decide +kernel
theorem dX5_fillFirstArrival_71 : decode cX5_fillFirstArrival 71 = .ok (.istore 4, 2) := by decide +kernel
theorem dX5_fillFirstArrival_73 : decode cX5_fillFirstArrival 73 = .ok (.iinc 5 1, 3) := by decide +kernel
theorem dX5_fillFirstArrival_76 : decode cX5_fillFirstArrival 76 = .ok (.goto (-45), 3) := by decide +kernel
theorem dX5_fillFirstArrival_79 : decode cX5_fillFirstArrival 79 = .ok (.aload_n 0, 1) := by decide +kernel
theorem dX5_fillFirstArrival_80 : decode cX5_fillFirstArrival 80 = .ok (.getfield 35, 3) := by decide +kernel
theorem dX5_fillFirstArrival_83 : decode cX5_fillFirstArrival 83 = .ok (.iconst 0, 1) := by decide +kernel
theorem dX5_fillFirstArrival_84 : decode cX5_fillFirstArrival 84 = .ok (.aaload, 1) := by decide +kernel
theorem dX5_fillFirstArrival_85 : decode cX5_fillFirstArrival 85 = .ok (.iload_n 1, 1) := by decide +kernel
theorem dX5_fillFirstArrival_86 : decode cX5_fillFirstArrival 86 = .ok (.iload_n 3, 1) := by decide +kernel
theorem dX5_fillFirstArrival_87 : decode cX5_fillFirstArrival 87 = .ok (.iconst 1, 1) := by decide +kernel
theorem dX5_fillFirstArrival_88 : decode cX5_fillFirstArrival 88 = .ok (.if_icmp .gt 9, 3) := by decide +kernel
theorem dX5_fillFirstArrival_91 : decode cX5_fillFirstArrival 91 = .ok (.iload 4, 2) := by decide +kernel
theorem dX5_fillFirstArrival_93 : decode cX5_fillFirstArrival 93 = .ok (.iconst 1, 1) := by decide +kernel
theorem dX5_fillFirstArrival_94 : decode cX5_fillFirstArrival 94 = .ok (.if_icmp .le 8, 3) := by decide +kernel
theorem dX5_fillFirstArrival_97 : decode cX5_fillFirstArrival 97 = .ok (.ldc 68, 2) := by decide +kernel
theorem dX5_fillFirstArrival_99 : decode cX5_fillFirstArrival 99 = .ok (.goto 10, 3) := by decide +kernel
theorem dX5_fillFirstArrival_102 : decode cX5_fillFirstArrival 102 = .ok (.iload_n 3, 1) := by decide +kernel
theorem dX5_fillFirstArrival_103 : decode cX5_fillFirstArrival 103 = .ok (.iload 4, 2) := by decide +kernel
theorem dX5_fillFirstArrival_105 : decode cX5_fillFirstArrival 105 = .ok (.iadd, 1) := by decide +kernel
theorem dX5_fillFirstArrival_106 : decode cX5_fillFirstArrival 106 = .ok (.ldc 154, 2) := by decide +kernel
theorem dX5_fillFirstArrival_108 : decode cX5_fillFirstArrival 108 = .ok (.imul, 1) := by decide +kernel
theorem dX5_fillFirstArrival_109 : decode cX5_fillFirstArrival 109 = .ok (.iastore, 1) := by decide +kernel
theorem dX5_fillFirstArrival_110 : decode cX5_fillFirstArrival 110 = .ok (.iinc 1 1, 3) := by decide +kernel
theorem dX5_fillFirstArrival_113 : decode cX5_fillFirstArrival 113 = .ok (.goto (-111), 3) := by decide +kernel
theorem dX5_fillFirstArrival_116 : decode cX5_fillFirstArrival 116 = .ok (.return_, 1) := by decide +kernel
theorem dX5_unlikeStart_0 : decode cX5_unlikeStart 0 = .ok (.iconst 0, 1) := by decide +kernel
theorem dX5_unlikeStart_1 : decode cX5_unlikeStart 1 = .ok (.istore_n 2, 1) := by decide +kernel
theorem dX5_unlikeStart_2 : decode cX5_unlikeStart 2 = .ok (.iconst 0, 1) := by decide +kernel
theorem dX5_unlikeStart_3 : decode cX5_unlikeStart 3 = .ok (.istore_n 3, 1) := by decide +kernel
theorem dX5_unlikeStart_4 : decode cX5_unlikeStart 4 = .ok (.iload_n 3, 1) := by decide +kernel
theorem dX5_unlikeStart_5 : decode cX5_unlikeStart 5 = .ok (.bipush 7, 2) := by decide +kernel
theorem dX5_unlikeStart_7 : decode cX5_unlikeStart 7 = .ok (.if_icmp .ge 41, 3) := by decide +kernel
theorem dX5_unlikeStart_10 : decode cX5_unlikeStart 10 = .ok (.aload_n 0, 1) := by decide +kernel
theorem dX5_unlikeStart_11 : decode cX5_unlikeStart 11 = .ok (.getfield 15, 3) := by decide +kernel
theorem dX5_unlikeStart_14 : decode cX5_unlikeStart 14 = .ok (.getfield 217, 3) := by decide +kernel
theorem dX5_unlikeStart_17 : decode cX5_unlikeStart 17 = .ok (.iload_n 3, 1) := by decide +kernel
theorem dX5_unlikeStart_18 : decode cX5_unlikeStart 18 = .ok (.iaload, 1) := by decide +kernel
theorem dX5_unlikeStart_19 : decode cX5_unlikeStart 19 = .ok (.istore 4, 2) := by decide +kernel
theorem dX5_unlikeStart_21 : decode cX5_unlikeStart 21 = .ok (.iload 4, 2) := by decide +kernel
theorem dX5_unlikeStart_23 : decode cX5_unlikeStart 23 = .ok (.ifCond .lt 19, 3) := by decide +kernel
theorem dX5_unlikeStart_26 : decode cX5_unlikeStart 26 = .ok (.iload_n 2, 1) := by decide +kernel
theorem dX5_unlikeStart_27 : decode cX5_unlikeStart 27 = .ok (.iload_n 1, 1) := by decide +kernel
theorem dX5_unlikeStart_28 : decode cX5_unlikeStart 28 = .ok (.iload 4, 2) := by decide +kernel
theorem dX5_unlikeStart_30 : decode cX5_unlikeStart 30 = .ok (.iconst 2, 1) := by decide +kernel
theorem dX5_unlikeStart_31 : decode cX5_unlikeStart 31 = .ok (.iload_n 3, 1) := by decide +kernel
theorem dX5_unlikeStart_32 : decode cX5_unlikeStart 32 = .ok (.imul, 1) := by decide +kernel
theorem dX5_unlikeStart_33 : decode cX5_unlikeStart 33 = .ok (.ishl, 1) := by decide +kernel
theorem dX5_unlikeStart_34 : decode cX5_unlikeStart 34 = .ok (.ixor, 1) := by decide +kernel
theorem dX5_unlikeStart_35 : decode cX5_unlikeStart 35 = .ok (.iload_n 3, 1) := by decide +kernel
theorem dX5_unlikeStart_36 : decode cX5_unlikeStart 36 = .ok (.invokestatic 220, 3) := by decide +kernel
theorem dX5_unlikeStart_39 : decode cX5_unlikeStart 39 = .ok (.iand, 1) := by decide +kernel
theorem dX5_unlikeStart_40 : decode cX5_unlikeStart 40 = .ok (.ior, 1) := by decide +kernel
theorem dX5_unlikeStart_41 : decode cX5_unlikeStart 41 = .ok (.istore_n 2, 1) := by decide +kernel
theorem dX5_unlikeStart_42 : decode cX5_unlikeStart 42 = .ok (.iinc 3 1, 3) := by decide +kernel
theorem dX5_unlikeStart_45 : decode cX5_unlikeStart 45 = .ok (.goto (-41), 3) := by decide +kernel
theorem dX5_unlikeStart_48 : decode cX5_unlikeStart 48 = .ok (.iload_n 2, 1) := by decide +kernel
theorem dX5_unlikeStart_49 : decode cX5_unlikeStart 49 = .ok (.ireturn, 1) := by decide +kernel
theorem dX5_fillLockedArrival_0 : decode cX5_fillLockedArrival 0 = .ok (.aload_n 2, 1) := by decide +kernel
theorem dX5_fillLockedArrival_1 : decode cX5_fillLockedArrival 1 = .ok (.ldc 68, 2) := by decide +kernel
theorem dX5_fillLockedArrival_3 : decode cX5_fillLockedArrival 3 = .ok (.invokestatic 157, 3) := by decide +kernel
theorem dX5_fillLockedArrival_6 : decode cX5_fillLockedArrival 6 = .ok (.aload_n 0, 1) := by decide +kernel
theorem dX5_fillLockedArrival_7 : decode cX5_fillLockedArrival 7 = .ok (.getfield 42, 3) := by decide +kernel
theorem dX5_fillLockedArrival_10 : decode cX5_fillLockedArrival 10 = .ok (.ldc 68, 2) := by decide +kernel
theorem dX5_fillLockedArrival_12 : decode cX5_fillLockedArrival 12 = .ok (.invokestatic 157, 3) := by decide +kernel
theorem dX5_fillLockedArrival_15 : decode cX5_fillLockedArrival 15 = .ok (.aload_n 0, 1) := by decide +kernel
theorem dX5_fillLockedArrival_16 : decode cX5_fillLockedArrival 16 = .ok (.getfield 45, 3) := by decide +kernel
theorem dX5_fillLockedArrival_19 : decode cX5_fillLockedArrival 19 = .ok (.ldc 68, 2) := by decide +kernel
theorem dX5_fillLockedArrival_21 : decode cX5_fillLockedArrival 21 = .ok (.invokestatic 157, 3) := by decide +kernel
theorem dX5_fillLockedArrival_24 : decode cX5_fillLockedArrival 24 = .ok (.iconst 0, 1) := by decide +kernel
theorem dX5_fillLockedArrival_25 : decode cX5_fillLockedArrival 25 = .ok (.istore_n 3, 1) := by decide +kernel
theorem dX5_fillLockedArrival_26 : decode cX5_fillLockedArrival 26 = .ok (.iload_n 3, 1) := by decide +kernel
theorem dX5_fillLockedArrival_27 : decode cX5_fillLockedArrival 27 = .ok (.sipush 2187, 3) := by decide +kernel
theorem dX5_fillLockedArrival_30 : decode cX5_fillLockedArrival 30 = .ok (.if_icmp .ge 109, 3) := by decide +kernel
theorem dX5_fillLockedArrival_33 : decode cX5_fillLockedArrival 33 = .ok (.aload_n 1, 1) := by decide +kernel
theorem dX5_fillLockedArrival_34 : decode cX5_fillLockedArrival 34 = .ok (.iload_n 3, 1) := by decide +kernel
theorem dX5_fillLockedArrival_35 : decode cX5_fillLockedArrival 35 = .ok (.iaload, 1) := by decide +kernel
theorem dX5_fillLockedArrival_36 : decode cX5_fillLockedArrival 36 = .ok (.ldc 68, 2) := by decide +kernel
theorem dX5_fillLockedArrival_38 : decode cX5_fillLockedArrival 38 = .ok (.if_icmp .lt 6, 3) := by decide +kernel
theorem dX5_fillLockedArrival_41 : decode cX5_fillLockedArrival 41 = .ok (.goto 92, 3) := by decide +kernel
theorem dX5_fillLockedArrival_44 : decode cX5_fillLockedArrival 44 = .ok (.aload_n 0, 1) := by decide +kernel
theorem dX5_fillLockedArrival_45 : decode cX5_fillLockedArrival 45 = .ok (.getfield 22, 3) := by decide +kernel
theorem dX5_fillLockedArrival_48 : decode cX5_fillLockedArrival 48 = .ok (.aload_n 0, 1) := by decide +kernel
theorem dX5_fillLockedArrival_49 : decode cX5_fillLockedArrival 49 = .ok (.getfield 11, 3) := by decide +kernel
theorem dX5_fillLockedArrival_52 : decode cX5_fillLockedArrival 52 = .ok (.getfield 125, 3) := by decide +kernel
theorem dX5_fillLockedArrival_55 : decode cX5_fillLockedArrival 55 = .ok (.iload_n 3, 1) := by decide +kernel
theorem dX5_fillLockedArrival_56 : decode cX5_fillLockedArrival 56 = .ok (.iaload, 1) := by decide +kernel
theorem dX5_fillLockedArrival_57 : decode cX5_fillLockedArrival 57 = .ok (.invokevirtual 141, 3) := by decide +kernel
theorem dX5_fillLockedArrival_60 : decode cX5_fillLockedArrival 60 = .ok (.istore 4, 2) := by decide +kernel
theorem dX5_fillLockedArrival_62 : decode cX5_fillLockedArrival 62 = .ok (.iload 4, 2) := by decide +kernel
theorem dX5_fillLockedArrival_64 : decode cX5_fillLockedArrival 64 = .ok (.bipush 60, 2) := by decide +kernel
theorem dX5_fillLockedArrival_66 : decode cX5_fillLockedArrival 66 = .ok (.iand, 1) := by decide +kernel
theorem dX5_fillLockedArrival_67 : decode cX5_fillLockedArrival 67 = .ok (.ifCond .ne 25, 3) := by decide +kernel
theorem dX5_fillLockedArrival_70 : decode cX5_fillLockedArrival 70 = .ok (.aload_n 0, 1) := by decide +kernel
theorem dX5_fillLockedArrival_71 : decode cX5_fillLockedArrival 71 = .ok (.aload_n 1, 1) := by decide +kernel
theorem dX5_fillLockedArrival_72 : decode cX5_fillLockedArrival 72 = .ok (.iload_n 3, 1) := by decide +kernel
theorem dX5_fillLockedArrival_73 : decode cX5_fillLockedArrival 73 = .ok (.iaload, 1) := by decide +kernel
theorem dX5_fillLockedArrival_74 : decode cX5_fillLockedArrival 74 = .ok (.iload_n 3, 1) := by decide +kernel
theorem dX5_fillLockedArrival_75 : decode cX5_fillLockedArrival 75 = .ok (.bipush 67, 2) := by decide +kernel
theorem dX5_fillLockedArrival_77 : decode cX5_fillLockedArrival 77 = .ok (.iload 4, 2) := by decide +kernel
theorem dX5_fillLockedArrival_79 : decode cX5_fillLockedArrival 79 = .ok (.iconst (-1), 1) := by decide +kernel
theorem dX5_fillLockedArrival_80 : decode cX5_fillLockedArrival 80 = .ok (.ixor, 1) := by decide +kernel
theorem dX5_fillLockedArrival_81 : decode cX5_fillLockedArrival 81 = .ok (.iand, 1) := by decide +kernel
theorem dX5_fillLockedArrival_82 : decode cX5_fillLockedArrival 82 = .ok (.aload_n 0, 1) := by decide +kernel
theorem dX5_fillLockedArrival_83 : decode cX5_fillLockedArrival 83 = .ok (.getfield 42, 3) := by decide +kernel
theorem dX5_fillLockedArrival_86 : decode cX5_fillLockedArrival 86 = .ok (.invokevirtual 223, 3) := by decide +kernel
theorem dX5_fillLockedArrival_89 : decode cX5_fillLockedArrival 89 = .ok (.goto 44, 3) := by decide +kernel
theorem dX5_fillLockedArrival_92 : decode cX5_fillLockedArrival 92 = .ok (.iload 4, 2) := by decide +kernel
theorem dX5_fillLockedArrival_94 : decode cX5_fillLockedArrival 94 = .ok (.bipush 67, 2) := by decide +kernel
theorem dX5_fillLockedArrival_96 : decode cX5_fillLockedArrival 96 = .ok (.iand, 1) := by decide +kernel
theorem dX5_fillLockedArrival_97 : decode cX5_fillLockedArrival 97 = .ok (.ifCond .ne 25, 3) := by decide +kernel
theorem dX5_fillLockedArrival_100 : decode cX5_fillLockedArrival 100 = .ok (.aload_n 0, 1) := by decide +kernel
theorem dX5_fillLockedArrival_101 : decode cX5_fillLockedArrival 101 = .ok (.aload_n 1, 1) := by decide +kernel
theorem dX5_fillLockedArrival_102 : decode cX5_fillLockedArrival 102 = .ok (.iload_n 3, 1) := by decide +kernel
theorem dX5_fillLockedArrival_103 : decode cX5_fillLockedArrival 103 = .ok (.iaload, 1) := by decide +kernel
theorem dX5_fillLockedArrival_104 : decode cX5_fillLockedArrival 104 = .ok (.iload_n 3, 1) := by decide +kernel
theorem dX5_fillLockedArrival_105 : decode cX5_fillLockedArrival 105 = .ok (.bipush 60, 2) := by decide +kernel
theorem dX5_fillLockedArrival_107 : decode cX5_fillLockedArrival 107 = .ok (.iload 4, 2) := by decide +kernel
theorem dX5_fillLockedArrival_109 : decode cX5_fillLockedArrival 109 = .ok (.iconst (-1), 1) := by decide +kernel
theorem dX5_fillLockedArrival_110 : decode cX5_fillLockedArrival 110 = .ok (.ixor, 1) := by decide +kernel
theorem dX5_fillLockedArrival_111 : decode cX5_fillLockedArrival 111 = .ok (.iand, 1) := by decide +kernel
theorem dX5_fillLockedArrival_112 : decode cX5_fillLockedArrival 112 = .ok (.aload_n 0, 1) := by decide +kernel
theorem dX5_fillLockedArrival_113 : decode cX5_fillLockedArrival 113 = .ok (.getfield 45, 3) := by decide +kernel
theorem dX5_fillLockedArrival_116 : decode cX5_fillLockedArrival 116 = .ok (.invokevirtual 223, 3) := by decide +kernel
theorem dX5_fillLockedArrival_119 : decode cX5_fillLockedArrival 119 = .ok (.goto 14, 3) := by decide +kernel
theorem dX5_fillLockedArrival_122 : decode cX5_fillLockedArrival 122 = .ok (.aload_n 0, 1) := by decide +kernel
theorem dX5_fillLockedArrival_123 : decode cX5_fillLockedArrival 123 = .ok (.aload_n 1, 1) := by decide +kernel
theorem dX5_fillLockedArrival_124 : decode cX5_fillLockedArrival 124 = .ok (.iload_n 3, 1) := by decide +kernel
theorem dX5_fillLockedArrival_125 : decode cX5_fillLockedArrival 125 = .ok (.iaload, 1) := by decide +kernel
theorem dX5_fillLockedArrival_126 : decode cX5_fillLockedArrival 126 = .ok (.iload_n 3, 1) := by decide +kernel
theorem dX5_fillLockedArrival_127 : decode cX5_fillLockedArrival 127 = .ok (.iload 4, 2) := by decide +kernel
theorem dX5_fillLockedArrival_129 : decode cX5_fillLockedArrival 129 = .ok (.aload_n 2, 1) := by decide +kernel
theorem dX5_fillLockedArrival_130 : decode cX5_fillLockedArrival 130 = .ok (.invokevirtual 227, 3) := by decide +kernel
theorem dX5_fillLockedArrival_133 : decode cX5_fillLockedArrival 133 = .ok (.iinc 3 1, 3) := by decide +kernel
theorem dX5_fillLockedArrival_136 : decode cX5_fillLockedArrival 136 = .ok (.goto (-110), 3) := by decide +kernel
theorem dX5_fillLockedArrival_139 : decode cX5_fillLockedArrival 139 = .ok (.aload_n 0, 1) := by decide +kernel
theorem dX5_fillLockedArrival_140 : decode cX5_fillLockedArrival 140 = .ok (.getfield 42, 3) := by decide +kernel
theorem dX5_fillLockedArrival_143 : decode cX5_fillLockedArrival 143 = .ok (.bipush 60, 2) := by decide +kernel
theorem dX5_fillLockedArrival_145 : decode cX5_fillLockedArrival 145 = .ok (.aload_n 0, 1) := by decide +kernel
theorem dX5_fillLockedArrival_146 : decode cX5_fillLockedArrival 146 = .ok (.getfield 38, 3) := by decide +kernel
theorem dX5_fillLockedArrival_149 : decode cX5_fillLockedArrival 149 = .ok (.invokestatic 173, 3) := by decide +kernel
theorem dX5_fillLockedArrival_152 : decode cX5_fillLockedArrival 152 = .ok (.aload_n 2, 1) := by decide +kernel
theorem dX5_fillLockedArrival_153 : decode cX5_fillLockedArrival 153 = .ok (.aload_n 0, 1) := by decide +kernel
theorem dX5_fillLockedArrival_154 : decode cX5_fillLockedArrival 154 = .ok (.getfield 38, 3) := by decide +kernel
theorem dX5_fillLockedArrival_157 : decode cX5_fillLockedArrival 157 = .ok (.invokestatic 230, 3) := by decide +kernel
theorem dX5_fillLockedArrival_160 : decode cX5_fillLockedArrival 160 = .ok (.aload_n 0, 1) := by decide +kernel
theorem dX5_fillLockedArrival_161 : decode cX5_fillLockedArrival 161 = .ok (.getfield 45, 3) := by decide +kernel
theorem dX5_fillLockedArrival_164 : decode cX5_fillLockedArrival 164 = .ok (.bipush 67, 2) := by decide +kernel
theorem dX5_fillLockedArrival_166 : decode cX5_fillLockedArrival 166 = .ok (.aload_n 0, 1) := by decide +kernel
theorem dX5_fillLockedArrival_167 : decode cX5_fillLockedArrival 167 = .ok (.getfield 38, 3) := by decide +kernel
theorem dX5_fillLockedArrival_170 : decode cX5_fillLockedArrival 170 = .ok (.invokestatic 173, 3) := by decide +kernel
theorem dX5_fillLockedArrival_173 : decode cX5_fillLockedArrival 173 = .ok (.aload_n 2, 1) := by decide +kernel
theorem dX5_fillLockedArrival_174 : decode cX5_fillLockedArrival 174 = .ok (.aload_n 0, 1) := by decide +kernel
theorem dX5_fillLockedArrival_175 : decode cX5_fillLockedArrival 175 = .ok (.getfield 38, 3) := by decide +kernel
theorem dX5_fillLockedArrival_178 : decode cX5_fillLockedArrival 178 = .ok (.invokestatic 230, 3) := by decide +kernel
theorem dX5_fillLockedArrival_181 : decode cX5_fillLockedArrival 181 = .ok (.return_, 1) := by decide +kernel
theorem dX5_bringByBoth_0 : decode cX5_bringByBoth 0 = .ok (.aload_n 0, 1) := by decide +kernel
theorem dX5_bringByBoth_1 : decode cX5_bringByBoth 1 = .ok (.iload_n 2, 1) := by decide +kernel
theorem dX5_bringByBoth_2 : decode cX5_bringByBoth 2 = .ok (.bipush 67, 2) := by decide +kernel
theorem dX5_bringByBoth_4 : decode cX5_bringByBoth 4 = .ok (.iload_n 3, 1) := by decide +kernel
theorem dX5_bringByBoth_5 : decode cX5_bringByBoth 5 = .ok (.iconst (-1), 1) := by decide +kernel
theorem dX5_bringByBoth_6 : decode cX5_bringByBoth 6 = .ok (.ixor, 1) := by decide +kernel
theorem dX5_bringByBoth_7 : decode cX5_bringByBoth 7 = .ok (.iand, 1) := by decide +kernel
theorem dX5_bringByBoth_8 : decode cX5_bringByBoth 8 = .ok (.aload_n 0, 1) := by decide +kernel
theorem dX5_bringByBoth_9 : decode cX5_bringByBoth 9 = .ok (.getfield 48, 3) := by decide +kernel
theorem dX5_bringByBoth_12 : decode cX5_bringByBoth 12 = .ok (.invokevirtual 198, 3) := by decide +kernel
theorem dX5_bringByBoth_15 : decode cX5_bringByBoth 15 = .ok (.istore 5, 2) := by decide +kernel
theorem dX5_bringByBoth_17 : decode cX5_bringByBoth 17 = .ok (.aload_n 0, 1) := by decide +kernel
theorem dX5_bringByBoth_18 : decode cX5_bringByBoth 18 = .ok (.iload_n 1, 1) := by decide +kernel
theorem dX5_bringByBoth_19 : decode cX5_bringByBoth 19 = .ok (.iload_n 2, 1) := by decide +kernel
theorem dX5_bringByBoth_20 : decode cX5_bringByBoth 20 = .ok (.bipush 60, 2) := by decide +kernel
theorem dX5_bringByBoth_22 : decode cX5_bringByBoth 22 = .ok (.iload_n 3, 1) := by decide +kernel
theorem dX5_bringByBoth_23 : decode cX5_bringByBoth 23 = .ok (.iconst (-1), 1) := by decide +kernel
theorem dX5_bringByBoth_24 : decode cX5_bringByBoth 24 = .ok (.ixor, 1) := by decide +kernel
theorem dX5_bringByBoth_25 : decode cX5_bringByBoth 25 = .ok (.iand, 1) := by decide +kernel
theorem dX5_bringByBoth_26 : decode cX5_bringByBoth 26 = .ok (.aload 4, 2) := by decide +kernel
theorem dX5_bringByBoth_28 : decode cX5_bringByBoth 28 = .ok (.invokevirtual 223, 3) := by decide +kernel
theorem dX5_bringByBoth_31 : decode cX5_bringByBoth 31 = .ok (.iconst 1, 1) := by decide +kernel
theorem dX5_bringByBoth_32 : decode cX5_bringByBoth 32 = .ok (.istore 6, 2) := by decide +kernel
theorem dX5_bringByBoth_34 : decode cX5_bringByBoth 34 = .ok (.iload 6, 2) := by decide +kernel
theorem dX5_bringByBoth_36 : decode cX5_bringByBoth 36 = .ok (.iload 5, 2) := by decide +kernel
theorem dX5_bringByBoth_38 : decode cX5_bringByBoth 38 = .ok (.if_icmp .ge 32, 3) := by decide +kernel
theorem dX5_bringByBoth_41 : decode cX5_bringByBoth 41 = .ok (.aload_n 0, 1) := by decide +kernel
theorem dX5_bringByBoth_42 : decode cX5_bringByBoth 42 = .ok (.iload_n 1, 1) := by decide +kernel
theorem dX5_bringByBoth_43 : decode cX5_bringByBoth 43 = .ok (.ldc 154, 2) := by decide +kernel
theorem dX5_bringByBoth_45 : decode cX5_bringByBoth 45 = .ok (.iadd, 1) := by decide +kernel
theorem dX5_bringByBoth_46 : decode cX5_bringByBoth 46 = .ok (.aload_n 0, 1) := by decide +kernel
theorem dX5_bringByBoth_47 : decode cX5_bringByBoth 47 = .ok (.getfield 48, 3) := by decide +kernel
theorem dX5_bringByBoth_50 : decode cX5_bringByBoth 50 = .ok (.iload 6, 2) := by decide +kernel
theorem dX5_bringByBoth_52 : decode cX5_bringByBoth 52 = .ok (.iaload, 1) := by decide +kernel
theorem dX5_bringByBoth_53 : decode cX5_bringByBoth 53 = .ok (.bipush 60, 2) := by decide +kernel
theorem dX5_bringByBoth_55 : decode cX5_bringByBoth 55 = .ok (.iload_n 3, 1) := by decide +kernel
theorem dX5_bringByBoth_56 : decode cX5_bringByBoth 56 = .ok (.iconst (-1), 1) := by decide +kernel
theorem dX5_bringByBoth_57 : decode cX5_bringByBoth 57 = .ok (.ixor, 1) := by decide +kernel
theorem dX5_bringByBoth_58 : decode cX5_bringByBoth 58 = .ok (.iand, 1) := by decide +kernel
theorem dX5_bringByBoth_59 : decode cX5_bringByBoth 59 = .ok (.aload 4, 2) := by decide +kernel
theorem dX5_bringByBoth_61 : decode cX5_bringByBoth 61 = .ok (.invokevirtual 223, 3) := by decide +kernel
theorem dX5_bringByBoth_64 : decode cX5_bringByBoth 64 = .ok (.iinc 6 1, 3) := by decide +kernel
theorem dX5_bringByBoth_67 : decode cX5_bringByBoth 67 = .ok (.goto (-33), 3) := by decide +kernel
theorem dX5_bringByBoth_70 : decode cX5_bringByBoth 70 = .ok (.return_, 1) := by decide +kernel
theorem dX5_bringByFoot_0 : decode cX5_bringByFoot 0 = .ok (.aload_n 0, 1) := by decide +kernel
theorem dX5_bringByFoot_1 : decode cX5_bringByFoot 1 = .ok (.iload_n 2, 1) := by decide +kernel
theorem dX5_bringByFoot_2 : decode cX5_bringByFoot 2 = .ok (.iload_n 3, 1) := by decide +kernel
theorem dX5_bringByFoot_3 : decode cX5_bringByFoot 3 = .ok (.aload_n 0, 1) := by decide +kernel
theorem dX5_bringByFoot_4 : decode cX5_bringByFoot 4 = .ok (.getfield 51, 3) := by decide +kernel
theorem dX5_bringByFoot_7 : decode cX5_bringByFoot 7 = .ok (.invokevirtual 198, 3) := by decide +kernel
theorem dX5_bringByFoot_10 : decode cX5_bringByFoot 10 = .ok (.istore 5, 2) := by decide +kernel
theorem dX5_bringByFoot_12 : decode cX5_bringByFoot 12 = .ok (.aload 4, 2) := by decide +kernel
theorem dX5_bringByFoot_14 : decode cX5_bringByFoot 14 = .ok (.iload_n 2, 1) := by decide +kernel
theorem dX5_bringByFoot_15 : decode cX5_bringByFoot 15 = .ok (.aload 4, 2) := by decide +kernel
theorem dX5_bringByFoot_17 : decode cX5_bringByFoot 17 = .ok (.iload_n 2, 1) := by decide +kernel
theorem dX5_bringByFoot_18 : decode cX5_bringByFoot 18 = .ok (.iaload, 1) := by decide +kernel
theorem dX5_bringByFoot_19 : decode cX5_bringByFoot 19 = .ok (.iload_n 1, 1) := by decide +kernel
theorem dX5_bringByFoot_20 : decode cX5_bringByFoot 20 = .ok (.invokestatic 87, 3) := by decide +kernel
theorem dX5_bringByFoot_23 : decode cX5_bringByFoot 23 = .ok (.iastore, 1) := by decide +kernel
theorem dX5_bringByFoot_24 : decode cX5_bringByFoot 24 = .ok (.iconst 1, 1) := by decide +kernel
theorem dX5_bringByFoot_25 : decode cX5_bringByFoot 25 = .ok (.istore 6, 2) := by decide +kernel
theorem dX5_bringByFoot_27 : decode cX5_bringByFoot 27 = .ok (.iload 6, 2) := by decide +kernel
theorem dX5_bringByFoot_29 : decode cX5_bringByFoot 29 = .ok (.iload 5, 2) := by decide +kernel
theorem dX5_bringByFoot_31 : decode cX5_bringByFoot 31 = .ok (.if_icmp .ge 36, 3) := by decide +kernel
theorem dX5_bringByFoot_34 : decode cX5_bringByFoot 34 = .ok (.aload 4, 2) := by decide +kernel
theorem dX5_bringByFoot_36 : decode cX5_bringByFoot 36 = .ok (.aload_n 0, 1) := by decide +kernel
theorem dX5_bringByFoot_37 : decode cX5_bringByFoot 37 = .ok (.getfield 51, 3) := by decide +kernel
theorem dX5_bringByFoot_40 : decode cX5_bringByFoot 40 = .ok (.iload 6, 2) := by decide +kernel
theorem dX5_bringByFoot_42 : decode cX5_bringByFoot 42 = .ok (.iaload, 1) := by decide +kernel
theorem dX5_bringByFoot_43 : decode cX5_bringByFoot 43 = .ok (.aload 4, 2) := by decide +kernel
theorem dX5_bringByFoot_45 : decode cX5_bringByFoot 45 = .ok (.aload_n 0, 1) := by decide +kernel
theorem dX5_bringByFoot_46 : decode cX5_bringByFoot 46 = .ok (.getfield 51, 3) := by decide +kernel
theorem dX5_bringByFoot_49 : decode cX5_bringByFoot 49 = .ok (.iload 6, 2) := by decide +kernel
theorem dX5_bringByFoot_51 : decode cX5_bringByFoot 51 = .ok (.iaload, 1) := by decide +kernel
theorem dX5_bringByFoot_52 : decode cX5_bringByFoot 52 = .ok (.iaload, 1) := by decide +kernel
theorem dX5_bringByFoot_53 : decode cX5_bringByFoot 53 = .ok (.iload_n 1, 1) := by decide +kernel
theorem dX5_bringByFoot_54 : decode cX5_bringByFoot 54 = .ok (.ldc 154, 2) := by decide +kernel
theorem dX5_bringByFoot_56 : decode cX5_bringByFoot 56 = .ok (.iadd, 1) := by decide +kernel
theorem dX5_bringByFoot_57 : decode cX5_bringByFoot 57 = .ok (.invokestatic 87, 3) := by decide +kernel
theorem dX5_bringByFoot_60 : decode cX5_bringByFoot 60 = .ok (.iastore, 1) := by decide +kernel
theorem dX5_bringByFoot_61 : decode cX5_bringByFoot 61 = .ok (.iinc 6 1, 3) := by decide +kernel
theorem dX5_bringByFoot_64 : decode cX5_bringByFoot 64 = .ok (.goto (-37), 3) := by decide +kernel
theorem dX5_bringByFoot_67 : decode cX5_bringByFoot 67 = .ok (.return_, 1) := by decide +kernel
theorem dX5_lessen_0 : decode cX5_lessen 0 = .ok (.iconst 0, 1) := by decide +kernel
theorem dX5_lessen_1 : decode cX5_lessen 1 = .ok (.istore_n 2, 1) := by decide +kernel
theorem dX5_lessen_2 : decode cX5_lessen 2 = .ok (.iload_n 2, 1) := by decide +kernel
theorem dX5_lessen_3 : decode cX5_lessen 3 = .ok (.sipush 2187, 3) := by decide +kernel
theorem dX5_lessen_6 : decode cX5_lessen 6 = .ok (.if_icmp .ge 21, 3) := by decide +kernel
theorem dX5_lessen_9 : decode cX5_lessen 9 = .ok (.aload_n 0, 1) := by decide +kernel
theorem dX5_lessen_10 : decode cX5_lessen 10 = .ok (.iload_n 2, 1) := by decide +kernel
theorem dX5_lessen_11 : decode cX5_lessen 11 = .ok (.aload_n 0, 1) := by decide +kernel
theorem dX5_lessen_12 : decode cX5_lessen 12 = .ok (.iload_n 2, 1) := by decide +kernel
theorem dX5_lessen_13 : decode cX5_lessen 13 = .ok (.iaload, 1) := by decide +kernel
theorem dX5_lessen_14 : decode cX5_lessen 14 = .ok (.aload_n 1, 1) := by decide +kernel
theorem dX5_lessen_15 : decode cX5_lessen 15 = .ok (.iload_n 2, 1) := by decide +kernel
theorem dX5_lessen_16 : decode cX5_lessen 16 = .ok (.iaload, 1) := by decide +kernel
theorem dX5_lessen_17 : decode cX5_lessen 17 = .ok (.invokestatic 87, 3) := by decide +kernel
theorem dX5_lessen_20 : decode cX5_lessen 20 = .ok (.iastore, 1) := by decide +kernel
theorem dX5_lessen_21 : decode cX5_lessen 21 = .ok (.iinc 2 1, 3) := by decide +kernel
theorem dX5_lessen_24 : decode cX5_lessen 24 = .ok (.goto (-22), 3) := by decide +kernel
theorem dX5_lessen_27 : decode cX5_lessen 27 = .ok (.return_, 1) := by decide +kernel
