theorem dX7_splitOf_105 : decode cX7_splitOf 105 = .ok (.getfield 50, 3) := by decide +kernel
theorem dX7_splitOf_108 : decode cX7_splitOf 108 = .ok (.iload 7, 2) := by decide +kernel
theorem dX7_splitOf_110 : decode cX7_splitOf 110 = .ok (.iconst 1, 1) := by decide +kernel
theorem dX7_splitOf_111 : decode cX7_splitOf 111 = .ok (.isub, 1) := by decide +kernel
theorem dX7_splitOf_112 : decode cX7_splitOf 112 = .ok (.iaload, 1) := by decide +kernel
theorem dX7_splitOf_113 : decode cX7_splitOf 113 = .ok (.iastore, 1) := by decide +kernel
theorem dX7_splitOf_114 : decode cX7_splitOf 114 = .ok (.iinc 7 (-1), 3) := by decide +kernel
theorem dX7_splitOf_117 : decode cX7_splitOf 117 = .ok (.goto (-54), 3) := by decide +kernel
theorem dX7_splitOf_120 : decode cX7_splitOf 120 = .ok (.aload_n 0, 1) := by decide +kernel
theorem dX7_splitOf_121 : decode cX7_splitOf 121 = .ok (.getfield 47, 3) := by decide +kernel
theorem dX7_splitOf_124 : decode cX7_splitOf 124 = .ok (.iload 7, 2) := by decide +kernel
theorem dX7_splitOf_126 : decode cX7_splitOf 126 = .ok (.iload 5, 2) := by decide +kernel
theorem dX7_splitOf_128 : decode cX7_splitOf 128 = .ok (.iastore, 1) := by decide +kernel
theorem dX7_splitOf_129 : decode cX7_splitOf 129 = .ok (.aload_n 0, 1) := by decide +kernel
theorem dX7_splitOf_130 : decode cX7_splitOf 130 = .ok (.getfield 50, 3) := by decide +kernel
theorem dX7_splitOf_133 : decode cX7_splitOf 133 = .ok (.iload 7, 2) := by decide +kernel
theorem dX7_splitOf_135 : decode cX7_splitOf 135 = .ok (.iload 6, 2) := by decide +kernel
theorem dX7_splitOf_137 : decode cX7_splitOf 137 = .ok (.iastore, 1) := by decide +kernel
theorem dX7_splitOf_138 : decode cX7_splitOf 138 = .ok (.iinc 4 1, 3) := by decide +kernel
theorem dX7_splitOf_141 : decode cX7_splitOf 141 = .ok (.goto (-129), 3) := by decide +kernel
theorem dX7_splitOf_144 : decode cX7_splitOf 144 = .ok (.iconst 0, 1) := by decide +kernel
theorem dX7_splitOf_145 : decode cX7_splitOf 145 = .ok (.istore 4, 2) := by decide +kernel
theorem dX7_splitOf_147 : decode cX7_splitOf 147 = .ok (.iload 4, 2) := by decide +kernel
theorem dX7_splitOf_149 : decode cX7_splitOf 149 = .ok (.iload_n 3, 1) := by decide +kernel
theorem dX7_splitOf_150 : decode cX7_splitOf 150 = .ok (.if_icmp .gt 32, 3) := by decide +kernel
theorem dX7_splitOf_153 : decode cX7_splitOf 153 = .ok (.aload_n 0, 1) := by decide +kernel
theorem dX7_splitOf_154 : decode cX7_splitOf 154 = .ok (.iconst 0, 1) := by decide +kernel
theorem dX7_splitOf_155 : decode cX7_splitOf 155 = .ok (.iload 4, 2) := by decide +kernel
theorem dX7_splitOf_157 : decode cX7_splitOf 157 = .ok (.invokevirtual 159, 3) := by decide +kernel
theorem dX7_splitOf_160 : decode cX7_splitOf 160 = .ok (.ifCond .eq 16, 3) := by decide +kernel
theorem dX7_splitOf_163 : decode cX7_splitOf 163 = .ok (.aload_n 0, 1) := by decide +kernel
theorem dX7_splitOf_164 : decode cX7_splitOf 164 = .ok (.iload 4, 2) := by decide +kernel
theorem dX7_splitOf_166 : decode cX7_splitOf 166 = .ok (.iload_n 3, 1) := by decide +kernel
theorem dX7_splitOf_167 : decode cX7_splitOf 167 = .ok (.invokevirtual 159, 3) := by decide +kernel
theorem dX7_splitOf_170 : decode cX7_splitOf 170 = .ok (.ifCond .eq 6, 3) := by decide +kernel
theorem dX7_splitOf_173 : decode cX7_splitOf 173 = .ok (.iload 4, 2) := by decide +kernel
theorem dX7_splitOf_175 : decode cX7_splitOf 175 = .ok (.ireturn, 1) := by decide +kernel
theorem dX7_splitOf_176 : decode cX7_splitOf 176 = .ok (.iinc 4 1, 3) := by decide +kernel
theorem dX7_splitOf_179 : decode cX7_splitOf 179 = .ok (.goto (-32), 3) := by decide +kernel
theorem dX7_splitOf_182 : decode cX7_splitOf 182 = .ok (.iconst (-1), 1) := by decide +kernel
theorem dX7_splitOf_183 : decode cX7_splitOf 183 = .ok (.ireturn, 1) := by decide +kernel
theorem dX7_split_0 : decode cX7_split 0 = .ok (.iload_n 1, 1) := by decide +kernel
theorem dX7_split_1 : decode cX7_split 1 = .ok (.invokestatic 64, 3) := by decide +kernel
theorem dX7_split_4 : decode cX7_split 4 = .ok (.ifCond .eq 10, 3) := by decide +kernel
theorem dX7_split_7 : decode cX7_split 7 = .ok (.iload_n 2, 1) := by decide +kernel
theorem dX7_split_8 : decode cX7_split 8 = .ok (.invokestatic 115, 3) := by decide +kernel
theorem dX7_split_11 : decode cX7_split 11 = .ok (.ifCond .ne 10, 3) := by decide +kernel
theorem dX7_split_14 : decode cX7_split 14 = .ok (.aload_n 0, 1) := by decide +kernel
theorem dX7_split_15 : decode cX7_split 15 = .ok (.ldc 83, 2) := by decide +kernel
theorem dX7_split_17 : decode cX7_split 17 = .ok (.invokevirtual 72, 3) := by decide +kernel
theorem dX7_split_20 : decode cX7_split 20 = .ok (.ireturn, 1) := by decide +kernel
theorem dX7_split_21 : decode cX7_split 21 = .ok (.aload_n 0, 1) := by decide +kernel
theorem dX7_split_22 : decode cX7_split 22 = .ok (.iload_n 1, 1) := by decide +kernel
theorem dX7_split_23 : decode cX7_split 23 = .ok (.iload_n 2, 1) := by decide +kernel
theorem dX7_split_24 : decode cX7_split 24 = .ok (.invokevirtual 124, 3) := by decide +kernel
theorem dX7_split_27 : decode cX7_split 27 = .ok (.ifCond .ne 10, 3) := by decide +kernel
theorem dX7_split_30 : decode cX7_split 30 = .ok (.aload_n 0, 1) := by decide +kernel
theorem dX7_split_31 : decode cX7_split 31 = .ok (.ldc 97, 2) := by decide +kernel
theorem dX7_split_33 : decode cX7_split 33 = .ok (.invokevirtual 72, 3) := by decide +kernel
theorem dX7_split_36 : decode cX7_split 36 = .ok (.ireturn, 1) := by decide +kernel
theorem dX7_split_37 : decode cX7_split 37 = .ok (.aload_n 0, 1) := by decide +kernel
theorem dX7_split_38 : decode cX7_split 38 = .ok (.iload_n 1, 1) := by decide +kernel
theorem dX7_split_39 : decode cX7_split 39 = .ok (.iload_n 2, 1) := by decide +kernel
theorem dX7_split_40 : decode cX7_split 40 = .ok (.invokevirtual 162, 3) := by decide +kernel
theorem dX7_split_43 : decode cX7_split 43 = .ok (.istore_n 3, 1) := by decide +kernel
theorem dX7_split_44 : decode cX7_split 44 = .ok (.iload_n 3, 1) := by decide +kernel
theorem dX7_split_45 : decode cX7_split 45 = .ok (.ifCond .ge 12, 3) := by decide +kernel
theorem dX7_split_48 : decode cX7_split 48 = .ok (.aload_n 0, 1) := by decide +kernel
theorem dX7_split_49 : decode cX7_split 49 = .ok (.ldc 71, 2) := by decide +kernel
theorem dX7_split_51 : decode cX7_split 51 = .ok (.invokevirtual 72, 3) := by decide +kernel
theorem dX7_split_54 : decode cX7_split 54 = .ok (.goto 4, 3) := by decide +kernel
theorem dX7_split_57 : decode cX7_split 57 = .ok (.iload_n 3, 1) := by decide +kernel
theorem dX7_split_58 : decode cX7_split 58 = .ok (.ireturn, 1) := by decide +kernel
theorem dX7_hard_0 : decode cX7_hard 0 = .ok (.aload_n 0, 1) := by decide +kernel
theorem dX7_hard_1 : decode cX7_hard 1 = .ok (.invokevirtual 156, 3) := by decide +kernel
theorem dX7_hard_4 : decode cX7_hard 4 = .ok (.ldc 140, 2) := by decide +kernel
theorem dX7_hard_6 : decode cX7_hard 6 = .ok (.if_icmp .ne 10, 3) := by decide +kernel
theorem dX7_hard_9 : decode cX7_hard 9 = .ok (.aload_n 0, 1) := by decide +kernel
theorem dX7_hard_10 : decode cX7_hard 10 = .ok (.ldc 71, 2) := by decide +kernel
theorem dX7_hard_12 : decode cX7_hard 12 = .ok (.invokevirtual 72, 3) := by decide +kernel
theorem dX7_hard_15 : decode cX7_hard 15 = .ok (.ireturn, 1) := by decide +kernel
theorem dX7_hard_16 : decode cX7_hard 16 = .ok (.iconst 0, 1) := by decide +kernel
theorem dX7_hard_17 : decode cX7_hard 17 = .ok (.istore_n 1, 1) := by decide +kernel
theorem dX7_hard_18 : decode cX7_hard 18 = .ok (.iload_n 1, 1) := by decide +kernel
theorem dX7_hard_19 : decode cX7_hard 19 = .ok (.aload_n 0, 1) := by decide +kernel
theorem dX7_hard_20 : decode cX7_hard 20 = .ok (.getfield 7, 3) := by decide +kernel
theorem dX7_hard_23 : decode cX7_hard 23 = .ok (.iconst 0, 1) := by decide +kernel
theorem dX7_hard_24 : decode cX7_hard 24 = .ok (.iaload, 1) := by decide +kernel
theorem dX7_hard_25 : decode cX7_hard 25 = .ok (.if_icmp .ge 25, 3) := by decide +kernel
theorem dX7_hard_28 : decode cX7_hard 28 = .ok (.aload_n 0, 1) := by decide +kernel
theorem dX7_hard_29 : decode cX7_hard 29 = .ok (.iload_n 1, 1) := by decide +kernel
theorem dX7_hard_30 : decode cX7_hard 30 = .ok (.aload_n 0, 1) := by decide +kernel
theorem dX7_hard_31 : decode cX7_hard 31 = .ok (.getfield 37, 3) := by decide +kernel
theorem dX7_hard_34 : decode cX7_hard 34 = .ok (.iload_n 1, 1) := by decide +kernel
theorem dX7_hard_35 : decode cX7_hard 35 = .ok (.iaload, 1) := by decide +kernel
theorem dX7_hard_36 : decode cX7_hard 36 = .ok (.invokevirtual 162, 3) := by decide +kernel
theorem dX7_hard_39 : decode cX7_hard 39 = .ok (.ifCond .ge 5, 3) := by decide +kernel
theorem dX7_hard_42 : decode cX7_hard 42 = .ok (.iload_n 1, 1) := by decide +kernel
theorem dX7_hard_43 : decode cX7_hard 43 = .ok (.ireturn, 1) := by decide +kernel
theorem dX7_hard_44 : decode cX7_hard 44 = .ok (.iinc 1 1, 3) := by decide +kernel
theorem dX7_hard_47 : decode cX7_hard 47 = .ok (.goto (-29), 3) := by decide +kernel
theorem dX7_hard_50 : decode cX7_hard 50 = .ok (.iconst (-1), 1) := by decide +kernel
theorem dX7_hard_51 : decode cX7_hard 51 = .ok (.ireturn, 1) := by decide +kernel
theorem dX7_isRun_0 : decode cX7_isRun 0 = .ok (.iload_n 0, 1) := by decide +kernel
theorem dX7_isRun_1 : decode cX7_isRun 1 = .ok (.iconst 0, 1) := by decide +kernel
theorem dX7_isRun_2 : decode cX7_isRun 2 = .ok (.bipush 41, 2) := by decide +kernel
theorem dX7_isRun_4 : decode cX7_isRun 4 = .ok (.invokestatic 60, 3) := by decide +kernel
theorem dX7_isRun_7 : decode cX7_isRun 7 = .ok (.ifCond .eq 24, 3) := by decide +kernel
theorem dX7_isRun_10 : decode cX7_isRun 10 = .ok (.iload_n 1, 1) := by decide +kernel
theorem dX7_isRun_11 : decode cX7_isRun 11 = .ok (.iconst 0, 1) := by decide +kernel
theorem dX7_isRun_12 : decode cX7_isRun 12 = .ok (.bipush 41, 2) := by decide +kernel
theorem dX7_isRun_14 : decode cX7_isRun 14 = .ok (.invokestatic 60, 3) := by decide +kernel
theorem dX7_isRun_17 : decode cX7_isRun 17 = .ok (.ifCond .eq 14, 3) := by decide +kernel
theorem dX7_isRun_20 : decode cX7_isRun 20 = .ok (.iload_n 2, 1) := by decide +kernel
theorem dX7_isRun_21 : decode cX7_isRun 21 = .ok (.invokestatic 115, 3) := by decide +kernel
theorem dX7_isRun_24 : decode cX7_isRun 24 = .ok (.ifCond .eq 7, 3) := by decide +kernel
theorem dX7_isRun_27 : decode cX7_isRun 27 = .ok (.iconst 1, 1) := by decide +kernel
theorem dX7_isRun_28 : decode cX7_isRun 28 = .ok (.goto 4, 3) := by decide +kernel
theorem dX7_isRun_31 : decode cX7_isRun 31 = .ok (.iconst 0, 1) := by decide +kernel
theorem dX7_isRun_32 : decode cX7_isRun 32 = .ok (.ireturn, 1) := by decide +kernel
theorem dX7_run_0 : decode cX7_run 0 = .ok (.iload_n 1, 1) := by decide +kernel
theorem dX7_run_1 : decode cX7_run 1 = .ok (.iload_n 2, 1) := by decide +kernel
theorem dX7_run_2 : decode cX7_run 2 = .ok (.iload_n 3, 1) := by decide +kernel
theorem dX7_run_3 : decode cX7_run 3 = .ok (.invokestatic 165, 3) := by decide +kernel
theorem dX7_run_6 : decode cX7_run 6 = .ok (.ifCond .eq 26, 3) := by decide +kernel
theorem dX7_run_9 : decode cX7_run 9 = .ok (.iload 4, 2) := by decide +kernel
theorem dX7_run_11 : decode cX7_run 11 = .ok (.iconst 0, 1) := by decide +kernel
theorem dX7_run_12 : decode cX7_run 12 = .ok (.iload_n 1, 1) := by decide +kernel
theorem dX7_run_13 : decode cX7_run 13 = .ok (.iload_n 2, 1) := by decide +kernel
theorem dX7_run_14 : decode cX7_run 14 = .ok (.if_icmp .ge 9, 3) := by decide +kernel
theorem dX7_run_17 : decode cX7_run 17 = .ok (.iload_n 2, 1) := by decide +kernel
theorem dX7_run_18 : decode cX7_run 18 = .ok (.iload_n 1, 1) := by decide +kernel
theorem dX7_run_19 : decode cX7_run 19 = .ok (.isub, 1) := by decide +kernel
theorem dX7_run_20 : decode cX7_run 20 = .ok (.goto 6, 3) := by decide +kernel
theorem dX7_run_23 : decode cX7_run 23 = .ok (.iload_n 1, 1) := by decide +kernel
theorem dX7_run_24 : decode cX7_run 24 = .ok (.iload_n 2, 1) := by decide +kernel
theorem dX7_run_25 : decode cX7_run 25 = .ok (.isub, 1) := by decide +kernel
theorem dX7_run_26 : decode cX7_run 26 = .ok (.invokestatic 60, 3) := by decide +kernel
theorem dX7_run_29 : decode cX7_run 29 = .ok (.ifCond .ne 10, 3) := by decide +kernel
theorem dX7_run_32 : decode cX7_run 32 = .ok (.aload_n 0, 1) := by decide +kernel
theorem dX7_run_33 : decode cX7_run 33 = .ok (.ldc 83, 2) := by decide +kernel
theorem dX7_run_35 : decode cX7_run 35 = .ok (.invokevirtual 72, 3) := by decide +kernel
theorem dX7_run_38 : decode cX7_run 38 = .ok (.ireturn, 1) := by decide +kernel
theorem dX7_run_39 : decode cX7_run 39 = .ok (.iload_n 1, 1) := by decide +kernel
theorem dX7_run_40 : decode cX7_run 40 = .ok (.iload_n 2, 1) := by decide +kernel
theorem dX7_run_41 : decode cX7_run 41 = .ok (.if_icmp .ge 10, 3) := by decide +kernel
theorem dX7_run_44 : decode cX7_run 44 = .ok (.iload_n 1, 1) := by decide +kernel
theorem dX7_run_45 : decode cX7_run 45 = .ok (.iload 4, 2) := by decide +kernel
theorem dX7_run_47 : decode cX7_run 47 = .ok (.iadd, 1) := by decide +kernel
theorem dX7_run_48 : decode cX7_run 48 = .ok (.goto 7, 3) := by decide +kernel
theorem dX7_run_51 : decode cX7_run 51 = .ok (.iload_n 1, 1) := by decide +kernel
theorem dX7_run_52 : decode cX7_run 52 = .ok (.iload 4, 2) := by decide +kernel
theorem dX7_run_54 : decode cX7_run 54 = .ok (.isub, 1) := by decide +kernel
theorem dX7_run_55 : decode cX7_run 55 = .ok (.iload_n 3, 1) := by decide +kernel
theorem dX7_run_56 : decode cX7_run 56 = .ok (.invokestatic 118, 3) := by decide +kernel
theorem dX7_run_59 : decode cX7_run 59 = .ok (.ireturn, 1) := by decide +kernel
theorem dX7_plain_0 : decode cX7_plain 0 = .ok (.iload_n 1, 1) := by decide +kernel
theorem dX7_plain_1 : decode cX7_plain 1 = .ok (.iload_n 2, 1) := by decide +kernel
theorem dX7_plain_2 : decode cX7_plain 2 = .ok (.iload_n 3, 1) := by decide +kernel
theorem dX7_plain_3 : decode cX7_plain 3 = .ok (.invokestatic 165, 3) := by decide +kernel
theorem dX7_plain_6 : decode cX7_plain 6 = .ok (.ifCond .ne 10, 3) := by decide +kernel
theorem dX7_plain_9 : decode cX7_plain 9 = .ok (.aload_n 0, 1) := by decide +kernel
theorem dX7_plain_10 : decode cX7_plain 10 = .ok (.ldc 83, 2) := by decide +kernel
theorem dX7_plain_12 : decode cX7_plain 12 = .ok (.invokevirtual 72, 3) := by decide +kernel
theorem dX7_plain_15 : decode cX7_plain 15 = .ok (.ireturn, 1) := by decide +kernel
theorem dX7_plain_16 : decode cX7_plain 16 = .ok (.iload_n 1, 1) := by decide +kernel
theorem dX7_plain_17 : decode cX7_plain 17 = .ok (.iload_n 2, 1) := by decide +kernel
theorem dX7_plain_18 : decode cX7_plain 18 = .ok (.if_icmp .ge 7, 3) := by decide +kernel
theorem dX7_plain_21 : decode cX7_plain 21 = .ok (.iload_n 1, 1) := by decide +kernel
theorem dX7_plain_22 : decode cX7_plain 22 = .ok (.goto 4, 3) := by decide +kernel
theorem dX7_plain_25 : decode cX7_plain 25 = .ok (.iload_n 2, 1) := by decide +kernel
theorem dX7_plain_26 : decode cX7_plain 26 = .ok (.istore 4, 2) := by decide +kernel
theorem dX7_plain_28 : decode cX7_plain 28 = .ok (.iload_n 1, 1) := by decide +kernel
theorem dX7_plain_29 : decode cX7_plain 29 = .ok (.iload_n 2, 1) := by decide +kernel
theorem dX7_plain_30 : decode cX7_plain 30 = .ok (.if_icmp .ge 7, 3) := by decide +kernel
theorem dX7_plain_33 : decode cX7_plain 33 = .ok (.iload_n 2, 1) := by decide +kernel
theorem dX7_plain_34 : decode cX7_plain 34 = .ok (.goto 4, 3) := by decide +kernel
theorem dX7_plain_37 : decode cX7_plain 37 = .ok (.iload_n 1, 1) := by decide +kernel
theorem dX7_plain_38 : decode cX7_plain 38 = .ok (.istore 5, 2) := by decide +kernel
theorem dX7_plain_40 : decode cX7_plain 40 = .ok (.iconst 0, 1) := by decide +kernel
theorem dX7_plain_41 : decode cX7_plain 41 = .ok (.istore 6, 2) := by decide +kernel
theorem dX7_plain_43 : decode cX7_plain 43 = .ok (.iload 4, 2) := by decide +kernel
theorem dX7_plain_45 : decode cX7_plain 45 = .ok (.istore 7, 2) := by decide +kernel
theorem dX7_plain_47 : decode cX7_plain 47 = .ok (.iload 7, 2) := by decide +kernel
theorem dX7_plain_49 : decode cX7_plain 49 = .ok (.iload 5, 2) := by decide +kernel
theorem dX7_plain_51 : decode cX7_plain 51 = .ok (.if_icmp .gt 69, 3) := by decide +kernel
theorem dX7_plain_54 : decode cX7_plain 54 = .ok (.iconst 1, 1) := by decide +kernel
theorem dX7_plain_55 : decode cX7_plain 55 = .ok (.istore 8, 2) := by decide +kernel
theorem dX7_plain_57 : decode cX7_plain 57 = .ok (.iload 4, 2) := by decide +kernel
theorem dX7_plain_59 : decode cX7_plain 59 = .ok (.istore 9, 2) := by decide +kernel
theorem dX7_plain_61 : decode cX7_plain 61 = .ok (.iload 9, 2) := by decide +kernel
theorem dX7_plain_63 : decode cX7_plain 63 = .ok (.iload 7, 2) := by decide +kernel
theorem dX7_plain_65 : decode cX7_plain 65 = .ok (.if_icmp .ge 34, 3) := by decide +kernel
theorem dX7_plain_68 : decode cX7_plain 68 = .ok (.iload 8, 2) := by decide +kernel
theorem dX7_plain_70 : decode cX7_plain 70 = .ok (.iload 9, 2) := by decide +kernel
theorem dX7_plain_72 : decode cX7_plain 72 = .ok (.iload_n 3, 1) := by decide +kernel
theorem dX7_plain_73 : decode cX7_plain 73 = .ok (.invokestatic 118, 3) := by decide +kernel
theorem dX7_plain_76 : decode cX7_plain 76 = .ok (.iload 7, 2) := by decide +kernel
theorem dX7_plain_78 : decode cX7_plain 78 = .ok (.iload_n 3, 1) := by decide +kernel
theorem dX7_plain_79 : decode cX7_plain 79 = .ok (.invokestatic 118, 3) := by decide +kernel
theorem dX7_plain_82 : decode cX7_plain 82 = .ok (.if_icmp .eq 7, 3) := by decide +kernel
theorem dX7_plain_85 : decode cX7_plain 85 = .ok (.iconst 1, 1) := by decide +kernel
theorem dX7_plain_86 : decode cX7_plain 86 = .ok (.goto 4, 3) := by decide +kernel
theorem dX7_plain_89 : decode cX7_plain 89 = .ok (.iconst 0, 1) := by decide +kernel
theorem dX7_plain_90 : decode cX7_plain 90 = .ok (.iand, 1) := by decide +kernel
theorem dX7_plain_91 : decode cX7_plain 91 = .ok (.istore 8, 2) := by decide +kernel
theorem dX7_plain_93 : decode cX7_plain 93 = .ok (.iinc 9 1, 3) := by decide +kernel
theorem dX7_plain_96 : decode cX7_plain 96 = .ok (.goto (-35), 3) := by decide +kernel
theorem dX7_plain_99 : decode cX7_plain 99 = .ok (.iload 6, 2) := by decide +kernel
theorem dX7_plain_101 : decode cX7_plain 101 = .ok (.iload 8, 2) := by decide +kernel
theorem dX7_plain_103 : decode cX7_plain 103 = .ok (.ifCond .eq 7, 3) := by decide +kernel
theorem dX7_plain_106 : decode cX7_plain 106 = .ok (.iconst 1, 1) := by decide +kernel
theorem dX7_plain_107 : decode cX7_plain 107 = .ok (.goto 4, 3) := by decide +kernel
theorem dX7_plain_110 : decode cX7_plain 110 = .ok (.iconst 0, 1) := by decide +kernel
theorem dX7_plain_111 : decode cX7_plain 111 = .ok (.iadd, 1) := by decide +kernel
theorem dX7_plain_112 : decode cX7_plain 112 = .ok (.istore 6, 2) := by decide +kernel
theorem dX7_plain_114 : decode cX7_plain 114 = .ok (.iinc 7 1, 3) := by decide +kernel
theorem dX7_plain_117 : decode cX7_plain 117 = .ok (.goto (-70), 3) := by decide +kernel
theorem dX7_plain_120 : decode cX7_plain 120 = .ok (.iload 6, 2) := by decide +kernel
theorem dX7_plain_122 : decode cX7_plain 122 = .ok (.ireturn, 1) := by decide +kernel
theorem dX7_isSheet_0 : decode cX7_isSheet 0 = .ok (.iload_n 0, 1) := by decide +kernel
theorem dX7_isSheet_1 : decode cX7_isSheet 1 = .ok (.iconst 0, 1) := by decide +kernel
theorem dX7_isSheet_2 : decode cX7_isSheet 2 = .ok (.iconst 3, 1) := by decide +kernel
theorem dX7_isSheet_3 : decode cX7_isSheet 3 = .ok (.invokestatic 60, 3) := by decide +kernel
theorem dX7_isSheet_6 : decode cX7_isSheet 6 = .ok (.ireturn, 1) := by decide +kernel
theorem dX7_sheet_0 : decode cX7_sheet 0 = .ok (.iload_n 1, 1) := by decide +kernel
theorem dX7_sheet_1 : decode cX7_sheet 1 = .ok (.invokestatic 168, 3) := by decide +kernel
theorem dX7_sheet_4 : decode cX7_sheet 4 = .ok (.ifCond .eq 25, 3) := by decide +kernel
theorem dX7_sheet_7 : decode cX7_sheet 7 = .ok (.iload_n 2, 1) := by decide +kernel
theorem dX7_sheet_8 : decode cX7_sheet 8 = .ok (.ifCond .eq 28, 3) := by decide +kernel
theorem dX7_sheet_11 : decode cX7_sheet 11 = .ok (.iload_n 2, 1) := by decide +kernel
theorem dX7_sheet_12 : decode cX7_sheet 12 = .ok (.bipush 8, 2) := by decide +kernel
theorem dX7_sheet_14 : decode cX7_sheet 14 = .ok (.if_icmp .eq 22, 3) := by decide +kernel
theorem dX7_sheet_17 : decode cX7_sheet 17 = .ok (.iload_n 2, 1) := by decide +kernel
theorem dX7_sheet_18 : decode cX7_sheet 18 = .ok (.bipush 16, 2) := by decide +kernel
theorem dX7_sheet_20 : decode cX7_sheet 20 = .ok (.if_icmp .eq 16, 3) := by decide +kernel
theorem dX7_sheet_23 : decode cX7_sheet 23 = .ok (.iload_n 2, 1) := by decide +kernel
theorem dX7_sheet_24 : decode cX7_sheet 24 = .ok (.bipush 32, 2) := by decide +kernel
theorem dX7_sheet_26 : decode cX7_sheet 26 = .ok (.if_icmp .eq 10, 3) := by decide +kernel
theorem dX7_sheet_29 : decode cX7_sheet 29 = .ok (.aload_n 0, 1) := by decide +kernel
theorem dX7_sheet_30 : decode cX7_sheet 30 = .ok (.ldc 83, 2) := by decide +kernel
theorem dX7_sheet_32 : decode cX7_sheet 32 = .ok (.invokevirtual 72, 3) := by decide +kernel
theorem dX7_sheet_35 : decode cX7_sheet 35 = .ok (.ireturn, 1) := by decide +kernel
theorem dX7_sheet_36 : decode cX7_sheet 36 = .ok (.iload_n 3, 1) := by decide +kernel
theorem dX7_sheet_37 : decode cX7_sheet 37 = .ok (.ifCond .ge 10, 3) := by decide +kernel
theorem dX7_sheet_40 : decode cX7_sheet 40 = .ok (.aload_n 0, 1) := by decide +kernel
theorem dX7_sheet_41 : decode cX7_sheet 41 = .ok (.ldc 98, 2) := by decide +kernel
theorem dX7_sheet_43 : decode cX7_sheet 43 = .ok (.invokevirtual 72, 3) := by decide +kernel
theorem dX7_sheet_46 : decode cX7_sheet 46 = .ok (.ireturn, 1) := by decide +kernel
theorem dX7_sheet_47 : decode cX7_sheet 47 = .ok (.iload_n 3, 1) := by decide +kernel
theorem dX7_sheet_48 : decode cX7_sheet 48 = .ok (.bipush 30, 2) := by decide +kernel
theorem dX7_sheet_50 : decode cX7_sheet 50 = .ok (.if_icmp .le 10, 3) := by decide +kernel
theorem dX7_sheet_53 : decode cX7_sheet 53 = .ok (.aload_n 0, 1) := by decide +kernel
theorem dX7_sheet_54 : decode cX7_sheet 54 = .ok (.ldc 83, 2) := by decide +kernel
theorem dX7_sheet_56 : decode cX7_sheet 56 = .ok (.invokevirtual 72, 3) := by decide +kernel
theorem dX7_sheet_59 : decode cX7_sheet 59 = .ok (.ireturn, 1) := by decide +kernel
theorem dX7_sheet_60 : decode cX7_sheet 60 = .ok (.aload_n 0, 1) := by decide +kernel
theorem dX7_sheet_61 : decode cX7_sheet 61 = .ok (.getfield 16, 3) := by decide +kernel
theorem dX7_sheet_64 : decode cX7_sheet 64 = .ok (.iload_n 1, 1) := by decide +kernel
theorem dX7_sheet_65 : decode cX7_sheet 65 = .ok (.iload_n 2, 1) := by decide +kernel
theorem dX7_sheet_66 : decode cX7_sheet 66 = .ok (.iastore, 1) := by decide +kernel
theorem dX7_sheet_67 : decode cX7_sheet 67 = .ok (.aload_n 0, 1) := by decide +kernel
theorem dX7_sheet_68 : decode cX7_sheet 68 = .ok (.getfield 19, 3) := by decide +kernel
theorem dX7_sheet_71 : decode cX7_sheet 71 = .ok (.iload_n 1, 1) := by decide +kernel
theorem dX7_sheet_72 : decode cX7_sheet 72 = .ok (.iload_n 2, 1) := by decide +kernel
theorem dX7_sheet_73 : decode cX7_sheet 73 = .ok (.ifCond .ne 7, 3) := by decide +kernel
theorem dX7_sheet_76 : decode cX7_sheet 76 = .ok (.iconst 0, 1) := by decide +kernel
theorem dX7_sheet_77 : decode cX7_sheet 77 = .ok (.goto 4, 3) := by decide +kernel
theorem dX7_sheet_80 : decode cX7_sheet 80 = .ok (.iload_n 3, 1) := by decide +kernel
theorem dX7_sheet_81 : decode cX7_sheet 81 = .ok (.iastore, 1) := by decide +kernel
theorem dX7_sheet_82 : decode cX7_sheet 82 = .ok (.iconst 0, 1) := by decide +kernel
theorem dX7_sheet_83 : decode cX7_sheet 83 = .ok (.istore 4, 2) := by decide +kernel
theorem dX7_sheet_85 : decode cX7_sheet 85 = .ok (.iload 4, 2) := by decide +kernel
theorem dX7_sheet_87 : decode cX7_sheet 87 = .ok (.bipush 30, 2) := by decide +kernel
theorem dX7_sheet_89 : decode cX7_sheet 89 = .ok (.if_icmp .ge 22, 3) := by decide +kernel
theorem dX7_sheet_92 : decode cX7_sheet 92 = .ok (.aload_n 0, 1) := by decide +kernel
theorem dX7_sheet_93 : decode cX7_sheet 93 = .ok (.getfield 22, 3) := by decide +kernel
theorem dX7_sheet_96 : decode cX7_sheet 96 = .ok (.bipush 30, 2) := by decide +kernel
theorem dX7_sheet_98 : decode cX7_sheet 98 = .ok (.iload_n 1, 1) := by decide +kernel
theorem dX7_sheet_99 : decode cX7_sheet 99 = .ok (.imul, 1) := by decide +kernel
theorem dX7_sheet_100 : decode cX7_sheet 100 = .ok (.iload 4, 2) := by decide +kernel
theorem dX7_sheet_102 : decode cX7_sheet 102 = .ok (.iadd, 1) := by decide +kernel
theorem dX7_sheet_103 : decode cX7_sheet 103 = .ok (.iconst 0, 1) := by decide +kernel
theorem dX7_sheet_104 : decode cX7_sheet 104 = .ok (.iastore, 1) := by decide +kernel
theorem dX7_sheet_105 : decode cX7_sheet 105 = .ok (.iinc 4 1, 3) := by decide +kernel
theorem dX7_sheet_108 : decode cX7_sheet 108 = .ok (.goto (-23), 3) := by decide +kernel
theorem dX7_sheet_111 : decode cX7_sheet 111 = .ok (.aload_n 0, 1) := by decide +kernel
theorem dX7_sheet_112 : decode cX7_sheet 112 = .ok (.getfield 19, 3) := by decide +kernel
theorem dX7_sheet_115 : decode cX7_sheet 115 = .ok (.iload_n 1, 1) := by decide +kernel
theorem dX7_sheet_116 : decode cX7_sheet 116 = .ok (.iaload, 1) := by decide +kernel
theorem dX7_sheet_117 : decode cX7_sheet 117 = .ok (.ireturn, 1) := by decide +kernel
theorem dX7_put_0 : decode cX7_put 0 = .ok (.iload_n 1, 1) := by decide +kernel
theorem dX7_put_1 : decode cX7_put 1 = .ok (.invokestatic 168, 3) := by decide +kernel
theorem dX7_put_4 : decode cX7_put 4 = .ok (.ifCond .ne 10, 3) := by decide +kernel
theorem dX7_put_7 : decode cX7_put 7 = .ok (.aload_n 0, 1) := by decide +kernel
theorem dX7_put_8 : decode cX7_put 8 = .ok (.ldc 83, 2) := by decide +kernel
theorem dX7_put_10 : decode cX7_put 10 = .ok (.invokevirtual 72, 3) := by decide +kernel
theorem dX7_put_13 : decode cX7_put 13 = .ok (.ireturn, 1) := by decide +kernel
theorem dX7_put_14 : decode cX7_put 14 = .ok (.aload_n 0, 1) := by decide +kernel
theorem dX7_put_15 : decode cX7_put 15 = .ok (.getfield 16, 3) := by decide +kernel
theorem dX7_put_18 : decode cX7_put 18 = .ok (.iload_n 1, 1) := by decide +kernel
theorem dX7_put_19 : decode cX7_put 19 = .ok (.iaload, 1) := by decide +kernel
theorem dX7_put_20 : decode cX7_put 20 = .ok (.ifCond .ne 10, 3) := by decide +kernel
theorem dX7_put_23 : decode cX7_put 23 = .ok (.aload_n 0, 1) := by decide +kernel
theorem dX7_put_24 : decode cX7_put 24 = .ok (.ldc 171, 2) := by decide +kernel
theorem dX7_put_26 : decode cX7_put 26 = .ok (.invokevirtual 72, 3) := by decide +kernel
theorem dX7_put_29 : decode cX7_put 29 = .ok (.ireturn, 1) := by decide +kernel
theorem dX7_put_30 : decode cX7_put 30 = .ok (.iload_n 2, 1) := by decide +kernel
theorem dX7_put_31 : decode cX7_put 31 = .ok (.ifCond .lt 13, 3) := by decide +kernel
theorem dX7_put_34 : decode cX7_put 34 = .ok (.iload_n 2, 1) := by decide +kernel
theorem dX7_put_35 : decode cX7_put 35 = .ok (.aload_n 0, 1) := by decide +kernel
theorem dX7_put_36 : decode cX7_put 36 = .ok (.getfield 19, 3) := by decide +kernel
theorem dX7_put_39 : decode cX7_put 39 = .ok (.iload_n 1, 1) := by decide +kernel
theorem dX7_put_40 : decode cX7_put 40 = .ok (.iaload, 1) := by decide +kernel
theorem dX7_put_41 : decode cX7_put 41 = .ok (.if_icmp .lt 10, 3) := by decide +kernel
theorem dX7_put_44 : decode cX7_put 44 = .ok (.aload_n 0, 1) := by decide +kernel
theorem dX7_put_45 : decode cX7_put 45 = .ok (.ldc 83, 2) := by decide +kernel
theorem dX7_put_47 : decode cX7_put 47 = .ok (.invokevirtual 72, 3) := by decide +kernel
theorem dX7_put_50 : decode cX7_put 50 = .ok (.ireturn, 1) := by decide +kernel
theorem dX7_put_51 : decode cX7_put 51 = .ok (.aload_n 0, 1) := by decide +kernel
theorem dX7_put_52 : decode cX7_put 52 = .ok (.getfield 22, 3) := by decide +kernel
theorem dX7_put_55 : decode cX7_put 55 = .ok (.bipush 30, 2) := by decide +kernel
theorem dX7_put_57 : decode cX7_put 57 = .ok (.iload_n 1, 1) := by decide +kernel
theorem dX7_put_58 : decode cX7_put 58 = .ok (.imul, 1) := by decide +kernel
theorem dX7_put_59 : decode cX7_put 59 = .ok (.iload_n 2, 1) := by decide +kernel
theorem dX7_put_60 : decode cX7_put 60 = .ok (.iadd, 1) := by decide +kernel
theorem dX7_put_61 : decode cX7_put 61 = .ok (.aload_n 0, 1) := by decide +kernel
theorem dX7_put_62 : decode cX7_put 62 = .ok (.getfield 16, 3) := by decide +kernel
theorem dX7_put_65 : decode cX7_put 65 = .ok (.iload_n 1, 1) := by decide +kernel
theorem dX7_put_66 : decode cX7_put 66 = .ok (.iaload, 1) := by decide +kernel
theorem dX7_put_67 : decode cX7_put 67 = .ok (.bipush 8, 2) := by decide +kernel
theorem dX7_put_69 : decode cX7_put 69 = .ok (.if_icmp .ne 8, 3) := by decide +kernel
theorem dX7_put_72 : decode cX7_put 72 = .ok (.iload_n 3, 1) := by decide +kernel
theorem dX7_put_73 : decode cX7_put 73 = .ok (.i2b, 1) := by decide +kernel
theorem dX7_put_74 : decode cX7_put 74 = .ok (.goto 20, 3) := by decide +kernel
theorem dX7_put_77 : decode cX7_put 77 = .ok (.aload_n 0, 1) := by decide +kernel
theorem dX7_put_78 : decode cX7_put 78 = .ok (.getfield 16, 3) := by decide +kernel
theorem dX7_put_81 : decode cX7_put 81 = .ok (.iload_n 1, 1) := by decide +kernel
theorem dX7_put_82 : decode cX7_put 82 = .ok (.iaload, 1) := by decide +kernel
theorem dX7_put_83 : decode cX7_put 83 = .ok (.bipush 16, 2) := by decide +kernel
theorem dX7_put_85 : decode cX7_put 85 = .ok (.if_icmp .ne 8, 3) := by decide +kernel
theorem dX7_put_88 : decode cX7_put 88 = .ok (.iload_n 3, 1) := by decide +kernel
theorem dX7_put_89 : decode cX7_put 89 = .ok (.i2s, 1) := by decide +kernel
theorem dX7_put_90 : decode cX7_put 90 = .ok (.goto 4, 3) := by decide +kernel
theorem dX7_put_93 : decode cX7_put 93 = .ok (.iload_n 3, 1) := by decide +kernel
theorem dX7_put_94 : decode cX7_put 94 = .ok (.iastore, 1) := by decide +kernel
theorem dX7_put_95 : decode cX7_put 95 = .ok (.iconst 0, 1) := by decide +kernel
theorem dX7_put_96 : decode cX7_put 96 = .ok (.ireturn, 1) := by decide +kernel
theorem dX7_hasPart_0 : decode cX7_hasPart 0 = .ok (.iload_n 2, 1) := by decide +kernel
theorem dX7_hasPart_1 : decode cX7_hasPart 1 = .ok (.ifCond .lt 33, 3) := by decide +kernel
theorem dX7_hasPart_4 : decode cX7_hasPart 4 = .ok (.iload_n 3, 1) := by decide +kernel
theorem dX7_hasPart_5 : decode cX7_hasPart 5 = .ok (.ifCond .lt 29, 3) := by decide +kernel
theorem dX7_hasPart_8 : decode cX7_hasPart 8 = .ok (.iload_n 3, 1) := by decide +kernel
theorem dX7_hasPart_9 : decode cX7_hasPart 9 = .ok (.aload_n 0, 1) := by decide +kernel
theorem dX7_hasPart_10 : decode cX7_hasPart 10 = .ok (.getfield 19, 3) := by decide +kernel
theorem dX7_hasPart_13 : decode cX7_hasPart 13 = .ok (.iload_n 1, 1) := by decide +kernel
theorem dX7_hasPart_14 : decode cX7_hasPart 14 = .ok (.iaload, 1) := by decide +kernel
theorem dX7_hasPart_15 : decode cX7_hasPart 15 = .ok (.if_icmp .gt 19, 3) := by decide +kernel
theorem dX7_hasPart_18 : decode cX7_hasPart 18 = .ok (.iload_n 2, 1) := by decide +kernel
theorem dX7_hasPart_19 : decode cX7_hasPart 19 = .ok (.aload_n 0, 1) := by decide +kernel
theorem dX7_hasPart_20 : decode cX7_hasPart 20 = .ok (.getfield 19, 3) := by decide +kernel
theorem dX7_hasPart_23 : decode cX7_hasPart 23 = .ok (.iload_n 1, 1) := by decide +kernel
theorem dX7_hasPart_24 : decode cX7_hasPart 24 = .ok (.iaload, 1) := by decide +kernel
theorem dX7_hasPart_25 : decode cX7_hasPart 25 = .ok (.iload_n 3, 1) := by decide +kernel
theorem dX7_hasPart_26 : decode cX7_hasPart 26 = .ok (.isub, 1) := by decide +kernel
theorem dX7_hasPart_27 : decode cX7_hasPart 27 = .ok (.if_icmp .gt 7, 3) := by decide +kernel
theorem dX7_hasPart_30 : decode cX7_hasPart 30 = .ok (.iconst 1, 1) := by decide +kernel
theorem dX7_hasPart_31 : decode cX7_hasPart 31 = .ok (.goto 4, 3) := by decide +kernel
theorem dX7_hasPart_34 : decode cX7_hasPart 34 = .ok (.iconst 0, 1) := by decide +kernel
theorem dX7_hasPart_35 : decode cX7_hasPart 35 = .ok (.ireturn, 1) := by decide +kernel
theorem dX7_copy_0 : decode cX7_copy 0 = .ok (.iload_n 1, 1) := by decide +kernel
theorem dX7_copy_1 : decode cX7_copy 1 = .ok (.invokestatic 168, 3) := by decide +kernel
theorem dX7_copy_4 : decode cX7_copy 4 = .ok (.ifCond .eq 10, 3) := by decide +kernel
theorem dX7_copy_7 : decode cX7_copy 7 = .ok (.iload_n 3, 1) := by decide +kernel
theorem dX7_copy_8 : decode cX7_copy 8 = .ok (.invokestatic 168, 3) := by decide +kernel
theorem dX7_copy_11 : decode cX7_copy 11 = .ok (.ifCond .ne 10, 3) := by decide +kernel
theorem dX7_copy_14 : decode cX7_copy 14 = .ok (.aload_n 0, 1) := by decide +kernel
theorem dX7_copy_15 : decode cX7_copy 15 = .ok (.ldc 83, 2) := by decide +kernel
theorem dX7_copy_17 : decode cX7_copy 17 = .ok (.invokevirtual 72, 3) := by decide +kernel
theorem dX7_copy_20 : decode cX7_copy 20 = .ok (.ireturn, 1) := by decide +kernel
theorem dX7_copy_21 : decode cX7_copy 21 = .ok (.aload_n 0, 1) := by decide +kernel
theorem dX7_copy_22 : decode cX7_copy 22 = .ok (.getfield 16, 3) := by decide +kernel
theorem dX7_copy_25 : decode cX7_copy 25 = .ok (.iload_n 1, 1) := by decide +kernel
theorem dX7_copy_26 : decode cX7_copy 26 = .ok (.iaload, 1) := by decide +kernel
theorem dX7_copy_27 : decode cX7_copy 27 = .ok (.ifCond .eq 12, 3) := by decide +kernel
theorem dX7_copy_30 : decode cX7_copy 30 = .ok (.aload_n 0, 1) := by decide +kernel
theorem dX7_copy_31 : decode cX7_copy 31 = .ok (.getfield 16, 3) := by decide +kernel
theorem dX7_copy_34 : decode cX7_copy 34 = .ok (.iload_n 3, 1) := by decide +kernel
theorem dX7_copy_35 : decode cX7_copy 35 = .ok (.iaload, 1) := by decide +kernel
theorem dX7_copy_36 : decode cX7_copy 36 = .ok (.ifCond .ne 10, 3) := by decide +kernel
theorem dX7_copy_39 : decode cX7_copy 39 = .ok (.aload_n 0, 1) := by decide +kernel
theorem dX7_copy_40 : decode cX7_copy 40 = .ok (.ldc 171, 2) := by decide +kernel
theorem dX7_copy_42 : decode cX7_copy 42 = .ok (.invokevirtual 72, 3) := by decide +kernel
theorem dX7_copy_45 : decode cX7_copy 45 = .ok (.ireturn, 1) := by decide +kernel
theorem dX7_copy_46 : decode cX7_copy 46 = .ok (.aload_n 0, 1) := by decide +kernel
theorem dX7_copy_47 : decode cX7_copy 47 = .ok (.getfield 16, 3) := by decide +kernel
theorem dX7_copy_50 : decode cX7_copy 50 = .ok (.iload_n 1, 1) := by decide +kernel
theorem dX7_copy_51 : decode cX7_copy 51 = .ok (.iaload, 1) := by decide +kernel
theorem dX7_copy_52 : decode cX7_copy 52 = .ok (.aload_n 0, 1) := by decide +kernel
theorem dX7_copy_53 : decode cX7_copy 53 = .ok (.getfield 16, 3) := by decide +kernel
theorem dX7_copy_56 : decode cX7_copy 56 = .ok (.iload_n 3, 1) := by decide +kernel
theorem dX7_copy_57 : decode cX7_copy 57 = .ok (.iaload, 1) := by decide +kernel
theorem dX7_copy_58 : decode cX7_copy 58 = .ok (.if_icmp .eq 10, 3) := by decide +kernel
theorem dX7_copy_61 : decode cX7_copy 61 = .ok (.aload_n 0, 1) := by decide +kernel
theorem dX7_copy_62 : decode cX7_copy 62 = .ok (.ldc 97, 2) := by decide +kernel
theorem dX7_copy_64 : decode cX7_copy 64 = .ok (.invokevirtual 72, 3) := by decide +kernel
theorem dX7_copy_67 : decode cX7_copy 67 = .ok (.ireturn, 1) := by decide +kernel
theorem dX7_copy_68 : decode cX7_copy 68 = .ok (.aload_n 0, 1) := by decide +kernel
theorem dX7_copy_69 : decode cX7_copy 69 = .ok (.iload_n 1, 1) := by decide +kernel
theorem dX7_copy_70 : decode cX7_copy 70 = .ok (.iload_n 2, 1) := by decide +kernel
theorem dX7_copy_71 : decode cX7_copy 71 = .ok (.iload 5, 2) := by decide +kernel
theorem dX7_copy_73 : decode cX7_copy 73 = .ok (.invokevirtual 172, 3) := by decide +kernel
theorem dX7_copy_76 : decode cX7_copy 76 = .ok (.ifCond .eq 15, 3) := by decide +kernel
theorem dX7_copy_79 : decode cX7_copy 79 = .ok (.aload_n 0, 1) := by decide +kernel
theorem dX7_copy_80 : decode cX7_copy 80 = .ok (.iload_n 3, 1) := by decide +kernel
theorem dX7_copy_81 : decode cX7_copy 81 = .ok (.iload 4, 2) := by decide +kernel
theorem dX7_copy_83 : decode cX7_copy 83 = .ok (.iload 5, 2) := by decide +kernel
theorem dX7_copy_85 : decode cX7_copy 85 = .ok (.invokevirtual 172, 3) := by decide +kernel
theorem dX7_copy_88 : decode cX7_copy 88 = .ok (.ifCond .ne 10, 3) := by decide +kernel
theorem dX7_copy_91 : decode cX7_copy 91 = .ok (.aload_n 0, 1) := by decide +kernel
theorem dX7_copy_92 : decode cX7_copy 92 = .ok (.ldc 83, 2) := by decide +kernel
theorem dX7_copy_94 : decode cX7_copy 94 = .ok (.invokevirtual 72, 3) := by decide +kernel
theorem dX7_copy_97 : decode cX7_copy 97 = .ok (.ireturn, 1) := by decide +kernel
theorem dX7_copy_98 : decode cX7_copy 98 = .ok (.iconst 0, 1) := by decide +kernel
theorem dX7_copy_99 : decode cX7_copy 99 = .ok (.istore 6, 2) := by decide +kernel
theorem dX7_copy_101 : decode cX7_copy 101 = .ok (.iload 6, 2) := by decide +kernel
theorem dX7_copy_103 : decode cX7_copy 103 = .ok (.iload 5, 2) := by decide +kernel
theorem dX7_copy_105 : decode cX7_copy 105 = .ok (.if_icmp .ge 30, 3) := by decide +kernel
theorem dX7_copy_108 : decode cX7_copy 108 = .ok (.aload_n 0, 1) := by decide +kernel
theorem dX7_copy_109 : decode cX7_copy 109 = .ok (.getfield 53, 3) := by decide +kernel
theorem dX7_copy_112 : decode cX7_copy 112 = .ok (.iload 6, 2) := by decide +kernel
theorem dX7_copy_114 : decode cX7_copy 114 = .ok (.aload_n 0, 1) := by decide +kernel
theorem dX7_copy_115 : decode cX7_copy 115 = .ok (.getfield 22, 3) := by decide +kernel
theorem dX7_copy_118 : decode cX7_copy 118 = .ok (.bipush 30, 2) := by decide +kernel
theorem dX7_copy_120 : decode cX7_copy 120 = .ok (.iload_n 1, 1) := by decide +kernel
theorem dX7_copy_121 : decode cX7_copy 121 = .ok (.imul, 1) := by decide +kernel
theorem dX7_copy_122 : decode cX7_copy 122 = .ok (.iload_n 2, 1) := by decide +kernel
theorem dX7_copy_123 : decode cX7_copy 123 = .ok (.iadd, 1) := by decide +kernel
theorem dX7_copy_124 : decode cX7_copy 124 = .ok (.iload 6, 2) := by decide +kernel
theorem dX7_copy_126 : decode cX7_copy 126 = .ok (.iadd, 1) := by decide +kernel
theorem dX7_copy_127 : decode cX7_copy 127 = .ok (.iaload, 1) := by decide +kernel
theorem dX7_copy_128 : decode cX7_copy 128 = .ok (.iastore, 1) := by decide +kernel
theorem dX7_copy_129 : decode cX7_copy 129 = .ok (.iinc 6 1, 3) := by decide +kernel
theorem dX7_copy_132 : decode cX7_copy 132 = .ok (.goto (-31), 3) := by decide +kernel
theorem dX7_copy_135 : decode cX7_copy 135 = .ok (.iconst 0, 1) := by decide +kernel
theorem dX7_copy_136 : decode cX7_copy 136 = .ok (.istore 6, 2) := by decide +kernel
theorem dX7_copy_138 : decode cX7_copy 138 = .ok (.iload 6, 2) := by decide +kernel
theorem dX7_copy_140 : decode cX7_copy 140 = .ok (.iload 5, 2) := by decide +kernel
theorem dX7_copy_142 : decode cX7_copy 142 = .ok (.if_icmp .ge 31, 3) := by decide +kernel
theorem dX7_copy_145 : decode cX7_copy 145 = .ok (.aload_n 0, 1) := by decide +kernel
theorem dX7_copy_146 : decode cX7_copy 146 = .ok (.getfield 22, 3) := by decide +kernel
theorem dX7_copy_149 : decode cX7_copy 149 = .ok (.bipush 30, 2) := by decide +kernel
theorem dX7_copy_151 : decode cX7_copy 151 = .ok (.iload_n 3, 1) := by decide +kernel
theorem dX7_copy_152 : decode cX7_copy 152 = .ok (.imul, 1) := by decide +kernel
theorem dX7_copy_153 : decode cX7_copy 153 = .ok (.iload 4, 2) := by decide +kernel
theorem dX7_copy_155 : decode cX7_copy 155 = .ok (.iadd, 1) := by decide +kernel
theorem dX7_copy_156 : decode cX7_copy 156 = .ok (.iload 6, 2) := by decide +kernel
theorem dX7_copy_158 : decode cX7_copy 158 = .ok (.iadd, 1) := by decide +kernel
theorem dX7_copy_159 : decode cX7_copy 159 = .ok (.aload_n 0, 1) := by decide +kernel
theorem dX7_copy_160 : decode cX7_copy 160 = .ok (.getfield 53, 3) := by decide +kernel
theorem dX7_copy_163 : decode cX7_copy 163 = .ok (.iload 6, 2) := by decide +kernel
theorem dX7_copy_165 : decode cX7_copy 165 = .ok (.iaload, 1) := by decide +kernel
theorem dX7_copy_166 : decode cX7_copy 166 = .ok (.iastore, 1) := by decide +kernel
theorem dX7_copy_167 : decode cX7_copy 167 = .ok (.iinc 6 1, 3) := by decide +kernel
theorem dX7_copy_170 : decode cX7_copy 170 = .ok (.goto (-32), 3) := by decide +kernel
theorem dX7_copy_173 : decode cX7_copy 173 = .ok (.iload 5, 2) := by decide +kernel
theorem dX7_copy_175 : decode cX7_copy 175 = .ok (.ireturn, 1) := by decide +kernel
theorem dX7_tune_0 : decode cX7_tune 0 = .ok (.iload_n 1, 1) := by decide +kernel
theorem dX7_tune_1 : decode cX7_tune 1 = .ok (.invokestatic 168, 3) := by decide +kernel
theorem dX7_tune_4 : decode cX7_tune 4 = .ok (.ifCond .ne 10, 3) := by decide +kernel
theorem dX7_tune_7 : decode cX7_tune 7 = .ok (.aload_n 0, 1) := by decide +kernel
theorem dX7_tune_8 : decode cX7_tune 8 = .ok (.ldc 83, 2) := by decide +kernel
theorem dX7_tune_10 : decode cX7_tune 10 = .ok (.invokevirtual 72, 3) := by decide +kernel
theorem dX7_tune_13 : decode cX7_tune 13 = .ok (.ireturn, 1) := by decide +kernel
theorem dX7_tune_14 : decode cX7_tune 14 = .ok (.aload_n 0, 1) := by decide +kernel
theorem dX7_tune_15 : decode cX7_tune 15 = .ok (.getfield 16, 3) := by decide +kernel
theorem dX7_tune_18 : decode cX7_tune 18 = .ok (.iload_n 1, 1) := by decide +kernel
theorem dX7_tune_19 : decode cX7_tune 19 = .ok (.iaload, 1) := by decide +kernel
theorem dX7_tune_20 : decode cX7_tune 20 = .ok (.ifCond .ne 10, 3) := by decide +kernel
theorem dX7_tune_23 : decode cX7_tune 23 = .ok (.aload_n 0, 1) := by decide +kernel
theorem dX7_tune_24 : decode cX7_tune 24 = .ok (.ldc 171, 2) := by decide +kernel
theorem dX7_tune_26 : decode cX7_tune 26 = .ok (.invokevirtual 72, 3) := by decide +kernel
theorem dX7_tune_29 : decode cX7_tune 29 = .ok (.ireturn, 1) := by decide +kernel
theorem dX7_tune_30 : decode cX7_tune 30 = .ok (.aload_n 0, 1) := by decide +kernel
theorem dX7_tune_31 : decode cX7_tune 31 = .ok (.getfield 19, 3) := by decide +kernel
theorem dX7_tune_34 : decode cX7_tune 34 = .ok (.iload_n 1, 1) := by decide +kernel
theorem dX7_tune_35 : decode cX7_tune 35 = .ok (.iaload, 1) := by decide +kernel
theorem dX7_tune_36 : decode cX7_tune 36 = .ok (.bipush 12, 2) := by decide +kernel
theorem dX7_tune_38 : decode cX7_tune 38 = .ok (.if_icmp .le 10, 3) := by decide +kernel
theorem dX7_tune_41 : decode cX7_tune 41 = .ok (.aload_n 0, 1) := by decide +kernel
theorem dX7_tune_42 : decode cX7_tune 42 = .ok (.ldc 98, 2) := by decide +kernel
theorem dX7_tune_44 : decode cX7_tune 44 = .ok (.invokevirtual 72, 3) := by decide +kernel
theorem dX7_tune_47 : decode cX7_tune 47 = .ok (.ireturn, 1) := by decide +kernel
theorem dX7_tune_48 : decode cX7_tune 48 = .ok (.iconst 0, 1) := by decide +kernel
theorem dX7_tune_49 : decode cX7_tune 49 = .ok (.istore_n 2, 1) := by decide +kernel
theorem dX7_tune_50 : decode cX7_tune 50 = .ok (.iload_n 2, 1) := by decide +kernel
theorem dX7_tune_51 : decode cX7_tune 51 = .ok (.aload_n 0, 1) := by decide +kernel
theorem dX7_tune_52 : decode cX7_tune 52 = .ok (.getfield 19, 3) := by decide +kernel
theorem dX7_tune_55 : decode cX7_tune 55 = .ok (.iload_n 1, 1) := by decide +kernel
theorem dX7_tune_56 : decode cX7_tune 56 = .ok (.iaload, 1) := by decide +kernel
theorem dX7_tune_57 : decode cX7_tune 57 = .ok (.if_icmp .ge 32, 3) := by decide +kernel
theorem dX7_tune_60 : decode cX7_tune 60 = .ok (.aload_n 0, 1) := by decide +kernel
theorem dX7_tune_61 : decode cX7_tune 61 = .ok (.getfield 22, 3) := by decide +kernel
theorem dX7_tune_64 : decode cX7_tune 64 = .ok (.bipush 30, 2) := by decide +kernel
theorem dX7_tune_66 : decode cX7_tune 66 = .ok (.iload_n 1, 1) := by decide +kernel
theorem dX7_tune_67 : decode cX7_tune 67 = .ok (.imul, 1) := by decide +kernel
theorem dX7_tune_68 : decode cX7_tune 68 = .ok (.iload_n 2, 1) := by decide +kernel
theorem dX7_tune_69 : decode cX7_tune 69 = .ok (.iadd, 1) := by decide +kernel
theorem dX7_tune_70 : decode cX7_tune 70 = .ok (.iaload, 1) := by decide +kernel
theorem dX7_tune_71 : decode cX7_tune 71 = .ok (.bipush 100, 2) := by decide +kernel
theorem dX7_tune_73 : decode cX7_tune 73 = .ok (.if_icmp .le 10, 3) := by decide +kernel
theorem dX7_tune_76 : decode cX7_tune 76 = .ok (.aload_n 0, 1) := by decide +kernel
theorem dX7_tune_77 : decode cX7_tune 77 = .ok (.ldc 83, 2) := by decide +kernel
theorem dX7_tune_79 : decode cX7_tune 79 = .ok (.invokevirtual 72, 3) := by decide +kernel
theorem dX7_tune_82 : decode cX7_tune 82 = .ok (.ireturn, 1) := by decide +kernel
theorem dX7_tune_83 : decode cX7_tune 83 = .ok (.iinc 2 1, 3) := by decide +kernel
theorem dX7_tune_86 : decode cX7_tune 86 = .ok (.goto (-36), 3) := by decide +kernel
theorem dX7_tune_89 : decode cX7_tune 89 = .ok (.aload_n 0, 1) := by decide +kernel
theorem dX7_tune_90 : decode cX7_tune 90 = .ok (.invokevirtual 76, 3) := by decide +kernel
theorem dX7_tune_93 : decode cX7_tune 93 = .ok (.iconst 0, 1) := by decide +kernel
theorem dX7_tune_94 : decode cX7_tune 94 = .ok (.istore_n 2, 1) := by decide +kernel
theorem dX7_tune_95 : decode cX7_tune 95 = .ok (.iconst 0, 1) := by decide +kernel
theorem dX7_tune_96 : decode cX7_tune 96 = .ok (.istore_n 3, 1) := by decide +kernel
theorem dX7_tune_97 : decode cX7_tune 97 = .ok (.iload_n 3, 1) := by decide +kernel
theorem dX7_tune_98 : decode cX7_tune 98 = .ok (.aload_n 0, 1) := by decide +kernel
theorem dX7_tune_99 : decode cX7_tune 99 = .ok (.getfield 19, 3) := by decide +kernel
theorem dX7_tune_102 : decode cX7_tune 102 = .ok (.iload_n 1, 1) := by decide +kernel
theorem dX7_tune_103 : decode cX7_tune 103 = .ok (.iaload, 1) := by decide +kernel
theorem dX7_tune_104 : decode cX7_tune 104 = .ok (.if_icmp .ge 62, 3) := by decide +kernel
theorem dX7_tune_107 : decode cX7_tune 107 = .ok (.aload_n 0, 1) := by decide +kernel
theorem dX7_tune_108 : decode cX7_tune 108 = .ok (.getfield 22, 3) := by decide +kernel
theorem dX7_tune_111 : decode cX7_tune 111 = .ok (.bipush 30, 2) := by decide +kernel
theorem dX7_tune_113 : decode cX7_tune 113 = .ok (.iload_n 1, 1) := by decide +kernel
theorem dX7_tune_114 : decode cX7_tune 114 = .ok (.imul, 1) := by decide +kernel
theorem dX7_tune_115 : decode cX7_tune 115 = .ok (.iload_n 3, 1) := by decide +kernel
theorem dX7_tune_116 : decode cX7_tune 116 = .ok (.iadd, 1) := by decide +kernel
theorem dX7_tune_117 : decode cX7_tune 117 = .ok (.iaload, 1) := by decide +kernel
theorem dX7_tune_118 : decode cX7_tune 118 = .ok (.istore 4, 2) := by decide +kernel
theorem dX7_tune_120 : decode cX7_tune 120 = .ok (.aload_n 0, 1) := by decide +kernel
theorem dX7_tune_121 : decode cX7_tune 121 = .ok (.getfield 7, 3) := by decide +kernel
theorem dX7_tune_124 : decode cX7_tune 124 = .ok (.iconst 1, 1) := by decide +kernel
theorem dX7_tune_125 : decode cX7_tune 125 = .ok (.iload_n 3, 1) := by decide +kernel
theorem dX7_tune_126 : decode cX7_tune 126 = .ok (.iadd, 1) := by decide +kernel
theorem dX7_tune_127 : decode cX7_tune 127 = .ok (.iload 4, 2) := by decide +kernel
theorem dX7_tune_129 : decode cX7_tune 129 = .ok (.iconst (-1), 1) := by decide +kernel
theorem dX7_tune_130 : decode cX7_tune 130 = .ok (.if_icmp .ge 7, 3) := by decide +kernel
theorem dX7_tune_133 : decode cX7_tune 133 = .ok (.iconst 0, 1) := by decide +kernel
theorem dX7_tune_134 : decode cX7_tune 134 = .ok (.goto 4, 3) := by decide +kernel
theorem dX7_tune_137 : decode cX7_tune 137 = .ok (.iconst 1, 1) := by decide +kernel
theorem dX7_tune_138 : decode cX7_tune 138 = .ok (.iastore, 1) := by decide +kernel
theorem dX7_tune_139 : decode cX7_tune 139 = .ok (.aload_n 0, 1) := by decide +kernel
theorem dX7_tune_140 : decode cX7_tune 140 = .ok (.iload_n 3, 1) := by decide +kernel
theorem dX7_tune_141 : decode cX7_tune 141 = .ok (.iconst 0, 1) := by decide +kernel
theorem dX7_tune_142 : decode cX7_tune 142 = .ok (.iconst 0, 1) := by decide +kernel
theorem dX7_tune_143 : decode cX7_tune 143 = .ok (.iload 4, 2) := by decide +kernel
theorem dX7_tune_145 : decode cX7_tune 145 = .ok (.iconst 0, 1) := by decide +kernel
theorem dX7_tune_146 : decode cX7_tune 146 = .ok (.invokevirtual 85, 3) := by decide +kernel
theorem dX7_tune_149 : decode cX7_tune 149 = .ok (.iload_n 2, 1) := by decide +kernel
theorem dX7_tune_150 : decode cX7_tune 150 = .ok (.aload_n 0, 1) := by decide +kernel
theorem dX7_tune_151 : decode cX7_tune 151 = .ok (.getfield 7, 3) := by decide +kernel
theorem dX7_tune_154 : decode cX7_tune 154 = .ok (.iconst 1, 1) := by decide +kernel
theorem dX7_tune_155 : decode cX7_tune 155 = .ok (.iload_n 3, 1) := by decide +kernel
theorem dX7_tune_156 : decode cX7_tune 156 = .ok (.iadd, 1) := by decide +kernel
theorem dX7_tune_157 : decode cX7_tune 157 = .ok (.iaload, 1) := by decide +kernel
theorem dX7_tune_158 : decode cX7_tune 158 = .ok (.iadd, 1) := by decide +kernel
theorem dX7_tune_159 : decode cX7_tune 159 = .ok (.istore_n 2, 1) := by decide +kernel
theorem dX7_tune_160 : decode cX7_tune 160 = .ok (.iinc 3 1, 3) := by decide +kernel
theorem dX7_tune_163 : decode cX7_tune 163 = .ok (.goto (-66), 3) := by decide +kernel
theorem dX7_tune_166 : decode cX7_tune 166 = .ok (.iload_n 2, 1) := by decide +kernel
theorem dX7_tune_167 : decode cX7_tune 167 = .ok (.ireturn, 1) := by decide +kernel
theorem dX7_all_0 : decode cX7_all 0 = .ok (.iconst 0, 1) := by decide +kernel
theorem dX7_all_1 : decode cX7_all 1 = .ok (.istore_n 2, 1) := by decide +kernel
theorem dX7_all_2 : decode cX7_all 2 = .ok (.iload_n 1, 1) := by decide +kernel
theorem dX7_all_3 : decode cX7_all 3 = .ok (.tableswitch 82 0 3 #[29, 36, 41, 77], 29) := by decide +kernel
theorem dX7_all_32 : decode cX7_all 32 = .ok (.aload_n 0, 1) := by decide +kernel
theorem dX7_all_33 : decode cX7_all 33 = .ok (.getfield 7, 3) := by decide +kernel
theorem dX7_all_36 : decode cX7_all 36 = .ok (.iconst 0, 1) := by decide +kernel
theorem dX7_all_37 : decode cX7_all 37 = .ok (.iaload, 1) := by decide +kernel
theorem dX7_all_38 : decode cX7_all 38 = .ok (.ireturn, 1) := by decide +kernel
theorem dX7_all_39 : decode cX7_all 39 = .ok (.aload_n 0, 1) := by decide +kernel
theorem dX7_all_40 : decode cX7_all 40 = .ok (.invokevirtual 99, 3) := by decide +kernel
theorem dX7_all_43 : decode cX7_all 43 = .ok (.ireturn, 1) := by decide +kernel
theorem dX7_all_44 : decode cX7_all 44 = .ok (.sipush 229, 3) := by decide +kernel
theorem dX7_all_47 : decode cX7_all 47 = .ok (.istore_n 3, 1) := by decide +kernel
theorem dX7_all_48 : decode cX7_all 48 = .ok (.iload_n 3, 1) := by decide +kernel
theorem dX7_all_49 : decode cX7_all 49 = .ok (.sipush 313, 3) := by decide +kernel
theorem dX7_all_52 : decode cX7_all 52 = .ok (.if_icmp .ge 26, 3) := by decide +kernel
theorem dX7_all_55 : decode cX7_all 55 = .ok (.iload_n 2, 1) := by decide +kernel
theorem dX7_all_56 : decode cX7_all 56 = .ok (.aload_n 0, 1) := by decide +kernel
theorem dX7_all_57 : decode cX7_all 57 = .ok (.getfield 7, 3) := by decide +kernel
theorem dX7_all_60 : decode cX7_all 60 = .ok (.iload_n 3, 1) := by decide +kernel
theorem dX7_all_61 : decode cX7_all 61 = .ok (.iaload, 1) := by decide +kernel
theorem dX7_all_62 : decode cX7_all 62 = .ok (.ifCond .lt 7, 3) := by decide +kernel
theorem dX7_all_65 : decode cX7_all 65 = .ok (.iconst 1, 1) := by decide +kernel
theorem dX7_all_66 : decode cX7_all 66 = .ok (.goto 4, 3) := by decide +kernel
theorem dX7_all_69 : decode cX7_all 69 = .ok (.iconst 0, 1) := by decide +kernel
theorem dX7_all_70 : decode cX7_all 70 = .ok (.iadd, 1) := by decide +kernel
theorem dX7_all_71 : decode cX7_all 71 = .ok (.istore_n 2, 1) := by decide +kernel
theorem dX7_all_72 : decode cX7_all 72 = .ok (.iinc 3 1, 3) := by decide +kernel
theorem dX7_all_75 : decode cX7_all 75 = .ok (.goto (-27), 3) := by decide +kernel
theorem dX7_all_78 : decode cX7_all 78 = .ok (.iload_n 2, 1) := by decide +kernel
theorem dX7_all_79 : decode cX7_all 79 = .ok (.ireturn, 1) := by decide +kernel
theorem dX7_all_80 : decode cX7_all 80 = .ok (.aload_n 0, 1) := by decide +kernel
theorem dX7_all_81 : decode cX7_all 81 = .ok (.getfield 56, 3) := by decide +kernel
theorem dX7_all_84 : decode cX7_all 84 = .ok (.ireturn, 1) := by decide +kernel
theorem dX7_all_85 : decode cX7_all 85 = .ok (.aload_n 0, 1) := by decide +kernel
theorem dX7_all_86 : decode cX7_all 86 = .ok (.ldc 83, 2) := by decide +kernel
theorem dX7_all_88 : decode cX7_all 88 = .ok (.invokevirtual 72, 3) := by decide +kernel
theorem dX7_all_91 : decode cX7_all 91 = .ok (.ireturn, 1) := by decide +kernel
