theorem dX7_init_0 : decode cX7_init 0 = .ok (.aload_n 0, 1) := by decide +kernel
theorem dX7_init_1 : decode cX7_init 1 = .ok (.invokespecial 1, 3) := by decide +kernel
theorem dX7_init_4 : decode cX7_init 4 = .ok (.aload_n 0, 1) := by decide +kernel
theorem dX7_init_5 : decode cX7_init 5 = .ok (.sipush 320, 3) := by decide +kernel
theorem dX7_init_8 : decode cX7_init 8 = .ok (.newarray .int, 2) := by decide +kernel
theorem dX7_init_10 : decode cX7_init 10 = .ok (.putfield 7, 3) := by decide +kernel
theorem dX7_init_13 : decode cX7_init 13 = .ok (.aload_n 0, 1) := by decide +kernel
theorem dX7_init_14 : decode cX7_init 14 = .ok (.sipush 6400, 3) := by decide +kernel
theorem dX7_init_17 : decode cX7_init 17 = .ok (.newarray .int, 2) := by decide +kernel
theorem dX7_init_19 : decode cX7_init 19 = .ok (.putfield 13, 3) := by decide +kernel
theorem dX7_init_22 : decode cX7_init 22 = .ok (.aload_n 0, 1) := by decide +kernel
theorem dX7_init_23 : decode cX7_init 23 = .ok (.iconst 4, 1) := by decide +kernel
theorem dX7_init_24 : decode cX7_init 24 = .ok (.newarray .int, 2) := by decide +kernel
theorem dX7_init_26 : decode cX7_init 26 = .ok (.putfield 16, 3) := by decide +kernel
theorem dX7_init_29 : decode cX7_init 29 = .ok (.aload_n 0, 1) := by decide +kernel
theorem dX7_init_30 : decode cX7_init 30 = .ok (.iconst 4, 1) := by decide +kernel
theorem dX7_init_31 : decode cX7_init 31 = .ok (.newarray .int, 2) := by decide +kernel
theorem dX7_init_33 : decode cX7_init 33 = .ok (.putfield 19, 3) := by decide +kernel
theorem dX7_init_36 : decode cX7_init 36 = .ok (.aload_n 0, 1) := by decide +kernel
theorem dX7_init_37 : decode cX7_init 37 = .ok (.bipush 120, 2) := by decide +kernel
theorem dX7_init_39 : decode cX7_init 39 = .ok (.newarray .int, 2) := by decide +kernel
theorem dX7_init_41 : decode cX7_init 41 = .ok (.putfield 22, 3) := by decide +kernel
theorem dX7_init_44 : decode cX7_init 44 = .ok (.aload_n 0, 1) := by decide +kernel
theorem dX7_init_45 : decode cX7_init 45 = .ok (.sipush 26244, 3) := by decide +kernel
theorem dX7_init_48 : decode cX7_init 48 = .ok (.newarray .int, 2) := by decide +kernel
theorem dX7_init_50 : decode cX7_init 50 = .ok (.putfield 25, 3) := by decide +kernel
theorem dX7_init_53 : decode cX7_init 53 = .ok (.aload_n 0, 1) := by decide +kernel
theorem dX7_init_54 : decode cX7_init 54 = .ok (.sipush 26244, 3) := by decide +kernel
theorem dX7_init_57 : decode cX7_init 57 = .ok (.newarray .int, 2) := by decide +kernel
theorem dX7_init_59 : decode cX7_init 59 = .ok (.putfield 28, 3) := by decide +kernel
theorem dX7_init_62 : decode cX7_init 62 = .ok (.aload_n 0, 1) := by decide +kernel
theorem dX7_init_63 : decode cX7_init 63 = .ok (.bipush 63, 2) := by decide +kernel
theorem dX7_init_65 : decode cX7_init 65 = .ok (.newarray .int, 2) := by decide +kernel
theorem dX7_init_67 : decode cX7_init 67 = .ok (.putfield 31, 3) := by decide +kernel
theorem dX7_init_70 : decode cX7_init 70 = .ok (.aload_n 0, 1) := by decide +kernel
theorem dX7_init_71 : decode cX7_init 71 = .ok (.bipush 63, 2) := by decide +kernel
theorem dX7_init_73 : decode cX7_init 73 = .ok (.newarray .int, 2) := by decide +kernel
theorem dX7_init_75 : decode cX7_init 75 = .ok (.putfield 34, 3) := by decide +kernel
theorem dX7_init_78 : decode cX7_init 78 = .ok (.aload_n 0, 1) := by decide +kernel
theorem dX7_init_79 : decode cX7_init 79 = .ok (.bipush 12, 2) := by decide +kernel
theorem dX7_init_81 : decode cX7_init 81 = .ok (.newarray .int, 2) := by decide +kernel
theorem dX7_init_83 : decode cX7_init 83 = .ok (.putfield 37, 3) := by decide +kernel
theorem dX7_init_86 : decode cX7_init 86 = .ok (.aload_n 0, 1) := by decide +kernel
theorem dX7_init_87 : decode cX7_init 87 = .ok (.sipush 2187, 3) := by decide +kernel
theorem dX7_init_90 : decode cX7_init 90 = .ok (.newarray .boolean, 2) := by decide +kernel
theorem dX7_init_92 : decode cX7_init 92 = .ok (.putfield 40, 3) := by decide +kernel
theorem dX7_init_95 : decode cX7_init 95 = .ok (.aload_n 0, 1) := by decide +kernel
theorem dX7_init_96 : decode cX7_init 96 = .ok (.sipush 2187, 3) := by decide +kernel
theorem dX7_init_99 : decode cX7_init 99 = .ok (.newarray .boolean, 2) := by decide +kernel
theorem dX7_init_101 : decode cX7_init 101 = .ok (.putfield 44, 3) := by decide +kernel
theorem dX7_init_104 : decode cX7_init 104 = .ok (.aload_n 0, 1) := by decide +kernel
theorem dX7_init_105 : decode cX7_init 105 = .ok (.bipush 6, 2) := by decide +kernel
theorem dX7_init_107 : decode cX7_init 107 = .ok (.newarray .int, 2) := by decide +kernel
theorem dX7_init_109 : decode cX7_init 109 = .ok (.putfield 47, 3) := by decide +kernel
theorem dX7_init_112 : decode cX7_init 112 = .ok (.aload_n 0, 1) := by decide +kernel
theorem dX7_init_113 : decode cX7_init 113 = .ok (.bipush 6, 2) := by decide +kernel
theorem dX7_init_115 : decode cX7_init 115 = .ok (.newarray .int, 2) := by decide +kernel
theorem dX7_init_117 : decode cX7_init 117 = .ok (.putfield 50, 3) := by decide +kernel
theorem dX7_init_120 : decode cX7_init 120 = .ok (.aload_n 0, 1) := by decide +kernel
theorem dX7_init_121 : decode cX7_init 121 = .ok (.bipush 30, 2) := by decide +kernel
theorem dX7_init_123 : decode cX7_init 123 = .ok (.newarray .int, 2) := by decide +kernel
theorem dX7_init_125 : decode cX7_init 125 = .ok (.putfield 53, 3) := by decide +kernel
theorem dX7_init_128 : decode cX7_init 128 = .ok (.aload_n 0, 1) := by decide +kernel
theorem dX7_init_129 : decode cX7_init 129 = .ok (.getfield 7, 3) := by decide +kernel
theorem dX7_init_132 : decode cX7_init 132 = .ok (.iconst 0, 1) := by decide +kernel
theorem dX7_init_133 : decode cX7_init 133 = .ok (.bipush 8, 2) := by decide +kernel
theorem dX7_init_135 : decode cX7_init 135 = .ok (.iastore, 1) := by decide +kernel
theorem dX7_init_136 : decode cX7_init 136 = .ok (.sipush 229, 3) := by decide +kernel
theorem dX7_init_139 : decode cX7_init 139 = .ok (.istore_n 1, 1) := by decide +kernel
theorem dX7_init_140 : decode cX7_init 140 = .ok (.iload_n 1, 1) := by decide +kernel
theorem dX7_init_141 : decode cX7_init 141 = .ok (.sipush 320, 3) := by decide +kernel
theorem dX7_init_144 : decode cX7_init 144 = .ok (.if_icmp .ge 16, 3) := by decide +kernel
theorem dX7_init_147 : decode cX7_init 147 = .ok (.aload_n 0, 1) := by decide +kernel
theorem dX7_init_148 : decode cX7_init 148 = .ok (.getfield 7, 3) := by decide +kernel
theorem dX7_init_151 : decode cX7_init 151 = .ok (.iload_n 1, 1) := by decide +kernel
theorem dX7_init_152 : decode cX7_init 152 = .ok (.iconst (-1), 1) := by decide +kernel
theorem dX7_init_153 : decode cX7_init 153 = .ok (.iastore, 1) := by decide +kernel
theorem dX7_init_154 : decode cX7_init 154 = .ok (.iinc 1 1, 3) := by decide +kernel
theorem dX7_init_157 : decode cX7_init 157 = .ok (.goto (-17), 3) := by decide +kernel
theorem dX7_init_160 : decode cX7_init 160 = .ok (.return_, 1) := by decide +kernel
theorem dX7_finding_0 : decode cX7_finding 0 = .ok (.aload_n 0, 1) := by decide +kernel
theorem dX7_finding_1 : decode cX7_finding 1 = .ok (.dup, 1) := by decide +kernel
theorem dX7_finding_2 : decode cX7_finding 2 = .ok (.getfield 56, 3) := by decide +kernel
theorem dX7_finding_5 : decode cX7_finding 5 = .ok (.iconst 1, 1) := by decide +kernel
theorem dX7_finding_6 : decode cX7_finding 6 = .ok (.iadd, 1) := by decide +kernel
theorem dX7_finding_7 : decode cX7_finding 7 = .ok (.putfield 56, 3) := by decide +kernel
theorem dX7_finding_10 : decode cX7_finding 10 = .ok (.iload_n 1, 1) := by decide +kernel
theorem dX7_finding_11 : decode cX7_finding 11 = .ok (.ireturn, 1) := by decide +kernel
theorem dX7_isIn_0 : decode cX7_isIn 0 = .ok (.iload_n 0, 1) := by decide +kernel
theorem dX7_isIn_1 : decode cX7_isIn 1 = .ok (.iload_n 1, 1) := by decide +kernel
theorem dX7_isIn_2 : decode cX7_isIn 2 = .ok (.if_icmp .lt 12, 3) := by decide +kernel
theorem dX7_isIn_5 : decode cX7_isIn 5 = .ok (.iload_n 0, 1) := by decide +kernel
theorem dX7_isIn_6 : decode cX7_isIn 6 = .ok (.iload_n 2, 1) := by decide +kernel
theorem dX7_isIn_7 : decode cX7_isIn 7 = .ok (.if_icmp .gt 7, 3) := by decide +kernel
theorem dX7_isIn_10 : decode cX7_isIn 10 = .ok (.iconst 1, 1) := by decide +kernel
theorem dX7_isIn_11 : decode cX7_isIn 11 = .ok (.goto 4, 3) := by decide +kernel
theorem dX7_isIn_14 : decode cX7_isIn 14 = .ok (.iconst 0, 1) := by decide +kernel
theorem dX7_isIn_15 : decode cX7_isIn 15 = .ok (.ireturn, 1) := by decide +kernel
theorem dX7_isBeat_0 : decode cX7_isBeat 0 = .ok (.iload_n 0, 1) := by decide +kernel
theorem dX7_isBeat_1 : decode cX7_isBeat 1 = .ok (.iconst 0, 1) := by decide +kernel
theorem dX7_isBeat_2 : decode cX7_isBeat 2 = .ok (.bipush 11, 2) := by decide +kernel
theorem dX7_isBeat_4 : decode cX7_isBeat 4 = .ok (.invokestatic 60, 3) := by decide +kernel
theorem dX7_isBeat_7 : decode cX7_isBeat 7 = .ok (.ireturn, 1) := by decide +kernel
theorem dX7_isPlayed_0 : decode cX7_isPlayed 0 = .ok (.iload_n 1, 1) := by decide +kernel
theorem dX7_isPlayed_1 : decode cX7_isPlayed 1 = .ok (.iconst 0, 1) := by decide +kernel
theorem dX7_isPlayed_2 : decode cX7_isPlayed 2 = .ok (.aload_n 0, 1) := by decide +kernel
theorem dX7_isPlayed_3 : decode cX7_isPlayed 3 = .ok (.getfield 7, 3) := by decide +kernel
theorem dX7_isPlayed_6 : decode cX7_isPlayed 6 = .ok (.iconst 0, 1) := by decide +kernel
theorem dX7_isPlayed_7 : decode cX7_isPlayed 7 = .ok (.iaload, 1) := by decide +kernel
theorem dX7_isPlayed_8 : decode cX7_isPlayed 8 = .ok (.iconst 1, 1) := by decide +kernel
theorem dX7_isPlayed_9 : decode cX7_isPlayed 9 = .ok (.isub, 1) := by decide +kernel
theorem dX7_isPlayed_10 : decode cX7_isPlayed 10 = .ok (.invokestatic 60, 3) := by decide +kernel
theorem dX7_isPlayed_13 : decode cX7_isPlayed 13 = .ok (.ireturn, 1) := by decide +kernel
theorem dX7_isPedal_0 : decode cX7_isPedal 0 = .ok (.iload_n 0, 1) := by decide +kernel
theorem dX7_isPedal_1 : decode cX7_isPedal 1 = .ok (.iconst 0, 1) := by decide +kernel
theorem dX7_isPedal_2 : decode cX7_isPedal 2 = .ok (.bipush 6, 2) := by decide +kernel
theorem dX7_isPedal_4 : decode cX7_isPedal 4 = .ok (.invokestatic 60, 3) := by decide +kernel
theorem dX7_isPedal_7 : decode cX7_isPedal 7 = .ok (.ireturn, 1) := by decide +kernel
theorem dX7_isDiagram_0 : decode cX7_isDiagram 0 = .ok (.iload_n 0, 1) := by decide +kernel
theorem dX7_isDiagram_1 : decode cX7_isDiagram 1 = .ok (.iconst 0, 1) := by decide +kernel
theorem dX7_isDiagram_2 : decode cX7_isDiagram 2 = .ok (.sipush 2186, 3) := by decide +kernel
theorem dX7_isDiagram_5 : decode cX7_isDiagram 5 = .ok (.invokestatic 60, 3) := by decide +kernel
theorem dX7_isDiagram_8 : decode cX7_isDiagram 8 = .ok (.ireturn, 1) := by decide +kernel
theorem dX7_isNote_0 : decode cX7_isNote 0 = .ok (.iload_n 1, 1) := by decide +kernel
theorem dX7_isNote_1 : decode cX7_isNote 1 = .ok (.invokestatic 64, 3) := by decide +kernel
theorem dX7_isNote_4 : decode cX7_isNote 4 = .ok (.ifCond .eq 23, 3) := by decide +kernel
theorem dX7_isNote_7 : decode cX7_isNote 7 = .ok (.iload_n 2, 1) := by decide +kernel
theorem dX7_isNote_8 : decode cX7_isNote 8 = .ok (.ifCond .lt 19, 3) := by decide +kernel
theorem dX7_isNote_11 : decode cX7_isNote 11 = .ok (.iload_n 2, 1) := by decide +kernel
theorem dX7_isNote_12 : decode cX7_isNote 12 = .ok (.aload_n 0, 1) := by decide +kernel
theorem dX7_isNote_13 : decode cX7_isNote 13 = .ok (.getfield 7, 3) := by decide +kernel
theorem dX7_isNote_16 : decode cX7_isNote 16 = .ok (.iconst 1, 1) := by decide +kernel
theorem dX7_isNote_17 : decode cX7_isNote 17 = .ok (.iload_n 1, 1) := by decide +kernel
theorem dX7_isNote_18 : decode cX7_isNote 18 = .ok (.iadd, 1) := by decide +kernel
theorem dX7_isNote_19 : decode cX7_isNote 19 = .ok (.iaload, 1) := by decide +kernel
theorem dX7_isNote_20 : decode cX7_isNote 20 = .ok (.if_icmp .ge 7, 3) := by decide +kernel
theorem dX7_isNote_23 : decode cX7_isNote 23 = .ok (.iconst 1, 1) := by decide +kernel
theorem dX7_isNote_24 : decode cX7_isNote 24 = .ok (.goto 4, 3) := by decide +kernel
theorem dX7_isNote_27 : decode cX7_isNote 27 = .ok (.iconst 0, 1) := by decide +kernel
theorem dX7_isNote_28 : decode cX7_isNote 28 = .ok (.ireturn, 1) := by decide +kernel
theorem dX7_note_0 : decode cX7_note 0 = .ok (.aload_n 0, 1) := by decide +kernel
theorem dX7_note_1 : decode cX7_note 1 = .ok (.getfield 7, 3) := by decide +kernel
theorem dX7_note_4 : decode cX7_note 4 = .ok (.bipush 13, 2) := by decide +kernel
theorem dX7_note_6 : decode cX7_note 6 = .ok (.iconst 3, 1) := by decide +kernel
theorem dX7_note_7 : decode cX7_note 7 = .ok (.bipush 6, 2) := by decide +kernel
theorem dX7_note_9 : decode cX7_note 9 = .ok (.iload_n 1, 1) := by decide +kernel
theorem dX7_note_10 : decode cX7_note 10 = .ok (.imul, 1) := by decide +kernel
theorem dX7_note_11 : decode cX7_note 11 = .ok (.iload_n 2, 1) := by decide +kernel
theorem dX7_note_12 : decode cX7_note 12 = .ok (.iadd, 1) := by decide +kernel
theorem dX7_note_13 : decode cX7_note 13 = .ok (.imul, 1) := by decide +kernel
theorem dX7_note_14 : decode cX7_note 14 = .ok (.iadd, 1) := by decide +kernel
theorem dX7_note_15 : decode cX7_note 15 = .ok (.iload_n 3, 1) := by decide +kernel
theorem dX7_note_16 : decode cX7_note 16 = .ok (.iadd, 1) := by decide +kernel
theorem dX7_note_17 : decode cX7_note 17 = .ok (.iaload, 1) := by decide +kernel
theorem dX7_note_18 : decode cX7_note 18 = .ok (.ireturn, 1) := by decide +kernel
theorem dX7_keep_0 : decode cX7_keep 0 = .ok (.aload_n 0, 1) := by decide +kernel
theorem dX7_keep_1 : decode cX7_keep 1 = .ok (.getfield 68, 3) := by decide +kernel
theorem dX7_keep_4 : decode cX7_keep 4 = .ok (.bipush 20, 2) := by decide +kernel
theorem dX7_keep_6 : decode cX7_keep 6 = .ok (.if_icmp .ne 44, 3) := by decide +kernel
theorem dX7_keep_9 : decode cX7_keep 9 = .ok (.iconst 0, 1) := by decide +kernel
theorem dX7_keep_10 : decode cX7_keep 10 = .ok (.istore_n 1, 1) := by decide +kernel
theorem dX7_keep_11 : decode cX7_keep 11 = .ok (.iload_n 1, 1) := by decide +kernel
theorem dX7_keep_12 : decode cX7_keep 12 = .ok (.sipush 6080, 3) := by decide +kernel
theorem dX7_keep_15 : decode cX7_keep 15 = .ok (.if_icmp .ge 25, 3) := by decide +kernel
theorem dX7_keep_18 : decode cX7_keep 18 = .ok (.aload_n 0, 1) := by decide +kernel
theorem dX7_keep_19 : decode cX7_keep 19 = .ok (.getfield 13, 3) := by decide +kernel
theorem dX7_keep_22 : decode cX7_keep 22 = .ok (.iload_n 1, 1) := by decide +kernel
theorem dX7_keep_23 : decode cX7_keep 23 = .ok (.aload_n 0, 1) := by decide +kernel
theorem dX7_keep_24 : decode cX7_keep 24 = .ok (.getfield 13, 3) := by decide +kernel
theorem dX7_keep_27 : decode cX7_keep 27 = .ok (.iload_n 1, 1) := by decide +kernel
theorem dX7_keep_28 : decode cX7_keep 28 = .ok (.sipush 320, 3) := by decide +kernel
theorem dX7_keep_31 : decode cX7_keep 31 = .ok (.iadd, 1) := by decide +kernel
theorem dX7_keep_32 : decode cX7_keep 32 = .ok (.iaload, 1) := by decide +kernel
theorem dX7_keep_33 : decode cX7_keep 33 = .ok (.iastore, 1) := by decide +kernel
theorem dX7_keep_34 : decode cX7_keep 34 = .ok (.iinc 1 1, 3) := by decide +kernel
theorem dX7_keep_37 : decode cX7_keep 37 = .ok (.goto (-26), 3) := by decide +kernel
theorem dX7_keep_40 : decode cX7_keep 40 = .ok (.aload_n 0, 1) := by decide +kernel
theorem dX7_keep_41 : decode cX7_keep 41 = .ok (.dup, 1) := by decide +kernel
theorem dX7_keep_42 : decode cX7_keep 42 = .ok (.getfield 68, 3) := by decide +kernel
theorem dX7_keep_45 : decode cX7_keep 45 = .ok (.iconst 1, 1) := by decide +kernel
theorem dX7_keep_46 : decode cX7_keep 46 = .ok (.isub, 1) := by decide +kernel
theorem dX7_keep_47 : decode cX7_keep 47 = .ok (.putfield 68, 3) := by decide +kernel
theorem dX7_keep_50 : decode cX7_keep 50 = .ok (.iconst 0, 1) := by decide +kernel
theorem dX7_keep_51 : decode cX7_keep 51 = .ok (.istore_n 1, 1) := by decide +kernel
theorem dX7_keep_52 : decode cX7_keep 52 = .ok (.iload_n 1, 1) := by decide +kernel
theorem dX7_keep_53 : decode cX7_keep 53 = .ok (.sipush 320, 3) := by decide +kernel
theorem dX7_keep_56 : decode cX7_keep 56 = .ok (.if_icmp .ge 30, 3) := by decide +kernel
theorem dX7_keep_59 : decode cX7_keep 59 = .ok (.aload_n 0, 1) := by decide +kernel
theorem dX7_keep_60 : decode cX7_keep 60 = .ok (.getfield 13, 3) := by decide +kernel
theorem dX7_keep_63 : decode cX7_keep 63 = .ok (.sipush 320, 3) := by decide +kernel
theorem dX7_keep_66 : decode cX7_keep 66 = .ok (.aload_n 0, 1) := by decide +kernel
theorem dX7_keep_67 : decode cX7_keep 67 = .ok (.getfield 68, 3) := by decide +kernel
theorem dX7_keep_70 : decode cX7_keep 70 = .ok (.imul, 1) := by decide +kernel
theorem dX7_keep_71 : decode cX7_keep 71 = .ok (.iload_n 1, 1) := by decide +kernel
theorem dX7_keep_72 : decode cX7_keep 72 = .ok (.iadd, 1) := by decide +kernel
theorem dX7_keep_73 : decode cX7_keep 73 = .ok (.aload_n 0, 1) := by decide +kernel
theorem dX7_keep_74 : decode cX7_keep 74 = .ok (.getfield 7, 3) := by decide +kernel
theorem dX7_keep_77 : decode cX7_keep 77 = .ok (.iload_n 1, 1) := by decide +kernel
theorem dX7_keep_78 : decode cX7_keep 78 = .ok (.iaload, 1) := by decide +kernel
theorem dX7_keep_79 : decode cX7_keep 79 = .ok (.iastore, 1) := by decide +kernel
theorem dX7_keep_80 : decode cX7_keep 80 = .ok (.iinc 1 1, 3) := by decide +kernel
theorem dX7_keep_83 : decode cX7_keep 83 = .ok (.goto (-31), 3) := by decide +kernel
theorem dX7_keep_86 : decode cX7_keep 86 = .ok (.aload_n 0, 1) := by decide +kernel
theorem dX7_keep_87 : decode cX7_keep 87 = .ok (.dup, 1) := by decide +kernel
theorem dX7_keep_88 : decode cX7_keep 88 = .ok (.getfield 68, 3) := by decide +kernel
theorem dX7_keep_91 : decode cX7_keep 91 = .ok (.iconst 1, 1) := by decide +kernel
theorem dX7_keep_92 : decode cX7_keep 92 = .ok (.iadd, 1) := by decide +kernel
theorem dX7_keep_93 : decode cX7_keep 93 = .ok (.putfield 68, 3) := by decide +kernel
theorem dX7_keep_96 : decode cX7_keep 96 = .ok (.return_, 1) := by decide +kernel
theorem dX7_undo_0 : decode cX7_undo 0 = .ok (.aload_n 0, 1) := by decide +kernel
theorem dX7_undo_1 : decode cX7_undo 1 = .ok (.getfield 68, 3) := by decide +kernel
theorem dX7_undo_4 : decode cX7_undo 4 = .ok (.ifCond .ne 10, 3) := by decide +kernel
theorem dX7_undo_7 : decode cX7_undo 7 = .ok (.aload_n 0, 1) := by decide +kernel
theorem dX7_undo_8 : decode cX7_undo 8 = .ok (.ldc 71, 2) := by decide +kernel
theorem dX7_undo_10 : decode cX7_undo 10 = .ok (.invokevirtual 72, 3) := by decide +kernel
theorem dX7_undo_13 : decode cX7_undo 13 = .ok (.ireturn, 1) := by decide +kernel
theorem dX7_undo_14 : decode cX7_undo 14 = .ok (.aload_n 0, 1) := by decide +kernel
theorem dX7_undo_15 : decode cX7_undo 15 = .ok (.dup, 1) := by decide +kernel
theorem dX7_undo_16 : decode cX7_undo 16 = .ok (.getfield 68, 3) := by decide +kernel
theorem dX7_undo_19 : decode cX7_undo 19 = .ok (.iconst 1, 1) := by decide +kernel
theorem dX7_undo_20 : decode cX7_undo 20 = .ok (.isub, 1) := by decide +kernel
theorem dX7_undo_21 : decode cX7_undo 21 = .ok (.putfield 68, 3) := by decide +kernel
theorem dX7_undo_24 : decode cX7_undo 24 = .ok (.iconst 0, 1) := by decide +kernel
theorem dX7_undo_25 : decode cX7_undo 25 = .ok (.istore_n 1, 1) := by decide +kernel
theorem dX7_undo_26 : decode cX7_undo 26 = .ok (.iload_n 1, 1) := by decide +kernel
theorem dX7_undo_27 : decode cX7_undo 27 = .ok (.sipush 320, 3) := by decide +kernel
theorem dX7_undo_30 : decode cX7_undo 30 = .ok (.if_icmp .ge 30, 3) := by decide +kernel
theorem dX7_undo_33 : decode cX7_undo 33 = .ok (.aload_n 0, 1) := by decide +kernel
theorem dX7_undo_34 : decode cX7_undo 34 = .ok (.getfield 7, 3) := by decide +kernel
theorem dX7_undo_37 : decode cX7_undo 37 = .ok (.iload_n 1, 1) := by decide +kernel
theorem dX7_undo_38 : decode cX7_undo 38 = .ok (.aload_n 0, 1) := by decide +kernel
theorem dX7_undo_39 : decode cX7_undo 39 = .ok (.getfield 13, 3) := by decide +kernel
theorem dX7_undo_42 : decode cX7_undo 42 = .ok (.sipush 320, 3) := by decide +kernel
theorem dX7_undo_45 : decode cX7_undo 45 = .ok (.aload_n 0, 1) := by decide +kernel
theorem dX7_undo_46 : decode cX7_undo 46 = .ok (.getfield 68, 3) := by decide +kernel
theorem dX7_undo_49 : decode cX7_undo 49 = .ok (.imul, 1) := by decide +kernel
theorem dX7_undo_50 : decode cX7_undo 50 = .ok (.iload_n 1, 1) := by decide +kernel
theorem dX7_undo_51 : decode cX7_undo 51 = .ok (.iadd, 1) := by decide +kernel
theorem dX7_undo_52 : decode cX7_undo 52 = .ok (.iaload, 1) := by decide +kernel
theorem dX7_undo_53 : decode cX7_undo 53 = .ok (.iastore, 1) := by decide +kernel
theorem dX7_undo_54 : decode cX7_undo 54 = .ok (.iinc 1 1, 3) := by decide +kernel
theorem dX7_undo_57 : decode cX7_undo 57 = .ok (.goto (-31), 3) := by decide +kernel
theorem dX7_undo_60 : decode cX7_undo 60 = .ok (.aload_n 0, 1) := by decide +kernel
theorem dX7_undo_61 : decode cX7_undo 61 = .ok (.getfield 68, 3) := by decide +kernel
theorem dX7_undo_64 : decode cX7_undo 64 = .ok (.ireturn, 1) := by decide +kernel
theorem dX7_becomes_0 : decode cX7_becomes 0 = .ok (.aload_n 0, 1) := by decide +kernel
theorem dX7_becomes_1 : decode cX7_becomes 1 = .ok (.invokevirtual 76, 3) := by decide +kernel
theorem dX7_becomes_4 : decode cX7_becomes 4 = .ok (.aload_n 0, 1) := by decide +kernel
theorem dX7_becomes_5 : decode cX7_becomes 5 = .ok (.getfield 7, 3) := by decide +kernel
theorem dX7_becomes_8 : decode cX7_becomes 8 = .ok (.iload_n 1, 1) := by decide +kernel
theorem dX7_becomes_9 : decode cX7_becomes 9 = .ok (.iaload, 1) := by decide +kernel
theorem dX7_becomes_10 : decode cX7_becomes 10 = .ok (.istore_n 3, 1) := by decide +kernel
theorem dX7_becomes_11 : decode cX7_becomes 11 = .ok (.aload_n 0, 1) := by decide +kernel
theorem dX7_becomes_12 : decode cX7_becomes 12 = .ok (.getfield 7, 3) := by decide +kernel
theorem dX7_becomes_15 : decode cX7_becomes 15 = .ok (.iload_n 1, 1) := by decide +kernel
theorem dX7_becomes_16 : decode cX7_becomes 16 = .ok (.iload_n 2, 1) := by decide +kernel
theorem dX7_becomes_17 : decode cX7_becomes 17 = .ok (.iastore, 1) := by decide +kernel
theorem dX7_becomes_18 : decode cX7_becomes 18 = .ok (.iload_n 3, 1) := by decide +kernel
theorem dX7_becomes_19 : decode cX7_becomes 19 = .ok (.ireturn, 1) := by decide +kernel
theorem dX7_beats_0 : decode cX7_beats 0 = .ok (.iload_n 1, 1) := by decide +kernel
theorem dX7_beats_1 : decode cX7_beats 1 = .ok (.iconst 1, 1) := by decide +kernel
theorem dX7_beats_2 : decode cX7_beats 2 = .ok (.bipush 12, 2) := by decide +kernel
theorem dX7_beats_4 : decode cX7_beats 4 = .ok (.invokestatic 60, 3) := by decide +kernel
theorem dX7_beats_7 : decode cX7_beats 7 = .ok (.ifCond .eq 12, 3) := by decide +kernel
theorem dX7_beats_10 : decode cX7_beats 10 = .ok (.aload_n 0, 1) := by decide +kernel
theorem dX7_beats_11 : decode cX7_beats 11 = .ok (.iconst 0, 1) := by decide +kernel
theorem dX7_beats_12 : decode cX7_beats 12 = .ok (.iload_n 1, 1) := by decide +kernel
theorem dX7_beats_13 : decode cX7_beats 13 = .ok (.invokevirtual 79, 3) := by decide +kernel
theorem dX7_beats_16 : decode cX7_beats 16 = .ok (.goto 9, 3) := by decide +kernel
theorem dX7_beats_19 : decode cX7_beats 19 = .ok (.aload_n 0, 1) := by decide +kernel
theorem dX7_beats_20 : decode cX7_beats 20 = .ok (.ldc 83, 2) := by decide +kernel
theorem dX7_beats_22 : decode cX7_beats 22 = .ok (.invokevirtual 72, 3) := by decide +kernel
theorem dX7_beats_25 : decode cX7_beats 25 = .ok (.ireturn, 1) := by decide +kernel
theorem dX7_lay_0 : decode cX7_lay 0 = .ok (.bipush 13, 2) := by decide +kernel
theorem dX7_lay_2 : decode cX7_lay 2 = .ok (.iconst 3, 1) := by decide +kernel
theorem dX7_lay_3 : decode cX7_lay 3 = .ok (.bipush 6, 2) := by decide +kernel
theorem dX7_lay_5 : decode cX7_lay 5 = .ok (.iload_n 1, 1) := by decide +kernel
theorem dX7_lay_6 : decode cX7_lay 6 = .ok (.imul, 1) := by decide +kernel
theorem dX7_lay_7 : decode cX7_lay 7 = .ok (.iload_n 2, 1) := by decide +kernel
theorem dX7_lay_8 : decode cX7_lay 8 = .ok (.iadd, 1) := by decide +kernel
theorem dX7_lay_9 : decode cX7_lay 9 = .ok (.imul, 1) := by decide +kernel
theorem dX7_lay_10 : decode cX7_lay 10 = .ok (.iadd, 1) := by decide +kernel
theorem dX7_lay_11 : decode cX7_lay 11 = .ok (.istore 6, 2) := by decide +kernel
theorem dX7_lay_13 : decode cX7_lay 13 = .ok (.aload_n 0, 1) := by decide +kernel
theorem dX7_lay_14 : decode cX7_lay 14 = .ok (.getfield 7, 3) := by decide +kernel
theorem dX7_lay_17 : decode cX7_lay 17 = .ok (.iload 6, 2) := by decide +kernel
theorem dX7_lay_19 : decode cX7_lay 19 = .ok (.iload_n 3, 1) := by decide +kernel
theorem dX7_lay_20 : decode cX7_lay 20 = .ok (.iastore, 1) := by decide +kernel
theorem dX7_lay_21 : decode cX7_lay 21 = .ok (.aload_n 0, 1) := by decide +kernel
theorem dX7_lay_22 : decode cX7_lay 22 = .ok (.getfield 7, 3) := by decide +kernel
theorem dX7_lay_25 : decode cX7_lay 25 = .ok (.iload 6, 2) := by decide +kernel
theorem dX7_lay_27 : decode cX7_lay 27 = .ok (.iconst 1, 1) := by decide +kernel
theorem dX7_lay_28 : decode cX7_lay 28 = .ok (.iadd, 1) := by decide +kernel
theorem dX7_lay_29 : decode cX7_lay 29 = .ok (.iload 4, 2) := by decide +kernel
theorem dX7_lay_31 : decode cX7_lay 31 = .ok (.iastore, 1) := by decide +kernel
theorem dX7_lay_32 : decode cX7_lay 32 = .ok (.aload_n 0, 1) := by decide +kernel
theorem dX7_lay_33 : decode cX7_lay 33 = .ok (.getfield 7, 3) := by decide +kernel
theorem dX7_lay_36 : decode cX7_lay 36 = .ok (.iload 6, 2) := by decide +kernel
theorem dX7_lay_38 : decode cX7_lay 38 = .ok (.iconst 2, 1) := by decide +kernel
theorem dX7_lay_39 : decode cX7_lay 39 = .ok (.iadd, 1) := by decide +kernel
theorem dX7_lay_40 : decode cX7_lay 40 = .ok (.iload 5, 2) := by decide +kernel
theorem dX7_lay_42 : decode cX7_lay 42 = .ok (.ifCond .eq 12, 3) := by decide +kernel
theorem dX7_lay_45 : decode cX7_lay 45 = .ok (.iload_n 3, 1) := by decide +kernel
theorem dX7_lay_46 : decode cX7_lay 46 = .ok (.iconst 2, 1) := by decide +kernel
theorem dX7_lay_47 : decode cX7_lay 47 = .ok (.if_icmp .eq 7, 3) := by decide +kernel
theorem dX7_lay_50 : decode cX7_lay 50 = .ok (.iconst 1, 1) := by decide +kernel
theorem dX7_lay_51 : decode cX7_lay 51 = .ok (.goto 4, 3) := by decide +kernel
theorem dX7_lay_54 : decode cX7_lay 54 = .ok (.iconst 0, 1) := by decide +kernel
theorem dX7_lay_55 : decode cX7_lay 55 = .ok (.iastore, 1) := by decide +kernel
theorem dX7_lay_56 : decode cX7_lay 56 = .ok (.return_, 1) := by decide +kernel
theorem dX7_note__0 : decode cX7_note_ 0 = .ok (.iload_n 1, 1) := by decide +kernel
theorem dX7_note__1 : decode cX7_note_ 1 = .ok (.invokestatic 64, 3) := by decide +kernel
theorem dX7_note__4 : decode cX7_note_ 4 = .ok (.ifCond .eq 22, 3) := by decide +kernel
theorem dX7_note__7 : decode cX7_note_ 7 = .ok (.iload_n 2, 1) := by decide +kernel
theorem dX7_note__8 : decode cX7_note_ 8 = .ok (.iconst 0, 1) := by decide +kernel
theorem dX7_note__9 : decode cX7_note_ 9 = .ok (.iconst 3, 1) := by decide +kernel
theorem dX7_note__10 : decode cX7_note_ 10 = .ok (.invokestatic 60, 3) := by decide +kernel
theorem dX7_note__13 : decode cX7_note_ 13 = .ok (.ifCond .eq 13, 3) := by decide +kernel
theorem dX7_note__16 : decode cX7_note_ 16 = .ok (.iload_n 3, 1) := by decide +kernel
theorem dX7_note__17 : decode cX7_note_ 17 = .ok (.iconst (-1), 1) := by decide +kernel
theorem dX7_note__18 : decode cX7_note_ 18 = .ok (.bipush 100, 2) := by decide +kernel
theorem dX7_note__20 : decode cX7_note_ 20 = .ok (.invokestatic 60, 3) := by decide +kernel
theorem dX7_note__23 : decode cX7_note_ 23 = .ok (.ifCond .ne 10, 3) := by decide +kernel
theorem dX7_note__26 : decode cX7_note_ 26 = .ok (.aload_n 0, 1) := by decide +kernel
theorem dX7_note__27 : decode cX7_note_ 27 = .ok (.ldc 83, 2) := by decide +kernel
theorem dX7_note__29 : decode cX7_note_ 29 = .ok (.invokevirtual 72, 3) := by decide +kernel
theorem dX7_note__32 : decode cX7_note_ 32 = .ok (.ireturn, 1) := by decide +kernel
theorem dX7_note__33 : decode cX7_note_ 33 = .ok (.aload_n 0, 1) := by decide +kernel
theorem dX7_note__34 : decode cX7_note_ 34 = .ok (.getfield 7, 3) := by decide +kernel
theorem dX7_note__37 : decode cX7_note_ 37 = .ok (.iconst 1, 1) := by decide +kernel
theorem dX7_note__38 : decode cX7_note_ 38 = .ok (.iload_n 1, 1) := by decide +kernel
theorem dX7_note__39 : decode cX7_note_ 39 = .ok (.iadd, 1) := by decide +kernel
theorem dX7_note__40 : decode cX7_note_ 40 = .ok (.iaload, 1) := by decide +kernel
theorem dX7_note__41 : decode cX7_note_ 41 = .ok (.bipush 6, 2) := by decide +kernel
theorem dX7_note__43 : decode cX7_note_ 43 = .ok (.if_icmp .ne 10, 3) := by decide +kernel
theorem dX7_note__46 : decode cX7_note_ 46 = .ok (.aload_n 0, 1) := by decide +kernel
theorem dX7_note__47 : decode cX7_note_ 47 = .ok (.ldc 84, 2) := by decide +kernel
theorem dX7_note__49 : decode cX7_note_ 49 = .ok (.invokevirtual 72, 3) := by decide +kernel
theorem dX7_note__52 : decode cX7_note_ 52 = .ok (.ireturn, 1) := by decide +kernel
theorem dX7_note__53 : decode cX7_note_ 53 = .ok (.aload_n 0, 1) := by decide +kernel
theorem dX7_note__54 : decode cX7_note_ 54 = .ok (.iconst 1, 1) := by decide +kernel
theorem dX7_note__55 : decode cX7_note_ 55 = .ok (.iload_n 1, 1) := by decide +kernel
theorem dX7_note__56 : decode cX7_note_ 56 = .ok (.iadd, 1) := by decide +kernel
theorem dX7_note__57 : decode cX7_note_ 57 = .ok (.aload_n 0, 1) := by decide +kernel
theorem dX7_note__58 : decode cX7_note_ 58 = .ok (.getfield 7, 3) := by decide +kernel
theorem dX7_note__61 : decode cX7_note_ 61 = .ok (.iconst 1, 1) := by decide +kernel
theorem dX7_note__62 : decode cX7_note_ 62 = .ok (.iload_n 1, 1) := by decide +kernel
theorem dX7_note__63 : decode cX7_note_ 63 = .ok (.iadd, 1) := by decide +kernel
theorem dX7_note__64 : decode cX7_note_ 64 = .ok (.iaload, 1) := by decide +kernel
theorem dX7_note__65 : decode cX7_note_ 65 = .ok (.iconst 1, 1) := by decide +kernel
theorem dX7_note__66 : decode cX7_note_ 66 = .ok (.iadd, 1) := by decide +kernel
theorem dX7_note__67 : decode cX7_note_ 67 = .ok (.invokevirtual 79, 3) := by decide +kernel
theorem dX7_note__70 : decode cX7_note_ 70 = .ok (.istore 5, 2) := by decide +kernel
theorem dX7_note__72 : decode cX7_note_ 72 = .ok (.aload_n 0, 1) := by decide +kernel
theorem dX7_note__73 : decode cX7_note_ 73 = .ok (.iload_n 1, 1) := by decide +kernel
theorem dX7_note__74 : decode cX7_note_ 74 = .ok (.iload 5, 2) := by decide +kernel
theorem dX7_note__76 : decode cX7_note_ 76 = .ok (.iload_n 2, 1) := by decide +kernel
theorem dX7_note__77 : decode cX7_note_ 77 = .ok (.iload_n 3, 1) := by decide +kernel
theorem dX7_note__78 : decode cX7_note_ 78 = .ok (.iload 4, 2) := by decide +kernel
theorem dX7_note__80 : decode cX7_note_ 80 = .ok (.invokevirtual 85, 3) := by decide +kernel
theorem dX7_note__83 : decode cX7_note_ 83 = .ok (.iload 5, 2) := by decide +kernel
theorem dX7_note__85 : decode cX7_note_ 85 = .ok (.ireturn, 1) := by decide +kernel
theorem dX7_drop_0 : decode cX7_drop 0 = .ok (.iload_n 1, 1) := by decide +kernel
theorem dX7_drop_1 : decode cX7_drop 1 = .ok (.invokestatic 64, 3) := by decide +kernel
theorem dX7_drop_4 : decode cX7_drop 4 = .ok (.ifCond .ne 10, 3) := by decide +kernel
theorem dX7_drop_7 : decode cX7_drop 7 = .ok (.aload_n 0, 1) := by decide +kernel
theorem dX7_drop_8 : decode cX7_drop 8 = .ok (.ldc 83, 2) := by decide +kernel
theorem dX7_drop_10 : decode cX7_drop 10 = .ok (.invokevirtual 72, 3) := by decide +kernel
theorem dX7_drop_13 : decode cX7_drop 13 = .ok (.ireturn, 1) := by decide +kernel
theorem dX7_drop_14 : decode cX7_drop 14 = .ok (.aload_n 0, 1) := by decide +kernel
theorem dX7_drop_15 : decode cX7_drop 15 = .ok (.getfield 7, 3) := by decide +kernel
theorem dX7_drop_18 : decode cX7_drop 18 = .ok (.iconst 1, 1) := by decide +kernel
theorem dX7_drop_19 : decode cX7_drop 19 = .ok (.iload_n 1, 1) := by decide +kernel
theorem dX7_drop_20 : decode cX7_drop 20 = .ok (.iadd, 1) := by decide +kernel
theorem dX7_drop_21 : decode cX7_drop 21 = .ok (.iaload, 1) := by decide +kernel
theorem dX7_drop_22 : decode cX7_drop 22 = .ok (.ifCond .ne 10, 3) := by decide +kernel
theorem dX7_drop_25 : decode cX7_drop 25 = .ok (.aload_n 0, 1) := by decide +kernel
theorem dX7_drop_26 : decode cX7_drop 26 = .ok (.ldc 71, 2) := by decide +kernel
theorem dX7_drop_28 : decode cX7_drop 28 = .ok (.invokevirtual 72, 3) := by decide +kernel
theorem dX7_drop_31 : decode cX7_drop 31 = .ok (.ireturn, 1) := by decide +kernel
theorem dX7_drop_32 : decode cX7_drop 32 = .ok (.aload_n 0, 1) := by decide +kernel
theorem dX7_drop_33 : decode cX7_drop 33 = .ok (.iconst 1, 1) := by decide +kernel
theorem dX7_drop_34 : decode cX7_drop 34 = .ok (.iload_n 1, 1) := by decide +kernel
theorem dX7_drop_35 : decode cX7_drop 35 = .ok (.iadd, 1) := by decide +kernel
theorem dX7_drop_36 : decode cX7_drop 36 = .ok (.aload_n 0, 1) := by decide +kernel
theorem dX7_drop_37 : decode cX7_drop 37 = .ok (.getfield 7, 3) := by decide +kernel
theorem dX7_drop_40 : decode cX7_drop 40 = .ok (.iconst 1, 1) := by decide +kernel
theorem dX7_drop_41 : decode cX7_drop 41 = .ok (.iload_n 1, 1) := by decide +kernel
theorem dX7_drop_42 : decode cX7_drop 42 = .ok (.iadd, 1) := by decide +kernel
theorem dX7_drop_43 : decode cX7_drop 43 = .ok (.iaload, 1) := by decide +kernel
theorem dX7_drop_44 : decode cX7_drop 44 = .ok (.iconst 1, 1) := by decide +kernel
theorem dX7_drop_45 : decode cX7_drop 45 = .ok (.isub, 1) := by decide +kernel
theorem dX7_drop_46 : decode cX7_drop 46 = .ok (.invokevirtual 79, 3) := by decide +kernel
theorem dX7_drop_49 : decode cX7_drop 49 = .ok (.iconst 1, 1) := by decide +kernel
theorem dX7_drop_50 : decode cX7_drop 50 = .ok (.isub, 1) := by decide +kernel
theorem dX7_drop_51 : decode cX7_drop 51 = .ok (.ireturn, 1) := by decide +kernel
theorem dX7_as_0 : decode cX7_as 0 = .ok (.aload_n 0, 1) := by decide +kernel
theorem dX7_as_1 : decode cX7_as 1 = .ok (.iload_n 1, 1) := by decide +kernel
theorem dX7_as_2 : decode cX7_as 2 = .ok (.iload_n 2, 1) := by decide +kernel
theorem dX7_as_3 : decode cX7_as 3 = .ok (.invokevirtual 89, 3) := by decide +kernel
theorem dX7_as_6 : decode cX7_as 6 = .ok (.ifCond .eq 12, 3) := by decide +kernel
theorem dX7_as_9 : decode cX7_as 9 = .ok (.iload_n 3, 1) := by decide +kernel
theorem dX7_as_10 : decode cX7_as 10 = .ok (.iconst 0, 1) := by decide +kernel
theorem dX7_as_11 : decode cX7_as 11 = .ok (.iconst 3, 1) := by decide +kernel
theorem dX7_as_12 : decode cX7_as 12 = .ok (.invokestatic 60, 3) := by decide +kernel
theorem dX7_as_15 : decode cX7_as 15 = .ok (.ifCond .ne 10, 3) := by decide +kernel
theorem dX7_as_18 : decode cX7_as 18 = .ok (.aload_n 0, 1) := by decide +kernel
theorem dX7_as_19 : decode cX7_as 19 = .ok (.ldc 83, 2) := by decide +kernel
theorem dX7_as_21 : decode cX7_as 21 = .ok (.invokevirtual 72, 3) := by decide +kernel
theorem dX7_as_24 : decode cX7_as 24 = .ok (.ireturn, 1) := by decide +kernel
theorem dX7_as_25 : decode cX7_as 25 = .ok (.aload_n 0, 1) := by decide +kernel
theorem dX7_as_26 : decode cX7_as 26 = .ok (.iload_n 1, 1) := by decide +kernel
theorem dX7_as_27 : decode cX7_as 27 = .ok (.iload_n 2, 1) := by decide +kernel
theorem dX7_as_28 : decode cX7_as 28 = .ok (.iconst 0, 1) := by decide +kernel
theorem dX7_as_29 : decode cX7_as 29 = .ok (.invokevirtual 93, 3) := by decide +kernel
theorem dX7_as_32 : decode cX7_as 32 = .ok (.istore 4, 2) := by decide +kernel
theorem dX7_as_34 : decode cX7_as 34 = .ok (.iload_n 3, 1) := by decide +kernel
theorem dX7_as_35 : decode cX7_as 35 = .ok (.ifCond .eq 20, 3) := by decide +kernel
theorem dX7_as_38 : decode cX7_as 38 = .ok (.iload_n 3, 1) := by decide +kernel
theorem dX7_as_39 : decode cX7_as 39 = .ok (.iload 4, 2) := by decide +kernel
theorem dX7_as_41 : decode cX7_as 41 = .ok (.if_icmp .eq 14, 3) := by decide +kernel
theorem dX7_as_44 : decode cX7_as 44 = .ok (.iload_n 3, 1) := by decide +kernel
theorem dX7_as_45 : decode cX7_as 45 = .ok (.iconst 1, 1) := by decide +kernel
theorem dX7_as_46 : decode cX7_as 46 = .ok (.if_icmp .ne 19, 3) := by decide +kernel
theorem dX7_as_49 : decode cX7_as 49 = .ok (.iload 4, 2) := by decide +kernel
theorem dX7_as_51 : decode cX7_as 51 = .ok (.iconst 3, 1) := by decide +kernel
theorem dX7_as_52 : decode cX7_as 52 = .ok (.if_icmp .ne 13, 3) := by decide +kernel
theorem dX7_as_55 : decode cX7_as 55 = .ok (.aload_n 0, 1) := by decide +kernel
theorem dX7_as_56 : decode cX7_as 56 = .ok (.iload_n 1, 1) := by decide +kernel
theorem dX7_as_57 : decode cX7_as 57 = .ok (.iload_n 2, 1) := by decide +kernel
theorem dX7_as_58 : decode cX7_as 58 = .ok (.iconst 1, 1) := by decide +kernel
theorem dX7_as_59 : decode cX7_as 59 = .ok (.invokevirtual 93, 3) := by decide +kernel
theorem dX7_as_62 : decode cX7_as 62 = .ok (.goto 9, 3) := by decide +kernel
theorem dX7_as_65 : decode cX7_as 65 = .ok (.aload_n 0, 1) := by decide +kernel
theorem dX7_as_66 : decode cX7_as 66 = .ok (.ldc 97, 2) := by decide +kernel
theorem dX7_as_68 : decode cX7_as 68 = .ok (.invokevirtual 72, 3) := by decide +kernel
theorem dX7_as_71 : decode cX7_as 71 = .ok (.ireturn, 1) := by decide +kernel
theorem dX7_of_0 : decode cX7_of 0 = .ok (.aload_n 0, 1) := by decide +kernel
theorem dX7_of_1 : decode cX7_of 1 = .ok (.iload_n 1, 1) := by decide +kernel
theorem dX7_of_2 : decode cX7_of 2 = .ok (.iload_n 2, 1) := by decide +kernel
theorem dX7_of_3 : decode cX7_of 3 = .ok (.invokevirtual 89, 3) := by decide +kernel
theorem dX7_of_6 : decode cX7_of 6 = .ok (.ifCond .eq 22, 3) := by decide +kernel
theorem dX7_of_9 : decode cX7_of 9 = .ok (.iload_n 3, 1) := by decide +kernel
theorem dX7_of_10 : decode cX7_of 10 = .ok (.iconst 0, 1) := by decide +kernel
theorem dX7_of_11 : decode cX7_of 11 = .ok (.iconst 2, 1) := by decide +kernel
theorem dX7_of_12 : decode cX7_of 12 = .ok (.invokestatic 60, 3) := by decide +kernel
theorem dX7_of_15 : decode cX7_of 15 = .ok (.ifCond .eq 13, 3) := by decide +kernel
theorem dX7_of_18 : decode cX7_of 18 = .ok (.aload_n 0, 1) := by decide +kernel
theorem dX7_of_19 : decode cX7_of 19 = .ok (.iload_n 1, 1) := by decide +kernel
theorem dX7_of_20 : decode cX7_of 20 = .ok (.iload_n 2, 1) := by decide +kernel
theorem dX7_of_21 : decode cX7_of 21 = .ok (.iload_n 3, 1) := by decide +kernel
theorem dX7_of_22 : decode cX7_of 22 = .ok (.invokevirtual 93, 3) := by decide +kernel
theorem dX7_of_25 : decode cX7_of 25 = .ok (.goto 9, 3) := by decide +kernel
theorem dX7_of_28 : decode cX7_of 28 = .ok (.aload_n 0, 1) := by decide +kernel
theorem dX7_of_29 : decode cX7_of 29 = .ok (.ldc 83, 2) := by decide +kernel
theorem dX7_of_31 : decode cX7_of 31 = .ok (.invokevirtual 72, 3) := by decide +kernel
theorem dX7_of_34 : decode cX7_of 34 = .ok (.ireturn, 1) := by decide +kernel
theorem dX7_notes_0 : decode cX7_notes 0 = .ok (.iconst 0, 1) := by decide +kernel
theorem dX7_notes_1 : decode cX7_notes 1 = .ok (.istore_n 1, 1) := by decide +kernel
theorem dX7_notes_2 : decode cX7_notes 2 = .ok (.iconst 0, 1) := by decide +kernel
theorem dX7_notes_3 : decode cX7_notes 3 = .ok (.istore_n 2, 1) := by decide +kernel
theorem dX7_notes_4 : decode cX7_notes 4 = .ok (.iload_n 2, 1) := by decide +kernel
theorem dX7_notes_5 : decode cX7_notes 5 = .ok (.bipush 12, 2) := by decide +kernel
theorem dX7_notes_7 : decode cX7_notes 7 = .ok (.if_icmp .ge 20, 3) := by decide +kernel
theorem dX7_notes_10 : decode cX7_notes 10 = .ok (.iload_n 1, 1) := by decide +kernel
theorem dX7_notes_11 : decode cX7_notes 11 = .ok (.aload_n 0, 1) := by decide +kernel
theorem dX7_notes_12 : decode cX7_notes 12 = .ok (.getfield 7, 3) := by decide +kernel
theorem dX7_notes_15 : decode cX7_notes 15 = .ok (.iconst 1, 1) := by decide +kernel
theorem dX7_notes_16 : decode cX7_notes 16 = .ok (.iload_n 2, 1) := by decide +kernel
theorem dX7_notes_17 : decode cX7_notes 17 = .ok (.iadd, 1) := by decide +kernel
theorem dX7_notes_18 : decode cX7_notes 18 = .ok (.iaload, 1) := by decide +kernel
theorem dX7_notes_19 : decode cX7_notes 19 = .ok (.iadd, 1) := by decide +kernel
theorem dX7_notes_20 : decode cX7_notes 20 = .ok (.istore_n 1, 1) := by decide +kernel
theorem dX7_notes_21 : decode cX7_notes 21 = .ok (.iinc 2 1, 3) := by decide +kernel
theorem dX7_notes_24 : decode cX7_notes 24 = .ok (.goto (-20), 3) := by decide +kernel
theorem dX7_notes_27 : decode cX7_notes 27 = .ok (.iload_n 1, 1) := by decide +kernel
theorem dX7_notes_28 : decode cX7_notes 28 = .ok (.ireturn, 1) := by decide +kernel
theorem dX7_shift_0 : decode cX7_shift 0 = .ok (.iload_n 1, 1) := by decide +kernel
theorem dX7_shift_1 : decode cX7_shift 1 = .ok (.bipush (-12), 2) := by decide +kernel
theorem dX7_shift_3 : decode cX7_shift 3 = .ok (.bipush 12, 2) := by decide +kernel
theorem dX7_shift_5 : decode cX7_shift 5 = .ok (.invokestatic 60, 3) := by decide +kernel
theorem dX7_shift_8 : decode cX7_shift 8 = .ok (.ifCond .ne 10, 3) := by decide +kernel
theorem dX7_shift_11 : decode cX7_shift 11 = .ok (.aload_n 0, 1) := by decide +kernel
theorem dX7_shift_12 : decode cX7_shift 12 = .ok (.ldc 83, 2) := by decide +kernel
theorem dX7_shift_14 : decode cX7_shift 14 = .ok (.invokevirtual 72, 3) := by decide +kernel
theorem dX7_shift_17 : decode cX7_shift 17 = .ok (.ireturn, 1) := by decide +kernel
theorem dX7_shift_18 : decode cX7_shift 18 = .ok (.iconst 0, 1) := by decide +kernel
theorem dX7_shift_19 : decode cX7_shift 19 = .ok (.istore_n 2, 1) := by decide +kernel
theorem dX7_shift_20 : decode cX7_shift 20 = .ok (.iload_n 2, 1) := by decide +kernel
theorem dX7_shift_21 : decode cX7_shift 21 = .ok (.bipush 12, 2) := by decide +kernel
theorem dX7_shift_23 : decode cX7_shift 23 = .ok (.if_icmp .ge 54, 3) := by decide +kernel
theorem dX7_shift_26 : decode cX7_shift 26 = .ok (.iconst 0, 1) := by decide +kernel
theorem dX7_shift_27 : decode cX7_shift 27 = .ok (.istore_n 3, 1) := by decide +kernel
theorem dX7_shift_28 : decode cX7_shift 28 = .ok (.iload_n 3, 1) := by decide +kernel
theorem dX7_shift_29 : decode cX7_shift 29 = .ok (.aload_n 0, 1) := by decide +kernel
theorem dX7_shift_30 : decode cX7_shift 30 = .ok (.getfield 7, 3) := by decide +kernel
theorem dX7_shift_33 : decode cX7_shift 33 = .ok (.iconst 1, 1) := by decide +kernel
theorem dX7_shift_34 : decode cX7_shift 34 = .ok (.iload_n 2, 1) := by decide +kernel
theorem dX7_shift_35 : decode cX7_shift 35 = .ok (.iadd, 1) := by decide +kernel
theorem dX7_shift_36 : decode cX7_shift 36 = .ok (.iaload, 1) := by decide +kernel
theorem dX7_shift_37 : decode cX7_shift 37 = .ok (.if_icmp .ge 34, 3) := by decide +kernel
theorem dX7_shift_40 : decode cX7_shift 40 = .ok (.aload_n 0, 1) := by decide +kernel
theorem dX7_shift_41 : decode cX7_shift 41 = .ok (.iload_n 2, 1) := by decide +kernel
theorem dX7_shift_42 : decode cX7_shift 42 = .ok (.iload_n 3, 1) := by decide +kernel
theorem dX7_shift_43 : decode cX7_shift 43 = .ok (.iconst 1, 1) := by decide +kernel
theorem dX7_shift_44 : decode cX7_shift 44 = .ok (.invokevirtual 93, 3) := by decide +kernel
theorem dX7_shift_47 : decode cX7_shift 47 = .ok (.iload_n 1, 1) := by decide +kernel
theorem dX7_shift_48 : decode cX7_shift 48 = .ok (.iadd, 1) := by decide +kernel
theorem dX7_shift_49 : decode cX7_shift 49 = .ok (.iconst (-1), 1) := by decide +kernel
theorem dX7_shift_50 : decode cX7_shift 50 = .ok (.bipush 100, 2) := by decide +kernel
theorem dX7_shift_52 : decode cX7_shift 52 = .ok (.invokestatic 60, 3) := by decide +kernel
theorem dX7_shift_55 : decode cX7_shift 55 = .ok (.ifCond .ne 10, 3) := by decide +kernel
theorem dX7_shift_58 : decode cX7_shift 58 = .ok (.aload_n 0, 1) := by decide +kernel
theorem dX7_shift_59 : decode cX7_shift 59 = .ok (.ldc 98, 2) := by decide +kernel
theorem dX7_shift_61 : decode cX7_shift 61 = .ok (.invokevirtual 72, 3) := by decide +kernel
theorem dX7_shift_64 : decode cX7_shift 64 = .ok (.ireturn, 1) := by decide +kernel
theorem dX7_shift_65 : decode cX7_shift 65 = .ok (.iinc 3 1, 3) := by decide +kernel
theorem dX7_shift_68 : decode cX7_shift 68 = .ok (.goto (-40), 3) := by decide +kernel
theorem dX7_shift_71 : decode cX7_shift 71 = .ok (.iinc 2 1, 3) := by decide +kernel
theorem dX7_shift_74 : decode cX7_shift 74 = .ok (.goto (-54), 3) := by decide +kernel
theorem dX7_shift_77 : decode cX7_shift 77 = .ok (.aload_n 0, 1) := by decide +kernel
theorem dX7_shift_78 : decode cX7_shift 78 = .ok (.invokevirtual 76, 3) := by decide +kernel
theorem dX7_shift_81 : decode cX7_shift 81 = .ok (.iconst 0, 1) := by decide +kernel
theorem dX7_shift_82 : decode cX7_shift 82 = .ok (.istore_n 2, 1) := by decide +kernel
theorem dX7_shift_83 : decode cX7_shift 83 = .ok (.iload_n 2, 1) := by decide +kernel
theorem dX7_shift_84 : decode cX7_shift 84 = .ok (.bipush 12, 2) := by decide +kernel
theorem dX7_shift_86 : decode cX7_shift 86 = .ok (.if_icmp .ge 51, 3) := by decide +kernel
theorem dX7_shift_89 : decode cX7_shift 89 = .ok (.iconst 0, 1) := by decide +kernel
theorem dX7_shift_90 : decode cX7_shift 90 = .ok (.istore_n 3, 1) := by decide +kernel
theorem dX7_shift_91 : decode cX7_shift 91 = .ok (.iload_n 3, 1) := by decide +kernel
theorem dX7_shift_92 : decode cX7_shift 92 = .ok (.aload_n 0, 1) := by decide +kernel
theorem dX7_shift_93 : decode cX7_shift 93 = .ok (.getfield 7, 3) := by decide +kernel
theorem dX7_shift_96 : decode cX7_shift 96 = .ok (.iconst 1, 1) := by decide +kernel
theorem dX7_shift_97 : decode cX7_shift 97 = .ok (.iload_n 2, 1) := by decide +kernel
theorem dX7_shift_98 : decode cX7_shift 98 = .ok (.iadd, 1) := by decide +kernel
theorem dX7_shift_99 : decode cX7_shift 99 = .ok (.iaload, 1) := by decide +kernel
theorem dX7_shift_100 : decode cX7_shift 100 = .ok (.if_icmp .ge 31, 3) := by decide +kernel
theorem dX7_shift_103 : decode cX7_shift 103 = .ok (.aload_n 0, 1) := by decide +kernel
theorem dX7_shift_104 : decode cX7_shift 104 = .ok (.getfield 7, 3) := by decide +kernel
theorem dX7_shift_107 : decode cX7_shift 107 = .ok (.bipush 13, 2) := by decide +kernel
theorem dX7_shift_109 : decode cX7_shift 109 = .ok (.iconst 3, 1) := by decide +kernel
theorem dX7_shift_110 : decode cX7_shift 110 = .ok (.bipush 6, 2) := by decide +kernel
theorem dX7_shift_112 : decode cX7_shift 112 = .ok (.iload_n 2, 1) := by decide +kernel
theorem dX7_shift_113 : decode cX7_shift 113 = .ok (.imul, 1) := by decide +kernel
theorem dX7_shift_114 : decode cX7_shift 114 = .ok (.iload_n 3, 1) := by decide +kernel
theorem dX7_shift_115 : decode cX7_shift 115 = .ok (.iadd, 1) := by decide +kernel
theorem dX7_shift_116 : decode cX7_shift 116 = .ok (.imul, 1) := by decide +kernel
theorem dX7_shift_117 : decode cX7_shift 117 = .ok (.iadd, 1) := by decide +kernel
theorem dX7_shift_118 : decode cX7_shift 118 = .ok (.iconst 1, 1) := by decide +kernel
theorem dX7_shift_119 : decode cX7_shift 119 = .ok (.iadd, 1) := by decide +kernel
theorem dX7_shift_120 : decode cX7_shift 120 = .ok (.dup2, 1) := by decide +kernel
theorem dX7_shift_121 : decode cX7_shift 121 = .ok (.iaload, 1) := by decide +kernel
theorem dX7_shift_122 : decode cX7_shift 122 = .ok (.iload_n 1, 1) := by decide +kernel
theorem dX7_shift_123 : decode cX7_shift 123 = .ok (.iadd, 1) := by decide +kernel
theorem dX7_shift_124 : decode cX7_shift 124 = .ok (.iastore, 1) := by decide +kernel
theorem dX7_shift_125 : decode cX7_shift 125 = .ok (.iinc 3 1, 3) := by decide +kernel
theorem dX7_shift_128 : decode cX7_shift 128 = .ok (.goto (-37), 3) := by decide +kernel
theorem dX7_shift_131 : decode cX7_shift 131 = .ok (.iinc 2 1, 3) := by decide +kernel
theorem dX7_shift_134 : decode cX7_shift 134 = .ok (.goto (-51), 3) := by decide +kernel
theorem dX7_shift_137 : decode cX7_shift 137 = .ok (.aload_n 0, 1) := by decide +kernel
theorem dX7_shift_138 : decode cX7_shift 138 = .ok (.invokevirtual 99, 3) := by decide +kernel
theorem dX7_shift_141 : decode cX7_shift 141 = .ok (.ireturn, 1) := by decide +kernel
theorem dX7_mark_0 : decode cX7_mark 0 = .ok (.iload_n 1, 1) := by decide +kernel
theorem dX7_mark_1 : decode cX7_mark 1 = .ok (.invokestatic 64, 3) := by decide +kernel
theorem dX7_mark_4 : decode cX7_mark 4 = .ok (.ifCond .eq 37, 3) := by decide +kernel
theorem dX7_mark_7 : decode cX7_mark 7 = .ok (.iload_n 2, 1) := by decide +kernel
theorem dX7_mark_8 : decode cX7_mark 8 = .ok (.invokestatic 103, 3) := by decide +kernel
theorem dX7_mark_11 : decode cX7_mark 11 = .ok (.ifCond .eq 30, 3) := by decide +kernel
theorem dX7_mark_14 : decode cX7_mark 14 = .ok (.iload_n 3, 1) := by decide +kernel
theorem dX7_mark_15 : decode cX7_mark 15 = .ok (.iconst (-1), 1) := by decide +kernel
theorem dX7_mark_16 : decode cX7_mark 16 = .ok (.iconst 2, 1) := by decide +kernel
theorem dX7_mark_17 : decode cX7_mark 17 = .ok (.invokestatic 60, 3) := by decide +kernel
theorem dX7_mark_20 : decode cX7_mark 20 = .ok (.ifCond .eq 21, 3) := by decide +kernel
theorem dX7_mark_23 : decode cX7_mark 23 = .ok (.aload_n 0, 1) := by decide +kernel
theorem dX7_mark_24 : decode cX7_mark 24 = .ok (.sipush 229, 3) := by decide +kernel
theorem dX7_mark_27 : decode cX7_mark 27 = .ok (.bipush 7, 2) := by decide +kernel
theorem dX7_mark_29 : decode cX7_mark 29 = .ok (.iload_n 1, 1) := by decide +kernel
theorem dX7_mark_30 : decode cX7_mark 30 = .ok (.imul, 1) := by decide +kernel
theorem dX7_mark_31 : decode cX7_mark 31 = .ok (.iadd, 1) := by decide +kernel
theorem dX7_mark_32 : decode cX7_mark 32 = .ok (.iload_n 2, 1) := by decide +kernel
theorem dX7_mark_33 : decode cX7_mark 33 = .ok (.iadd, 1) := by decide +kernel
theorem dX7_mark_34 : decode cX7_mark 34 = .ok (.iload_n 3, 1) := by decide +kernel
theorem dX7_mark_35 : decode cX7_mark 35 = .ok (.invokevirtual 79, 3) := by decide +kernel
theorem dX7_mark_38 : decode cX7_mark 38 = .ok (.goto 9, 3) := by decide +kernel
theorem dX7_mark_41 : decode cX7_mark 41 = .ok (.aload_n 0, 1) := by decide +kernel
theorem dX7_mark_42 : decode cX7_mark 42 = .ok (.ldc 83, 2) := by decide +kernel
theorem dX7_mark_44 : decode cX7_mark 44 = .ok (.invokevirtual 72, 3) := by decide +kernel
theorem dX7_mark_47 : decode cX7_mark 47 = .ok (.ireturn, 1) := by decide +kernel
theorem dX7_start_0 : decode cX7_start 0 = .ok (.iload_n 1, 1) := by decide +kernel
theorem dX7_start_1 : decode cX7_start 1 = .ok (.invokestatic 103, 3) := by decide +kernel
theorem dX7_start_4 : decode cX7_start 4 = .ok (.ifCond .eq 25, 3) := by decide +kernel
theorem dX7_start_7 : decode cX7_start 7 = .ok (.iload_n 2, 1) := by decide +kernel
theorem dX7_start_8 : decode cX7_start 8 = .ok (.iconst (-1), 1) := by decide +kernel
theorem dX7_start_9 : decode cX7_start 9 = .ok (.iconst 2, 1) := by decide +kernel
theorem dX7_start_10 : decode cX7_start 10 = .ok (.invokestatic 60, 3) := by decide +kernel
theorem dX7_start_13 : decode cX7_start 13 = .ok (.ifCond .eq 16, 3) := by decide +kernel
theorem dX7_start_16 : decode cX7_start 16 = .ok (.aload_n 0, 1) := by decide +kernel
theorem dX7_start_17 : decode cX7_start 17 = .ok (.sipush 313, 3) := by decide +kernel
theorem dX7_start_20 : decode cX7_start 20 = .ok (.iload_n 1, 1) := by decide +kernel
theorem dX7_start_21 : decode cX7_start 21 = .ok (.iadd, 1) := by decide +kernel
theorem dX7_start_22 : decode cX7_start 22 = .ok (.iload_n 2, 1) := by decide +kernel
theorem dX7_start_23 : decode cX7_start 23 = .ok (.invokevirtual 79, 3) := by decide +kernel
theorem dX7_start_26 : decode cX7_start 26 = .ok (.goto 9, 3) := by decide +kernel
theorem dX7_start_29 : decode cX7_start 29 = .ok (.aload_n 0, 1) := by decide +kernel
theorem dX7_start_30 : decode cX7_start 30 = .ok (.ldc 83, 2) := by decide +kernel
theorem dX7_start_32 : decode cX7_start 32 = .ok (.invokevirtual 72, 3) := by decide +kernel
theorem dX7_start_35 : decode cX7_start 35 = .ok (.ireturn, 1) := by decide +kernel
theorem dX7_standOf_0 : decode cX7_standOf 0 = .ok (.iload_n 0, 1) := by decide +kernel
theorem dX7_standOf_1 : decode cX7_standOf 1 = .ok (.getstatic 106, 3) := by decide +kernel
theorem dX7_standOf_4 : decode cX7_standOf 4 = .ok (.iload_n 1, 1) := by decide +kernel
theorem dX7_standOf_5 : decode cX7_standOf 5 = .ok (.iaload, 1) := by decide +kernel
theorem dX7_standOf_6 : decode cX7_standOf 6 = .ok (.idiv, 1) := by decide +kernel
theorem dX7_standOf_7 : decode cX7_standOf 7 = .ok (.iconst 3, 1) := by decide +kernel
theorem dX7_standOf_8 : decode cX7_standOf 8 = .ok (.irem, 1) := by decide +kernel
theorem dX7_standOf_9 : decode cX7_standOf 9 = .ok (.ireturn, 1) := by decide +kernel
theorem dX7_pitchOf_0 : decode cX7_pitchOf 0 = .ok (.bipush 12, 2) := by decide +kernel
theorem dX7_pitchOf_2 : decode cX7_pitchOf 2 = .ok (.iload_n 0, 1) := by decide +kernel
theorem dX7_pitchOf_3 : decode cX7_pitchOf 3 = .ok (.bipush 7, 2) := by decide +kernel
theorem dX7_pitchOf_5 : decode cX7_pitchOf 5 = .ok (.idiv, 1) := by decide +kernel
theorem dX7_pitchOf_6 : decode cX7_pitchOf 6 = .ok (.imul, 1) := by decide +kernel
theorem dX7_pitchOf_7 : decode cX7_pitchOf 7 = .ok (.getstatic 109, 3) := by decide +kernel
theorem dX7_pitchOf_10 : decode cX7_pitchOf 10 = .ok (.iload_n 0, 1) := by decide +kernel
theorem dX7_pitchOf_11 : decode cX7_pitchOf 11 = .ok (.bipush 7, 2) := by decide +kernel
theorem dX7_pitchOf_13 : decode cX7_pitchOf 13 = .ok (.irem, 1) := by decide +kernel
theorem dX7_pitchOf_14 : decode cX7_pitchOf 14 = .ok (.iaload, 1) := by decide +kernel
theorem dX7_pitchOf_15 : decode cX7_pitchOf 15 = .ok (.iadd, 1) := by decide +kernel
theorem dX7_pitchOf_16 : decode cX7_pitchOf 16 = .ok (.iload_n 1, 1) := by decide +kernel
theorem dX7_pitchOf_17 : decode cX7_pitchOf 17 = .ok (.iload_n 0, 1) := by decide +kernel
theorem dX7_pitchOf_18 : decode cX7_pitchOf 18 = .ok (.bipush 7, 2) := by decide +kernel
theorem dX7_pitchOf_20 : decode cX7_pitchOf 20 = .ok (.irem, 1) := by decide +kernel
theorem dX7_pitchOf_21 : decode cX7_pitchOf 21 = .ok (.invokestatic 112, 3) := by decide +kernel
theorem dX7_pitchOf_24 : decode cX7_pitchOf 24 = .ok (.iadd, 1) := by decide +kernel
theorem dX7_pitchOf_25 : decode cX7_pitchOf 25 = .ok (.iconst 1, 1) := by decide +kernel
theorem dX7_pitchOf_26 : decode cX7_pitchOf 26 = .ok (.isub, 1) := by decide +kernel
theorem dX7_pitchOf_27 : decode cX7_pitchOf 27 = .ok (.ireturn, 1) := by decide +kernel
theorem dX7_pitch_0 : decode cX7_pitch 0 = .ok (.iload_n 1, 1) := by decide +kernel
theorem dX7_pitch_1 : decode cX7_pitch 1 = .ok (.iconst 0, 1) := by decide +kernel
theorem dX7_pitch_2 : decode cX7_pitch 2 = .ok (.bipush 41, 2) := by decide +kernel
theorem dX7_pitch_4 : decode cX7_pitch 4 = .ok (.invokestatic 60, 3) := by decide +kernel
theorem dX7_pitch_7 : decode cX7_pitch 7 = .ok (.ifCond .eq 18, 3) := by decide +kernel
theorem dX7_pitch_10 : decode cX7_pitch 10 = .ok (.iload_n 2, 1) := by decide +kernel
theorem dX7_pitch_11 : decode cX7_pitch 11 = .ok (.invokestatic 115, 3) := by decide +kernel
theorem dX7_pitch_14 : decode cX7_pitch 14 = .ok (.ifCond .eq 11, 3) := by decide +kernel
theorem dX7_pitch_17 : decode cX7_pitch 17 = .ok (.iload_n 1, 1) := by decide +kernel
theorem dX7_pitch_18 : decode cX7_pitch 18 = .ok (.iload_n 2, 1) := by decide +kernel
theorem dX7_pitch_19 : decode cX7_pitch 19 = .ok (.invokestatic 118, 3) := by decide +kernel
theorem dX7_pitch_22 : decode cX7_pitch 22 = .ok (.goto 9, 3) := by decide +kernel
theorem dX7_pitch_25 : decode cX7_pitch 25 = .ok (.aload_n 0, 1) := by decide +kernel
theorem dX7_pitch_26 : decode cX7_pitch 26 = .ok (.ldc 83, 2) := by decide +kernel
theorem dX7_pitch_28 : decode cX7_pitch 28 = .ok (.invokevirtual 72, 3) := by decide +kernel
theorem dX7_pitch_31 : decode cX7_pitch 31 = .ok (.ireturn, 1) := by decide +kernel
theorem dX7_stringOf_0 : decode cX7_stringOf 0 = .ok (.aload_n 0, 1) := by decide +kernel
theorem dX7_stringOf_1 : decode cX7_stringOf 1 = .ok (.iload_n 1, 1) := by decide +kernel
theorem dX7_stringOf_2 : decode cX7_stringOf 2 = .ok (.iload_n 2, 1) := by decide +kernel
theorem dX7_stringOf_3 : decode cX7_stringOf 3 = .ok (.iconst 0, 1) := by decide +kernel
theorem dX7_stringOf_4 : decode cX7_stringOf 4 = .ok (.invokevirtual 93, 3) := by decide +kernel
theorem dX7_stringOf_7 : decode cX7_stringOf 7 = .ok (.istore 4, 2) := by decide +kernel
theorem dX7_stringOf_9 : decode cX7_stringOf 9 = .ok (.aload_n 0, 1) := by decide +kernel
theorem dX7_stringOf_10 : decode cX7_stringOf 10 = .ok (.iload_n 1, 1) := by decide +kernel
theorem dX7_stringOf_11 : decode cX7_stringOf 11 = .ok (.iload_n 2, 1) := by decide +kernel
theorem dX7_stringOf_12 : decode cX7_stringOf 12 = .ok (.iconst 1, 1) := by decide +kernel
theorem dX7_stringOf_13 : decode cX7_stringOf 13 = .ok (.invokevirtual 93, 3) := by decide +kernel
theorem dX7_stringOf_16 : decode cX7_stringOf 16 = .ok (.iload 4, 2) := by decide +kernel
theorem dX7_stringOf_18 : decode cX7_stringOf 18 = .ok (.iconst 1, 1) := by decide +kernel
theorem dX7_stringOf_19 : decode cX7_stringOf 19 = .ok (.if_icmp .ne 8, 3) := by decide +kernel
theorem dX7_stringOf_22 : decode cX7_stringOf 22 = .ok (.bipush 12, 2) := by decide +kernel
theorem dX7_stringOf_24 : decode cX7_stringOf 24 = .ok (.goto 15, 3) := by decide +kernel
theorem dX7_stringOf_27 : decode cX7_stringOf 27 = .ok (.iload 4, 2) := by decide +kernel
theorem dX7_stringOf_29 : decode cX7_stringOf 29 = .ok (.iconst 3, 1) := by decide +kernel
theorem dX7_stringOf_30 : decode cX7_stringOf 30 = .ok (.if_icmp .ne 8, 3) := by decide +kernel
theorem dX7_stringOf_33 : decode cX7_stringOf 33 = .ok (.bipush 19, 2) := by decide +kernel
theorem dX7_stringOf_35 : decode cX7_stringOf 35 = .ok (.goto 4, 3) := by decide +kernel
theorem dX7_stringOf_38 : decode cX7_stringOf 38 = .ok (.iconst 0, 1) := by decide +kernel
theorem dX7_stringOf_39 : decode cX7_stringOf 39 = .ok (.isub, 1) := by decide +kernel
theorem dX7_stringOf_40 : decode cX7_stringOf 40 = .ok (.istore 5, 2) := by decide +kernel
theorem dX7_stringOf_42 : decode cX7_stringOf 42 = .ok (.iconst (-1), 1) := by decide +kernel
theorem dX7_stringOf_43 : decode cX7_stringOf 43 = .ok (.istore 6, 2) := by decide +kernel
theorem dX7_stringOf_45 : decode cX7_stringOf 45 = .ok (.iconst 0, 1) := by decide +kernel
theorem dX7_stringOf_46 : decode cX7_stringOf 46 = .ok (.istore 7, 2) := by decide +kernel
theorem dX7_stringOf_48 : decode cX7_stringOf 48 = .ok (.iload 7, 2) := by decide +kernel
theorem dX7_stringOf_50 : decode cX7_stringOf 50 = .ok (.bipush 7, 2) := by decide +kernel
theorem dX7_stringOf_52 : decode cX7_stringOf 52 = .ok (.if_icmp .ge 77, 3) := by decide +kernel
theorem dX7_stringOf_55 : decode cX7_stringOf 55 = .ok (.iload 5, 2) := by decide +kernel
theorem dX7_stringOf_57 : decode cX7_stringOf 57 = .ok (.iload 7, 2) := by decide +kernel
theorem dX7_stringOf_59 : decode cX7_stringOf 59 = .ok (.iload_n 3, 1) := by decide +kernel
theorem dX7_stringOf_60 : decode cX7_stringOf 60 = .ok (.invokestatic 118, 3) := by decide +kernel
theorem dX7_stringOf_63 : decode cX7_stringOf 63 = .ok (.isub, 1) := by decide +kernel
theorem dX7_stringOf_64 : decode cX7_stringOf 64 = .ok (.istore 8, 2) := by decide +kernel
theorem dX7_stringOf_66 : decode cX7_stringOf 66 = .ok (.iload 8, 2) := by decide +kernel
theorem dX7_stringOf_68 : decode cX7_stringOf 68 = .ok (.ifCond .lt 55, 3) := by decide +kernel
theorem dX7_stringOf_71 : decode cX7_stringOf 71 = .ok (.iload 8, 2) := by decide +kernel
theorem dX7_stringOf_73 : decode cX7_stringOf 73 = .ok (.bipush 12, 2) := by decide +kernel
theorem dX7_stringOf_75 : decode cX7_stringOf 75 = .ok (.irem, 1) := by decide +kernel
theorem dX7_stringOf_76 : decode cX7_stringOf 76 = .ok (.ifCond .ne 47, 3) := by decide +kernel
theorem dX7_stringOf_79 : decode cX7_stringOf 79 = .ok (.iload 8, 2) := by decide +kernel
theorem dX7_stringOf_81 : decode cX7_stringOf 81 = .ok (.bipush 12, 2) := by decide +kernel
theorem dX7_stringOf_83 : decode cX7_stringOf 83 = .ok (.idiv, 1) := by decide +kernel
theorem dX7_stringOf_84 : decode cX7_stringOf 84 = .ok (.bipush 6, 2) := by decide +kernel
theorem dX7_stringOf_86 : decode cX7_stringOf 86 = .ok (.if_icmp .ge 37, 3) := by decide +kernel
theorem dX7_stringOf_89 : decode cX7_stringOf 89 = .ok (.bipush 7, 2) := by decide +kernel
theorem dX7_stringOf_91 : decode cX7_stringOf 91 = .ok (.iload 8, 2) := by decide +kernel
theorem dX7_stringOf_93 : decode cX7_stringOf 93 = .ok (.bipush 12, 2) := by decide +kernel
theorem dX7_stringOf_95 : decode cX7_stringOf 95 = .ok (.idiv, 1) := by decide +kernel
theorem dX7_stringOf_96 : decode cX7_stringOf 96 = .ok (.imul, 1) := by decide +kernel
theorem dX7_stringOf_97 : decode cX7_stringOf 97 = .ok (.iload 7, 2) := by decide +kernel
theorem dX7_stringOf_99 : decode cX7_stringOf 99 = .ok (.iadd, 1) := by decide +kernel
theorem dX7_stringOf_100 : decode cX7_stringOf 100 = .ok (.istore 9, 2) := by decide +kernel
theorem dX7_stringOf_102 : decode cX7_stringOf 102 = .ok (.iload 6, 2) := by decide +kernel
theorem dX7_stringOf_104 : decode cX7_stringOf 104 = .ok (.ifCond .lt 10, 3) := by decide +kernel
theorem dX7_stringOf_107 : decode cX7_stringOf 107 = .ok (.iload 9, 2) := by decide +kernel
theorem dX7_stringOf_109 : decode cX7_stringOf 109 = .ok (.iload 6, 2) := by decide +kernel
theorem dX7_stringOf_111 : decode cX7_stringOf 111 = .ok (.if_icmp .ge 8, 3) := by decide +kernel
theorem dX7_stringOf_114 : decode cX7_stringOf 114 = .ok (.iload 9, 2) := by decide +kernel
theorem dX7_stringOf_116 : decode cX7_stringOf 116 = .ok (.goto 5, 3) := by decide +kernel
theorem dX7_stringOf_119 : decode cX7_stringOf 119 = .ok (.iload 6, 2) := by decide +kernel
theorem dX7_stringOf_121 : decode cX7_stringOf 121 = .ok (.istore 6, 2) := by decide +kernel
theorem dX7_stringOf_123 : decode cX7_stringOf 123 = .ok (.iinc 7 1, 3) := by decide +kernel
theorem dX7_stringOf_126 : decode cX7_stringOf 126 = .ok (.goto (-78), 3) := by decide +kernel
theorem dX7_stringOf_129 : decode cX7_stringOf 129 = .ok (.iload 6, 2) := by decide +kernel
theorem dX7_stringOf_131 : decode cX7_stringOf 131 = .ok (.ireturn, 1) := by decide +kernel
theorem dX7_string_0 : decode cX7_string 0 = .ok (.aload_n 0, 1) := by decide +kernel
theorem dX7_string_1 : decode cX7_string 1 = .ok (.iload_n 1, 1) := by decide +kernel
theorem dX7_string_2 : decode cX7_string 2 = .ok (.iload_n 2, 1) := by decide +kernel
theorem dX7_string_3 : decode cX7_string 3 = .ok (.invokevirtual 89, 3) := by decide +kernel
theorem dX7_string_6 : decode cX7_string 6 = .ok (.ifCond .eq 10, 3) := by decide +kernel
theorem dX7_string_9 : decode cX7_string 9 = .ok (.iload_n 3, 1) := by decide +kernel
theorem dX7_string_10 : decode cX7_string 10 = .ok (.invokestatic 115, 3) := by decide +kernel
theorem dX7_string_13 : decode cX7_string 13 = .ok (.ifCond .ne 10, 3) := by decide +kernel
theorem dX7_string_16 : decode cX7_string 16 = .ok (.aload_n 0, 1) := by decide +kernel
theorem dX7_string_17 : decode cX7_string 17 = .ok (.ldc 83, 2) := by decide +kernel
theorem dX7_string_19 : decode cX7_string 19 = .ok (.invokevirtual 72, 3) := by decide +kernel
theorem dX7_string_22 : decode cX7_string 22 = .ok (.ireturn, 1) := by decide +kernel
theorem dX7_string_23 : decode cX7_string 23 = .ok (.aload_n 0, 1) := by decide +kernel
theorem dX7_string_24 : decode cX7_string 24 = .ok (.iload_n 1, 1) := by decide +kernel
theorem dX7_string_25 : decode cX7_string 25 = .ok (.iload_n 2, 1) := by decide +kernel
theorem dX7_string_26 : decode cX7_string 26 = .ok (.iload_n 3, 1) := by decide +kernel
theorem dX7_string_27 : decode cX7_string 27 = .ok (.invokevirtual 121, 3) := by decide +kernel
theorem dX7_string_30 : decode cX7_string 30 = .ok (.istore 4, 2) := by decide +kernel
theorem dX7_string_32 : decode cX7_string 32 = .ok (.iload 4, 2) := by decide +kernel
theorem dX7_string_34 : decode cX7_string 34 = .ok (.ifCond .ge 12, 3) := by decide +kernel
theorem dX7_string_37 : decode cX7_string 37 = .ok (.aload_n 0, 1) := by decide +kernel
theorem dX7_string_38 : decode cX7_string 38 = .ok (.ldc 71, 2) := by decide +kernel
theorem dX7_string_40 : decode cX7_string 40 = .ok (.invokevirtual 72, 3) := by decide +kernel
theorem dX7_string_43 : decode cX7_string 43 = .ok (.goto 5, 3) := by decide +kernel
theorem dX7_string_46 : decode cX7_string 46 = .ok (.iload 4, 2) := by decide +kernel
theorem dX7_string_48 : decode cX7_string 48 = .ok (.ireturn, 1) := by decide +kernel
theorem dX7_doesFor_0 : decode cX7_doesFor 0 = .ok (.iconst 0, 1) := by decide +kernel
theorem dX7_doesFor_1 : decode cX7_doesFor 1 = .ok (.istore_n 3, 1) := by decide +kernel
theorem dX7_doesFor_2 : decode cX7_doesFor 2 = .ok (.iload_n 3, 1) := by decide +kernel
theorem dX7_doesFor_3 : decode cX7_doesFor 3 = .ok (.bipush 7, 2) := by decide +kernel
theorem dX7_doesFor_5 : decode cX7_doesFor 5 = .ok (.if_icmp .ge 43, 3) := by decide +kernel
theorem dX7_doesFor_8 : decode cX7_doesFor 8 = .ok (.aload_n 0, 1) := by decide +kernel
theorem dX7_doesFor_9 : decode cX7_doesFor 9 = .ok (.getfield 7, 3) := by decide +kernel
theorem dX7_doesFor_12 : decode cX7_doesFor 12 = .ok (.sipush 229, 3) := by decide +kernel
theorem dX7_doesFor_15 : decode cX7_doesFor 15 = .ok (.bipush 7, 2) := by decide +kernel
theorem dX7_doesFor_17 : decode cX7_doesFor 17 = .ok (.iload_n 1, 1) := by decide +kernel
theorem dX7_doesFor_18 : decode cX7_doesFor 18 = .ok (.imul, 1) := by decide +kernel
theorem dX7_doesFor_19 : decode cX7_doesFor 19 = .ok (.iadd, 1) := by decide +kernel
theorem dX7_doesFor_20 : decode cX7_doesFor 20 = .ok (.iload_n 3, 1) := by decide +kernel
theorem dX7_doesFor_21 : decode cX7_doesFor 21 = .ok (.iadd, 1) := by decide +kernel
theorem dX7_doesFor_22 : decode cX7_doesFor 22 = .ok (.iaload, 1) := by decide +kernel
theorem dX7_doesFor_23 : decode cX7_doesFor 23 = .ok (.istore 4, 2) := by decide +kernel
theorem dX7_doesFor_25 : decode cX7_doesFor 25 = .ok (.iload 4, 2) := by decide +kernel
theorem dX7_doesFor_27 : decode cX7_doesFor 27 = .ok (.ifCond .lt 15, 3) := by decide +kernel
theorem dX7_doesFor_30 : decode cX7_doesFor 30 = .ok (.iload 4, 2) := by decide +kernel
theorem dX7_doesFor_32 : decode cX7_doesFor 32 = .ok (.iload_n 2, 1) := by decide +kernel
theorem dX7_doesFor_33 : decode cX7_doesFor 33 = .ok (.iload_n 3, 1) := by decide +kernel
theorem dX7_doesFor_34 : decode cX7_doesFor 34 = .ok (.invokestatic 112, 3) := by decide +kernel
theorem dX7_doesFor_37 : decode cX7_doesFor 37 = .ok (.if_icmp .eq 5, 3) := by decide +kernel
theorem dX7_doesFor_40 : decode cX7_doesFor 40 = .ok (.iconst 0, 1) := by decide +kernel
theorem dX7_doesFor_41 : decode cX7_doesFor 41 = .ok (.ireturn, 1) := by decide +kernel
theorem dX7_doesFor_42 : decode cX7_doesFor 42 = .ok (.iinc 3 1, 3) := by decide +kernel
theorem dX7_doesFor_45 : decode cX7_doesFor 45 = .ok (.goto (-43), 3) := by decide +kernel
theorem dX7_doesFor_48 : decode cX7_doesFor 48 = .ok (.lconst 0, 1) := by decide +kernel
theorem dX7_doesFor_49 : decode cX7_doesFor 49 = .ok (.lstore_n 3, 1) := by decide +kernel
theorem dX7_doesFor_50 : decode cX7_doesFor 50 = .ok (.iconst 0, 1) := by decide +kernel
theorem dX7_doesFor_51 : decode cX7_doesFor 51 = .ok (.istore 5, 2) := by decide +kernel
theorem dX7_doesFor_53 : decode cX7_doesFor 53 = .ok (.iload 5, 2) := by decide +kernel
theorem dX7_doesFor_55 : decode cX7_doesFor 55 = .ok (.aload_n 0, 1) := by decide +kernel
theorem dX7_doesFor_56 : decode cX7_doesFor 56 = .ok (.getfield 7, 3) := by decide +kernel
theorem dX7_doesFor_59 : decode cX7_doesFor 59 = .ok (.iconst 1, 1) := by decide +kernel
theorem dX7_doesFor_60 : decode cX7_doesFor 60 = .ok (.iload_n 1, 1) := by decide +kernel
theorem dX7_doesFor_61 : decode cX7_doesFor 61 = .ok (.iadd, 1) := by decide +kernel
theorem dX7_doesFor_62 : decode cX7_doesFor 62 = .ok (.iaload, 1) := by decide +kernel
theorem dX7_doesFor_63 : decode cX7_doesFor 63 = .ok (.if_icmp .ge 44, 3) := by decide +kernel
theorem dX7_doesFor_66 : decode cX7_doesFor 66 = .ok (.aload_n 0, 1) := by decide +kernel
theorem dX7_doesFor_67 : decode cX7_doesFor 67 = .ok (.iload_n 1, 1) := by decide +kernel
theorem dX7_doesFor_68 : decode cX7_doesFor 68 = .ok (.iload 5, 2) := by decide +kernel
theorem dX7_doesFor_70 : decode cX7_doesFor 70 = .ok (.iload_n 2, 1) := by decide +kernel
theorem dX7_doesFor_71 : decode cX7_doesFor 71 = .ok (.invokevirtual 121, 3) := by decide +kernel
theorem dX7_doesFor_74 : decode cX7_doesFor 74 = .ok (.istore 6, 2) := by decide +kernel
theorem dX7_doesFor_76 : decode cX7_doesFor 76 = .ok (.iload 6, 2) := by decide +kernel
theorem dX7_doesFor_78 : decode cX7_doesFor 78 = .ok (.ifCond .lt 14, 3) := by decide +kernel
theorem dX7_doesFor_81 : decode cX7_doesFor 81 = .ok (.lload_n 3, 1) := by decide +kernel
theorem dX7_doesFor_82 : decode cX7_doesFor 82 = .ok (.iload 6, 2) := by decide +kernel
theorem dX7_doesFor_84 : decode cX7_doesFor 84 = .ok (.lshr, 1) := by decide +kernel
theorem dX7_doesFor_85 : decode cX7_doesFor 85 = .ok (.lconst 1, 1) := by decide +kernel
theorem dX7_doesFor_86 : decode cX7_doesFor 86 = .ok (.land, 1) := by decide +kernel
theorem dX7_doesFor_87 : decode cX7_doesFor 87 = .ok (.lconst 1, 1) := by decide +kernel
theorem dX7_doesFor_88 : decode cX7_doesFor 88 = .ok (.lcmp, 1) := by decide +kernel
theorem dX7_doesFor_89 : decode cX7_doesFor 89 = .ok (.ifCond .ne 5, 3) := by decide +kernel
theorem dX7_doesFor_92 : decode cX7_doesFor 92 = .ok (.iconst 0, 1) := by decide +kernel
theorem dX7_doesFor_93 : decode cX7_doesFor 93 = .ok (.ireturn, 1) := by decide +kernel
theorem dX7_doesFor_94 : decode cX7_doesFor 94 = .ok (.lload_n 3, 1) := by decide +kernel
theorem dX7_doesFor_95 : decode cX7_doesFor 95 = .ok (.lconst 1, 1) := by decide +kernel
theorem dX7_doesFor_96 : decode cX7_doesFor 96 = .ok (.iload 6, 2) := by decide +kernel
theorem dX7_doesFor_98 : decode cX7_doesFor 98 = .ok (.lshl, 1) := by decide +kernel
theorem dX7_doesFor_99 : decode cX7_doesFor 99 = .ok (.lor, 1) := by decide +kernel
theorem dX7_doesFor_100 : decode cX7_doesFor 100 = .ok (.lstore_n 3, 1) := by decide +kernel
theorem dX7_doesFor_101 : decode cX7_doesFor 101 = .ok (.iinc 5 1, 3) := by decide +kernel
theorem dX7_doesFor_104 : decode cX7_doesFor 104 = .ok (.goto (-51), 3) := by decide +kernel
theorem dX7_doesFor_107 : decode cX7_doesFor 107 = .ok (.iconst 1, 1) := by decide +kernel
theorem dX7_doesFor_108 : decode cX7_doesFor 108 = .ok (.ireturn, 1) := by decide +kernel
theorem dX7_does_0 : decode cX7_does 0 = .ok (.iload_n 1, 1) := by decide +kernel
theorem dX7_does_1 : decode cX7_does 1 = .ok (.invokestatic 64, 3) := by decide +kernel
theorem dX7_does_4 : decode cX7_does 4 = .ok (.ifCond .eq 27, 3) := by decide +kernel
theorem dX7_does_7 : decode cX7_does 7 = .ok (.iload_n 2, 1) := by decide +kernel
theorem dX7_does_8 : decode cX7_does 8 = .ok (.invokestatic 115, 3) := by decide +kernel
theorem dX7_does_11 : decode cX7_does 11 = .ok (.ifCond .eq 20, 3) := by decide +kernel
theorem dX7_does_14 : decode cX7_does 14 = .ok (.aload_n 0, 1) := by decide +kernel
theorem dX7_does_15 : decode cX7_does 15 = .ok (.iload_n 1, 1) := by decide +kernel
theorem dX7_does_16 : decode cX7_does 16 = .ok (.iload_n 2, 1) := by decide +kernel
theorem dX7_does_17 : decode cX7_does 17 = .ok (.invokevirtual 124, 3) := by decide +kernel
theorem dX7_does_20 : decode cX7_does 20 = .ok (.ifCond .eq 7, 3) := by decide +kernel
theorem dX7_does_23 : decode cX7_does 23 = .ok (.iconst 1, 1) := by decide +kernel
theorem dX7_does_24 : decode cX7_does 24 = .ok (.goto 13, 3) := by decide +kernel
theorem dX7_does_27 : decode cX7_does 27 = .ok (.iconst 0, 1) := by decide +kernel
theorem dX7_does_28 : decode cX7_does 28 = .ok (.goto 9, 3) := by decide +kernel
theorem dX7_does_31 : decode cX7_does 31 = .ok (.aload_n 0, 1) := by decide +kernel
theorem dX7_does_32 : decode cX7_does 32 = .ok (.ldc 83, 2) := by decide +kernel
theorem dX7_does_34 : decode cX7_does 34 = .ok (.invokevirtual 72, 3) := by decide +kernel
theorem dX7_does_37 : decode cX7_does 37 = .ok (.ireturn, 1) := by decide +kernel
theorem dX7_many_0 : decode cX7_many 0 = .ok (.iload_n 1, 1) := by decide +kernel
theorem dX7_many_1 : decode cX7_many 1 = .ok (.invokestatic 64, 3) := by decide +kernel
theorem dX7_many_4 : decode cX7_many 4 = .ok (.ifCond .ne 10, 3) := by decide +kernel
theorem dX7_many_7 : decode cX7_many 7 = .ok (.aload_n 0, 1) := by decide +kernel
theorem dX7_many_8 : decode cX7_many 8 = .ok (.ldc 83, 2) := by decide +kernel
theorem dX7_many_10 : decode cX7_many 10 = .ok (.invokevirtual 72, 3) := by decide +kernel
theorem dX7_many_13 : decode cX7_many 13 = .ok (.ireturn, 1) := by decide +kernel
theorem dX7_many_14 : decode cX7_many 14 = .ok (.iconst 0, 1) := by decide +kernel
theorem dX7_many_15 : decode cX7_many 15 = .ok (.istore_n 2, 1) := by decide +kernel
theorem dX7_many_16 : decode cX7_many 16 = .ok (.iconst 0, 1) := by decide +kernel
theorem dX7_many_17 : decode cX7_many 17 = .ok (.istore_n 3, 1) := by decide +kernel
theorem dX7_many_18 : decode cX7_many 18 = .ok (.iload_n 3, 1) := by decide +kernel
theorem dX7_many_19 : decode cX7_many 19 = .ok (.sipush 2187, 3) := by decide +kernel
theorem dX7_many_22 : decode cX7_many 22 = .ok (.if_icmp .ge 26, 3) := by decide +kernel
theorem dX7_many_25 : decode cX7_many 25 = .ok (.iload_n 2, 1) := by decide +kernel
theorem dX7_many_26 : decode cX7_many 26 = .ok (.aload_n 0, 1) := by decide +kernel
theorem dX7_many_27 : decode cX7_many 27 = .ok (.iload_n 1, 1) := by decide +kernel
theorem dX7_many_28 : decode cX7_many 28 = .ok (.iload_n 3, 1) := by decide +kernel
theorem dX7_many_29 : decode cX7_many 29 = .ok (.invokevirtual 124, 3) := by decide +kernel
theorem dX7_many_32 : decode cX7_many 32 = .ok (.ifCond .eq 7, 3) := by decide +kernel
theorem dX7_many_35 : decode cX7_many 35 = .ok (.iconst 1, 1) := by decide +kernel
theorem dX7_many_36 : decode cX7_many 36 = .ok (.goto 4, 3) := by decide +kernel
theorem dX7_many_39 : decode cX7_many 39 = .ok (.iconst 0, 1) := by decide +kernel
theorem dX7_many_40 : decode cX7_many 40 = .ok (.iadd, 1) := by decide +kernel
theorem dX7_many_41 : decode cX7_many 41 = .ok (.istore_n 2, 1) := by decide +kernel
theorem dX7_many_42 : decode cX7_many 42 = .ok (.iinc 3 1, 3) := by decide +kernel
theorem dX7_many_45 : decode cX7_many 45 = .ok (.goto (-27), 3) := by decide +kernel
theorem dX7_many_48 : decode cX7_many 48 = .ok (.iload_n 2, 1) := by decide +kernel
theorem dX7_many_49 : decode cX7_many 49 = .ok (.ireturn, 1) := by decide +kernel
theorem dX7_ringing_0 : decode cX7_ringing 0 = .ok (.iconst 0, 1) := by decide +kernel
theorem dX7_ringing_1 : decode cX7_ringing 1 = .ok (.istore_n 3, 1) := by decide +kernel
theorem dX7_ringing_2 : decode cX7_ringing 2 = .ok (.iconst 0, 1) := by decide +kernel
theorem dX7_ringing_3 : decode cX7_ringing 3 = .ok (.istore 4, 2) := by decide +kernel
theorem dX7_ringing_5 : decode cX7_ringing 5 = .ok (.iload 4, 2) := by decide +kernel
theorem dX7_ringing_7 : decode cX7_ringing 7 = .ok (.aload_n 0, 1) := by decide +kernel
theorem dX7_ringing_8 : decode cX7_ringing 8 = .ok (.getfield 7, 3) := by decide +kernel
theorem dX7_ringing_11 : decode cX7_ringing 11 = .ok (.iconst 1, 1) := by decide +kernel
theorem dX7_ringing_12 : decode cX7_ringing 12 = .ok (.iload_n 1, 1) := by decide +kernel
theorem dX7_ringing_13 : decode cX7_ringing 13 = .ok (.iadd, 1) := by decide +kernel
theorem dX7_ringing_14 : decode cX7_ringing 14 = .ok (.iaload, 1) := by decide +kernel
theorem dX7_ringing_15 : decode cX7_ringing 15 = .ok (.if_icmp .ge 41, 3) := by decide +kernel
theorem dX7_ringing_18 : decode cX7_ringing 18 = .ok (.iload_n 3, 1) := by decide +kernel
theorem dX7_ringing_19 : decode cX7_ringing 19 = .ok (.aload_n 0, 1) := by decide +kernel
theorem dX7_ringing_20 : decode cX7_ringing 20 = .ok (.iload_n 1, 1) := by decide +kernel
theorem dX7_ringing_21 : decode cX7_ringing 21 = .ok (.iload 4, 2) := by decide +kernel
theorem dX7_ringing_23 : decode cX7_ringing 23 = .ok (.iconst 2, 1) := by decide +kernel
theorem dX7_ringing_24 : decode cX7_ringing 24 = .ok (.invokevirtual 93, 3) := by decide +kernel
theorem dX7_ringing_27 : decode cX7_ringing 27 = .ok (.iconst 1, 1) := by decide +kernel
theorem dX7_ringing_28 : decode cX7_ringing 28 = .ok (.if_icmp .ne 19, 3) := by decide +kernel
theorem dX7_ringing_31 : decode cX7_ringing 31 = .ok (.iconst 1, 1) := by decide +kernel
theorem dX7_ringing_32 : decode cX7_ringing 32 = .ok (.aload_n 0, 1) := by decide +kernel
theorem dX7_ringing_33 : decode cX7_ringing 33 = .ok (.iload_n 1, 1) := by decide +kernel
theorem dX7_ringing_34 : decode cX7_ringing 34 = .ok (.iload 4, 2) := by decide +kernel
theorem dX7_ringing_36 : decode cX7_ringing 36 = .ok (.iload_n 2, 1) := by decide +kernel
theorem dX7_ringing_37 : decode cX7_ringing 37 = .ok (.invokevirtual 121, 3) := by decide +kernel
theorem dX7_ringing_40 : decode cX7_ringing 40 = .ok (.bipush 7, 2) := by decide +kernel
theorem dX7_ringing_42 : decode cX7_ringing 42 = .ok (.irem, 1) := by decide +kernel
theorem dX7_ringing_43 : decode cX7_ringing 43 = .ok (.ishl, 1) := by decide +kernel
theorem dX7_ringing_44 : decode cX7_ringing 44 = .ok (.goto 4, 3) := by decide +kernel
theorem dX7_ringing_47 : decode cX7_ringing 47 = .ok (.iconst 0, 1) := by decide +kernel
theorem dX7_ringing_48 : decode cX7_ringing 48 = .ok (.ior, 1) := by decide +kernel
theorem dX7_ringing_49 : decode cX7_ringing 49 = .ok (.istore_n 3, 1) := by decide +kernel
theorem dX7_ringing_50 : decode cX7_ringing 50 = .ok (.iinc 4 1, 3) := by decide +kernel
theorem dX7_ringing_53 : decode cX7_ringing 53 = .ok (.goto (-48), 3) := by decide +kernel
theorem dX7_ringing_56 : decode cX7_ringing 56 = .ok (.iload_n 3, 1) := by decide +kernel
theorem dX7_ringing_57 : decode cX7_ringing 57 = .ok (.ireturn, 1) := by decide +kernel
theorem dX7_tellNext_0 : decode cX7_tellNext 0 = .ok (.aload_n 0, 1) := by decide +kernel
theorem dX7_tellNext_1 : decode cX7_tellNext 1 = .ok (.iload_n 1, 1) := by decide +kernel
