theorem dX5_init_0 : decode cX5_init 0 = .ok (.aload_n 0, 1) := by decide +kernel
theorem dX5_init_1 : decode cX5_init 1 = .ok (.invokespecial 5, 3) := by decide +kernel
theorem dX5_init_4 : decode cX5_init 4 = .ok (.aload_n 0, 1) := by decide +kernel
theorem dX5_init_5 : decode cX5_init 5 = .ok (.aload_n 1, 1) := by decide +kernel
theorem dX5_init_6 : decode cX5_init 6 = .ok (.putfield 11, 3) := by decide +kernel
theorem dX5_init_9 : decode cX5_init 9 = .ok (.aload_n 0, 1) := by decide +kernel
theorem dX5_init_10 : decode cX5_init 10 = .ok (.aload_n 2, 1) := by decide +kernel
theorem dX5_init_11 : decode cX5_init 11 = .ok (.putfield 15, 3) := by decide +kernel
theorem dX5_init_14 : decode cX5_init 14 = .ok (.aload_n 0, 1) := by decide +kernel
theorem dX5_init_15 : decode cX5_init 15 = .ok (.new 19, 3) := by decide +kernel
theorem dX5_init_18 : decode cX5_init 18 = .ok (.dup, 1) := by decide +kernel
theorem dX5_init_19 : decode cX5_init 19 = .ok (.invokespecial 21, 3) := by decide +kernel
theorem dX5_init_22 : decode cX5_init 22 = .ok (.putfield 22, 3) := by decide +kernel
theorem dX5_init_25 : decode cX5_init 25 = .ok (.aload_n 0, 1) := by decide +kernel
theorem dX5_init_26 : decode cX5_init 26 = .ok (.bipush 12, 2) := by decide +kernel
theorem dX5_init_28 : decode cX5_init 28 = .ok (.sipush 2187, 3) := by decide +kernel
theorem dX5_init_31 : decode cX5_init 31 = .ok (.multianewarray 26 2, 4) := by decide +kernel
theorem dX5_init_35 : decode cX5_init 35 = .ok (.putfield 28, 3) := by decide +kernel
theorem dX5_init_38 : decode cX5_init 38 = .ok (.aload_n 0, 1) := by decide +kernel
theorem dX5_init_39 : decode cX5_init 39 = .ok (.bipush 12, 2) := by decide +kernel
theorem dX5_init_41 : decode cX5_init 41 = .ok (.newarray .boolean, 2) := by decide +kernel
theorem dX5_init_43 : decode cX5_init 43 = .ok (.putfield 31, 3) := by decide +kernel
theorem dX5_init_46 : decode cX5_init 46 = .ok (.aload_n 0, 1) := by decide +kernel
theorem dX5_init_47 : decode cX5_init 47 = .ok (.bipush 12, 2) := by decide +kernel
theorem dX5_init_49 : decode cX5_init 49 = .ok (.sipush 2187, 3) := by decide +kernel
theorem dX5_init_52 : decode cX5_init 52 = .ok (.multianewarray 26 2, 4) := by decide +kernel
theorem dX5_init_56 : decode cX5_init 56 = .ok (.putfield 35, 3) := by decide +kernel
theorem dX5_init_59 : decode cX5_init 59 = .ok (.aload_n 0, 1) := by decide +kernel
theorem dX5_init_60 : decode cX5_init 60 = .ok (.sipush 2187, 3) := by decide +kernel
theorem dX5_init_63 : decode cX5_init 63 = .ok (.newarray .int, 2) := by decide +kernel
theorem dX5_init_65 : decode cX5_init 65 = .ok (.putfield 38, 3) := by decide +kernel
theorem dX5_init_68 : decode cX5_init 68 = .ok (.aload_n 0, 1) := by decide +kernel
theorem dX5_init_69 : decode cX5_init 69 = .ok (.sipush 2187, 3) := by decide +kernel
theorem dX5_init_72 : decode cX5_init 72 = .ok (.newarray .int, 2) := by decide +kernel
theorem dX5_init_74 : decode cX5_init 74 = .ok (.putfield 42, 3) := by decide +kernel
theorem dX5_init_77 : decode cX5_init 77 = .ok (.aload_n 0, 1) := by decide +kernel
theorem dX5_init_78 : decode cX5_init 78 = .ok (.sipush 2187, 3) := by decide +kernel
theorem dX5_init_81 : decode cX5_init 81 = .ok (.newarray .int, 2) := by decide +kernel
theorem dX5_init_83 : decode cX5_init 83 = .ok (.putfield 45, 3) := by decide +kernel
theorem dX5_init_86 : decode cX5_init 86 = .ok (.aload_n 0, 1) := by decide +kernel
theorem dX5_init_87 : decode cX5_init 87 = .ok (.bipush 21, 2) := by decide +kernel
theorem dX5_init_89 : decode cX5_init 89 = .ok (.newarray .int, 2) := by decide +kernel
theorem dX5_init_91 : decode cX5_init 91 = .ok (.putfield 48, 3) := by decide +kernel
theorem dX5_init_94 : decode cX5_init 94 = .ok (.aload_n 0, 1) := by decide +kernel
theorem dX5_init_95 : decode cX5_init 95 = .ok (.bipush 21, 2) := by decide +kernel
theorem dX5_init_97 : decode cX5_init 97 = .ok (.newarray .int, 2) := by decide +kernel
theorem dX5_init_99 : decode cX5_init 99 = .ok (.putfield 51, 3) := by decide +kernel
theorem dX5_init_102 : decode cX5_init 102 = .ok (.aload_n 0, 1) := by decide +kernel
theorem dX5_init_103 : decode cX5_init 103 = .ok (.bipush 12, 2) := by decide +kernel
theorem dX5_init_105 : decode cX5_init 105 = .ok (.newarray .int, 2) := by decide +kernel
theorem dX5_init_107 : decode cX5_init 107 = .ok (.putfield 54, 3) := by decide +kernel
theorem dX5_init_110 : decode cX5_init 110 = .ok (.aload_n 0, 1) := by decide +kernel
theorem dX5_init_111 : decode cX5_init 111 = .ok (.bipush 12, 2) := by decide +kernel
theorem dX5_init_113 : decode cX5_init 113 = .ok (.putfield 57, 3) := by decide +kernel
theorem dX5_init_116 : decode cX5_init 116 = .ok (.aload_n 0, 1) := by decide +kernel
theorem dX5_init_117 : decode cX5_init 117 = .ok (.iconst (-1), 1) := by decide +kernel
theorem dX5_init_118 : decode cX5_init 118 = .ok (.putfield 61, 3) := by decide +kernel
theorem dX5_init_121 : decode cX5_init 121 = .ok (.aload_n 0, 1) := by decide +kernel
theorem dX5_init_122 : decode cX5_init 122 = .ok (.iconst 0, 1) := by decide +kernel
theorem dX5_init_123 : decode cX5_init 123 = .ok (.putfield 64, 3) := by decide +kernel
theorem dX5_init_126 : decode cX5_init 126 = .ok (.aload_n 0, 1) := by decide +kernel
theorem dX5_init_127 : decode cX5_init 127 = .ok (.ldc 68, 2) := by decide +kernel
theorem dX5_init_129 : decode cX5_init 129 = .ok (.putfield 69, 3) := by decide +kernel
theorem dX5_init_132 : decode cX5_init 132 = .ok (.aload_n 0, 1) := by decide +kernel
theorem dX5_init_133 : decode cX5_init 133 = .ok (.iconst 0, 1) := by decide +kernel
theorem dX5_init_134 : decode cX5_init 134 = .ok (.putfield 72, 3) := by decide +kernel
theorem dX5_init_137 : decode cX5_init 137 = .ok (.aload_n 0, 1) := by decide +kernel
theorem dX5_init_138 : decode cX5_init 138 = .ok (.iconst (-1), 1) := by decide +kernel
theorem dX5_init_139 : decode cX5_init 139 = .ok (.putfield 75, 3) := by decide +kernel
theorem dX5_init_142 : decode cX5_init 142 = .ok (.return_, 1) := by decide +kernel
theorem dX5_forgetAll_0 : decode cX5_forgetAll 0 = .ok (.aload_n 0, 1) := by decide +kernel
theorem dX5_forgetAll_1 : decode cX5_forgetAll 1 = .ok (.invokevirtual 78, 3) := by decide +kernel
theorem dX5_forgetAll_4 : decode cX5_forgetAll 4 = .ok (.aload_n 0, 1) := by decide +kernel
theorem dX5_forgetAll_5 : decode cX5_forgetAll 5 = .ok (.invokevirtual 81, 3) := by decide +kernel
theorem dX5_forgetAll_8 : decode cX5_forgetAll 8 = .ok (.return_, 1) := by decide +kernel
theorem dX5_forgetLength_0 : decode cX5_forgetLength 0 = .ok (.aload_n 0, 1) := by decide +kernel
theorem dX5_forgetLength_1 : decode cX5_forgetLength 1 = .ok (.bipush 12, 2) := by decide +kernel
theorem dX5_forgetLength_3 : decode cX5_forgetLength 3 = .ok (.putfield 57, 3) := by decide +kernel
theorem dX5_forgetLength_6 : decode cX5_forgetLength 6 = .ok (.aload_n 0, 1) := by decide +kernel
theorem dX5_forgetLength_7 : decode cX5_forgetLength 7 = .ok (.invokevirtual 84, 3) := by decide +kernel
theorem dX5_forgetLength_10 : decode cX5_forgetLength 10 = .ok (.return_, 1) := by decide +kernel
theorem dX5_forgetStart_0 : decode cX5_forgetStart 0 = .ok (.aload_n 0, 1) := by decide +kernel
theorem dX5_forgetStart_1 : decode cX5_forgetStart 1 = .ok (.iconst (-1), 1) := by decide +kernel
theorem dX5_forgetStart_2 : decode cX5_forgetStart 2 = .ok (.putfield 61, 3) := by decide +kernel
theorem dX5_forgetStart_5 : decode cX5_forgetStart 5 = .ok (.aload_n 0, 1) := by decide +kernel
theorem dX5_forgetStart_6 : decode cX5_forgetStart 6 = .ok (.invokevirtual 84, 3) := by decide +kernel
theorem dX5_forgetStart_9 : decode cX5_forgetStart 9 = .ok (.return_, 1) := by decide +kernel
theorem dX5_forgetBeats_0 : decode cX5_forgetBeats 0 = .ok (.aload_n 0, 1) := by decide +kernel
theorem dX5_forgetBeats_1 : decode cX5_forgetBeats 1 = .ok (.aload_n 0, 1) := by decide +kernel
theorem dX5_forgetBeats_2 : decode cX5_forgetBeats 2 = .ok (.getfield 61, 3) := by decide +kernel
theorem dX5_forgetBeats_5 : decode cX5_forgetBeats 5 = .ok (.iload_n 1, 1) := by decide +kernel
theorem dX5_forgetBeats_6 : decode cX5_forgetBeats 6 = .ok (.invokestatic 87, 3) := by decide +kernel
theorem dX5_forgetBeats_9 : decode cX5_forgetBeats 9 = .ok (.putfield 61, 3) := by decide +kernel
theorem dX5_forgetBeats_12 : decode cX5_forgetBeats 12 = .ok (.iload_n 1, 1) := by decide +kernel
theorem dX5_forgetBeats_13 : decode cX5_forgetBeats 13 = .ok (.aload_n 0, 1) := by decide +kernel
theorem dX5_forgetBeats_14 : decode cX5_forgetBeats 14 = .ok (.getfield 15, 3) := by decide +kernel
theorem dX5_forgetBeats_17 : decode cX5_forgetBeats 17 = .ok (.getfield 93, 3) := by decide +kernel
theorem dX5_forgetBeats_20 : decode cX5_forgetBeats 20 = .ok (.if_icmp .ge 17, 3) := by decide +kernel
theorem dX5_forgetBeats_23 : decode cX5_forgetBeats 23 = .ok (.aload_n 0, 1) := by decide +kernel
theorem dX5_forgetBeats_24 : decode cX5_forgetBeats 24 = .ok (.aload_n 0, 1) := by decide +kernel
theorem dX5_forgetBeats_25 : decode cX5_forgetBeats 25 = .ok (.getfield 57, 3) := by decide +kernel
theorem dX5_forgetBeats_28 : decode cX5_forgetBeats 28 = .ok (.iload_n 2, 1) := by decide +kernel
theorem dX5_forgetBeats_29 : decode cX5_forgetBeats 29 = .ok (.iconst 1, 1) := by decide +kernel
theorem dX5_forgetBeats_30 : decode cX5_forgetBeats 30 = .ok (.iadd, 1) := by decide +kernel
theorem dX5_forgetBeats_31 : decode cX5_forgetBeats 31 = .ok (.invokestatic 98, 3) := by decide +kernel
theorem dX5_forgetBeats_34 : decode cX5_forgetBeats 34 = .ok (.putfield 57, 3) := by decide +kernel
theorem dX5_forgetBeats_37 : decode cX5_forgetBeats 37 = .ok (.aload_n 0, 1) := by decide +kernel
theorem dX5_forgetBeats_38 : decode cX5_forgetBeats 38 = .ok (.invokevirtual 84, 3) := by decide +kernel
theorem dX5_forgetBeats_41 : decode cX5_forgetBeats 41 = .ok (.return_, 1) := by decide +kernel
theorem dX5_forgetAnswers_0 : decode cX5_forgetAnswers 0 = .ok (.aload_n 0, 1) := by decide +kernel
theorem dX5_forgetAnswers_1 : decode cX5_forgetAnswers 1 = .ok (.iconst 0, 1) := by decide +kernel
theorem dX5_forgetAnswers_2 : decode cX5_forgetAnswers 2 = .ok (.putfield 64, 3) := by decide +kernel
theorem dX5_forgetAnswers_5 : decode cX5_forgetAnswers 5 = .ok (.aload_n 0, 1) := by decide +kernel
theorem dX5_forgetAnswers_6 : decode cX5_forgetAnswers 6 = .ok (.iconst 0, 1) := by decide +kernel
theorem dX5_forgetAnswers_7 : decode cX5_forgetAnswers 7 = .ok (.putfield 72, 3) := by decide +kernel
theorem dX5_forgetAnswers_10 : decode cX5_forgetAnswers 10 = .ok (.return_, 1) := by decide +kernel
theorem dX5_exists_0 : decode cX5_exists 0 = .ok (.aload_n 0, 1) := by decide +kernel
theorem dX5_exists_1 : decode cX5_exists 1 = .ok (.getfield 64, 3) := by decide +kernel
theorem dX5_exists_4 : decode cX5_exists 4 = .ok (.ifCond .ne 115, 3) := by decide +kernel
theorem dX5_exists_7 : decode cX5_exists 7 = .ok (.aload_n 0, 1) := by decide +kernel
theorem dX5_exists_8 : decode cX5_exists 8 = .ok (.getfield 57, 3) := by decide +kernel
theorem dX5_exists_11 : decode cX5_exists 11 = .ok (.aload_n 0, 1) := by decide +kernel
theorem dX5_exists_12 : decode cX5_exists 12 = .ok (.getfield 15, 3) := by decide +kernel
theorem dX5_exists_15 : decode cX5_exists 15 = .ok (.getfield 93, 3) := by decide +kernel
theorem dX5_exists_18 : decode cX5_exists 18 = .ok (.invokestatic 87, 3) := by decide +kernel
theorem dX5_exists_21 : decode cX5_exists 21 = .ok (.iconst 1, 1) := by decide +kernel
theorem dX5_exists_22 : decode cX5_exists 22 = .ok (.isub, 1) := by decide +kernel
theorem dX5_exists_23 : decode cX5_exists 23 = .ok (.istore_n 1, 1) := by decide +kernel
theorem dX5_exists_24 : decode cX5_exists 24 = .ok (.iload_n 1, 1) := by decide +kernel
theorem dX5_exists_25 : decode cX5_exists 25 = .ok (.ifCond .lt 47, 3) := by decide +kernel
theorem dX5_exists_28 : decode cX5_exists 28 = .ok (.aload_n 0, 1) := by decide +kernel
theorem dX5_exists_29 : decode cX5_exists 29 = .ok (.getfield 22, 3) := by decide +kernel
theorem dX5_exists_32 : decode cX5_exists 32 = .ok (.aload_n 0, 1) := by decide +kernel
theorem dX5_exists_33 : decode cX5_exists 33 = .ok (.getfield 15, 3) := by decide +kernel
theorem dX5_exists_36 : decode cX5_exists 36 = .ok (.iload_n 1, 1) := by decide +kernel
theorem dX5_exists_37 : decode cX5_exists 37 = .ok (.invokevirtual 101, 3) := by decide +kernel
theorem dX5_exists_40 : decode cX5_exists 40 = .ok (.aload_n 0, 1) := by decide +kernel
theorem dX5_exists_41 : decode cX5_exists 41 = .ok (.iload_n 1, 1) := by decide +kernel
theorem dX5_exists_42 : decode cX5_exists 42 = .ok (.aload_n 0, 1) := by decide +kernel
theorem dX5_exists_43 : decode cX5_exists 43 = .ok (.getfield 28, 3) := by decide +kernel
theorem dX5_exists_46 : decode cX5_exists 46 = .ok (.iload_n 1, 1) := by decide +kernel
theorem dX5_exists_47 : decode cX5_exists 47 = .ok (.aaload, 1) := by decide +kernel
theorem dX5_exists_48 : decode cX5_exists 48 = .ok (.invokevirtual 105, 3) := by decide +kernel
theorem dX5_exists_51 : decode cX5_exists 51 = .ok (.aload_n 0, 1) := by decide +kernel
theorem dX5_exists_52 : decode cX5_exists 52 = .ok (.getfield 31, 3) := by decide +kernel
theorem dX5_exists_55 : decode cX5_exists 55 = .ok (.iload_n 1, 1) := by decide +kernel
theorem dX5_exists_56 : decode cX5_exists 56 = .ok (.aload_n 0, 1) := by decide +kernel
theorem dX5_exists_57 : decode cX5_exists 57 = .ok (.getfield 28, 3) := by decide +kernel
theorem dX5_exists_60 : decode cX5_exists 60 = .ok (.iload_n 1, 1) := by decide +kernel
theorem dX5_exists_61 : decode cX5_exists 61 = .ok (.aaload, 1) := by decide +kernel
theorem dX5_exists_62 : decode cX5_exists 62 = .ok (.invokestatic 109, 3) := by decide +kernel
theorem dX5_exists_65 : decode cX5_exists 65 = .ok (.bastore, 1) := by decide +kernel
theorem dX5_exists_66 : decode cX5_exists 66 = .ok (.iinc 1 (-1), 3) := by decide +kernel
theorem dX5_exists_69 : decode cX5_exists 69 = .ok (.goto (-45), 3) := by decide +kernel
theorem dX5_exists_72 : decode cX5_exists 72 = .ok (.aload_n 0, 1) := by decide +kernel
theorem dX5_exists_73 : decode cX5_exists 73 = .ok (.iconst 0, 1) := by decide +kernel
theorem dX5_exists_74 : decode cX5_exists 74 = .ok (.putfield 57, 3) := by decide +kernel
theorem dX5_exists_77 : decode cX5_exists 77 = .ok (.aload_n 0, 1) := by decide +kernel
theorem dX5_exists_78 : decode cX5_exists 78 = .ok (.iconst 0, 1) := by decide +kernel
theorem dX5_exists_79 : decode cX5_exists 79 = .ok (.invokevirtual 113, 3) := by decide +kernel
theorem dX5_exists_82 : decode cX5_exists 82 = .ok (.aload_n 0, 1) := by decide +kernel
theorem dX5_exists_83 : decode cX5_exists 83 = .ok (.aload_n 0, 1) := by decide +kernel
theorem dX5_exists_84 : decode cX5_exists 84 = .ok (.getfield 35, 3) := by decide +kernel
theorem dX5_exists_87 : decode cX5_exists 87 = .ok (.iconst 0, 1) := by decide +kernel
theorem dX5_exists_88 : decode cX5_exists 88 = .ok (.aaload, 1) := by decide +kernel
theorem dX5_exists_89 : decode cX5_exists 89 = .ok (.aload_n 0, 1) := by decide +kernel
theorem dX5_exists_90 : decode cX5_exists 90 = .ok (.getfield 28, 3) := by decide +kernel
theorem dX5_exists_93 : decode cX5_exists 93 = .ok (.iconst 0, 1) := by decide +kernel
theorem dX5_exists_94 : decode cX5_exists 94 = .ok (.aaload, 1) := by decide +kernel
theorem dX5_exists_95 : decode cX5_exists 95 = .ok (.invokestatic 117, 3) := by decide +kernel
theorem dX5_exists_98 : decode cX5_exists 98 = .ok (.putfield 69, 3) := by decide +kernel
theorem dX5_exists_101 : decode cX5_exists 101 = .ok (.aload_n 0, 1) := by decide +kernel
theorem dX5_exists_102 : decode cX5_exists 102 = .ok (.getfield 69, 3) := by decide +kernel
theorem dX5_exists_105 : decode cX5_exists 105 = .ok (.ldc 68, 2) := by decide +kernel
theorem dX5_exists_107 : decode cX5_exists 107 = .ok (.if_icmp .ge 7, 3) := by decide +kernel
theorem dX5_exists_110 : decode cX5_exists 110 = .ok (.aload_n 0, 1) := by decide +kernel
theorem dX5_exists_111 : decode cX5_exists 111 = .ok (.invokevirtual 121, 3) := by decide +kernel
theorem dX5_exists_114 : decode cX5_exists 114 = .ok (.aload_n 0, 1) := by decide +kernel
theorem dX5_exists_115 : decode cX5_exists 115 = .ok (.iconst 1, 1) := by decide +kernel
theorem dX5_exists_116 : decode cX5_exists 116 = .ok (.putfield 64, 3) := by decide +kernel
theorem dX5_exists_119 : decode cX5_exists 119 = .ok (.aload_n 0, 1) := by decide +kernel
theorem dX5_exists_120 : decode cX5_exists 120 = .ok (.getfield 69, 3) := by decide +kernel
theorem dX5_exists_123 : decode cX5_exists 123 = .ok (.ldc 68, 2) := by decide +kernel
theorem dX5_exists_125 : decode cX5_exists 125 = .ok (.if_icmp .ge 7, 3) := by decide +kernel
theorem dX5_exists_128 : decode cX5_exists 128 = .ok (.iconst 1, 1) := by decide +kernel
theorem dX5_exists_129 : decode cX5_exists 129 = .ok (.goto 4, 3) := by decide +kernel
theorem dX5_exists_132 : decode cX5_exists 132 = .ok (.iconst 0, 1) := by decide +kernel
theorem dX5_exists_133 : decode cX5_exists 133 = .ok (.ireturn, 1) := by decide +kernel
theorem dX5_cost_0 : decode cX5_cost 0 = .ok (.aload_n 0, 1) := by decide +kernel
theorem dX5_cost_1 : decode cX5_cost 1 = .ok (.getfield 69, 3) := by decide +kernel
theorem dX5_cost_4 : decode cX5_cost 4 = .ok (.bipush 20, 2) := by decide +kernel
theorem dX5_cost_6 : decode cX5_cost 6 = .ok (.ishr, 1) := by decide +kernel
theorem dX5_cost_7 : decode cX5_cost 7 = .ok (.ireturn, 1) := by decide +kernel
theorem dX5_count_0 : decode cX5_count 0 = .ok (.aload_n 0, 1) := by decide +kernel
theorem dX5_count_1 : decode cX5_count 1 = .ok (.getfield 69, 3) := by decide +kernel
theorem dX5_count_4 : decode cX5_count 4 = .ok (.ldc 124, 2) := by decide +kernel
theorem dX5_count_6 : decode cX5_count 6 = .ok (.iand, 1) := by decide +kernel
theorem dX5_count_7 : decode cX5_count 7 = .ok (.ireturn, 1) := by decide +kernel
theorem dX5_movedTo_0 : decode cX5_movedTo 0 = .ok (.aload_n 0, 1) := by decide +kernel
theorem dX5_movedTo_1 : decode cX5_movedTo 1 = .ok (.getfield 11, 3) := by decide +kernel
theorem dX5_movedTo_4 : decode cX5_movedTo 4 = .ok (.getfield 125, 3) := by decide +kernel
theorem dX5_movedTo_7 : decode cX5_movedTo 7 = .ok (.aload_n 0, 1) := by decide +kernel
theorem dX5_movedTo_8 : decode cX5_movedTo 8 = .ok (.getfield 54, 3) := by decide +kernel
theorem dX5_movedTo_11 : decode cX5_movedTo 11 = .ok (.iload_n 1, 1) := by decide +kernel
theorem dX5_movedTo_12 : decode cX5_movedTo 12 = .ok (.iaload, 1) := by decide +kernel
theorem dX5_movedTo_13 : decode cX5_movedTo 13 = .ok (.iaload, 1) := by decide +kernel
theorem dX5_movedTo_14 : decode cX5_movedTo 14 = .ok (.istore_n 3, 1) := by decide +kernel
theorem dX5_movedTo_15 : decode cX5_movedTo 15 = .ok (.iload_n 1, 1) := by decide +kernel
theorem dX5_movedTo_16 : decode cX5_movedTo 16 = .ok (.ifCond .le 24, 3) := by decide +kernel
theorem dX5_movedTo_19 : decode cX5_movedTo 19 = .ok (.iload_n 3, 1) := by decide +kernel
theorem dX5_movedTo_20 : decode cX5_movedTo 20 = .ok (.aload_n 0, 1) := by decide +kernel
theorem dX5_movedTo_21 : decode cX5_movedTo 21 = .ok (.getfield 11, 3) := by decide +kernel
theorem dX5_movedTo_24 : decode cX5_movedTo 24 = .ok (.getfield 125, 3) := by decide +kernel
theorem dX5_movedTo_27 : decode cX5_movedTo 27 = .ok (.aload_n 0, 1) := by decide +kernel
theorem dX5_movedTo_28 : decode cX5_movedTo 28 = .ok (.getfield 54, 3) := by decide +kernel
theorem dX5_movedTo_31 : decode cX5_movedTo 31 = .ok (.iload_n 1, 1) := by decide +kernel
theorem dX5_movedTo_32 : decode cX5_movedTo 32 = .ok (.iconst 1, 1) := by decide +kernel
theorem dX5_movedTo_33 : decode cX5_movedTo 33 = .ok (.isub, 1) := by decide +kernel
theorem dX5_movedTo_34 : decode cX5_movedTo 34 = .ok (.iaload, 1) := by decide +kernel
theorem dX5_movedTo_35 : decode cX5_movedTo 35 = .ok (.iaload, 1) := by decide +kernel
theorem dX5_movedTo_36 : decode cX5_movedTo 36 = .ok (.ixor, 1) := by decide +kernel
theorem dX5_movedTo_37 : decode cX5_movedTo 37 = .ok (.goto 8, 3) := by decide +kernel
theorem dX5_movedTo_40 : decode cX5_movedTo 40 = .ok (.aload_n 0, 1) := by decide +kernel
theorem dX5_movedTo_41 : decode cX5_movedTo 41 = .ok (.iload_n 3, 1) := by decide +kernel
theorem dX5_movedTo_42 : decode cX5_movedTo 42 = .ok (.invokevirtual 130, 3) := by decide +kernel
theorem dX5_movedTo_45 : decode cX5_movedTo 45 = .ok (.istore 4, 2) := by decide +kernel
theorem dX5_movedTo_47 : decode cX5_movedTo 47 = .ok (.iconst 0, 1) := by decide +kernel
theorem dX5_movedTo_48 : decode cX5_movedTo 48 = .ok (.istore 5, 2) := by decide +kernel
theorem dX5_movedTo_50 : decode cX5_movedTo 50 = .ok (.iload 5, 2) := by decide +kernel
theorem dX5_movedTo_52 : decode cX5_movedTo 52 = .ok (.bipush 7, 2) := by decide +kernel
theorem dX5_movedTo_54 : decode cX5_movedTo 54 = .ok (.if_icmp .ge 31, 3) := by decide +kernel
theorem dX5_movedTo_57 : decode cX5_movedTo 57 = .ok (.iload_n 2, 1) := by decide +kernel
theorem dX5_movedTo_58 : decode cX5_movedTo 58 = .ok (.iload 5, 2) := by decide +kernel
theorem dX5_movedTo_60 : decode cX5_movedTo 60 = .ok (.ishr, 1) := by decide +kernel
theorem dX5_movedTo_61 : decode cX5_movedTo 61 = .ok (.iconst 1, 1) := by decide +kernel
theorem dX5_movedTo_62 : decode cX5_movedTo 62 = .ok (.iand, 1) := by decide +kernel
theorem dX5_movedTo_63 : decode cX5_movedTo 63 = .ok (.ifCond .eq 16, 3) := by decide +kernel
theorem dX5_movedTo_66 : decode cX5_movedTo 66 = .ok (.iload 4, 2) := by decide +kernel
theorem dX5_movedTo_68 : decode cX5_movedTo 68 = .ok (.iload 5, 2) := by decide +kernel
theorem dX5_movedTo_70 : decode cX5_movedTo 70 = .ok (.invokestatic 134, 3) := by decide +kernel
theorem dX5_movedTo_73 : decode cX5_movedTo 73 = .ok (.ifCond .eq 6, 3) := by decide +kernel
theorem dX5_movedTo_76 : decode cX5_movedTo 76 = .ok (.iload 5, 2) := by decide +kernel
theorem dX5_movedTo_78 : decode cX5_movedTo 78 = .ok (.ireturn, 1) := by decide +kernel
theorem dX5_movedTo_79 : decode cX5_movedTo 79 = .ok (.iinc 5 1, 3) := by decide +kernel
theorem dX5_movedTo_82 : decode cX5_movedTo 82 = .ok (.goto (-32), 3) := by decide +kernel
theorem dX5_movedTo_85 : decode cX5_movedTo 85 = .ok (.iconst (-1), 1) := by decide +kernel
theorem dX5_movedTo_86 : decode cX5_movedTo 86 = .ok (.ireturn, 1) := by decide +kernel
theorem dX5_stuckBeat_0 : decode cX5_stuckBeat 0 = .ok (.aload_n 0, 1) := by decide +kernel
theorem dX5_stuckBeat_1 : decode cX5_stuckBeat 1 = .ok (.getfield 72, 3) := by decide +kernel
theorem dX5_stuckBeat_4 : decode cX5_stuckBeat 4 = .ok (.ifCond .ne 66, 3) := by decide +kernel
theorem dX5_stuckBeat_7 : decode cX5_stuckBeat 7 = .ok (.aload_n 0, 1) := by decide +kernel
theorem dX5_stuckBeat_8 : decode cX5_stuckBeat 8 = .ok (.iconst 0, 1) := by decide +kernel
theorem dX5_stuckBeat_9 : decode cX5_stuckBeat 9 = .ok (.putfield 75, 3) := by decide +kernel
theorem dX5_stuckBeat_12 : decode cX5_stuckBeat 12 = .ok (.aload_n 0, 1) := by decide +kernel
theorem dX5_stuckBeat_13 : decode cX5_stuckBeat 13 = .ok (.iconst 0, 1) := by decide +kernel
theorem dX5_stuckBeat_14 : decode cX5_stuckBeat 14 = .ok (.invokevirtual 113, 3) := by decide +kernel
theorem dX5_stuckBeat_17 : decode cX5_stuckBeat 17 = .ok (.aload_n 0, 1) := by decide +kernel
theorem dX5_stuckBeat_18 : decode cX5_stuckBeat 18 = .ok (.getfield 75, 3) := by decide +kernel
theorem dX5_stuckBeat_21 : decode cX5_stuckBeat 21 = .ok (.aload_n 0, 1) := by decide +kernel
theorem dX5_stuckBeat_22 : decode cX5_stuckBeat 22 = .ok (.getfield 15, 3) := by decide +kernel
theorem dX5_stuckBeat_25 : decode cX5_stuckBeat 25 = .ok (.getfield 93, 3) := by decide +kernel
theorem dX5_stuckBeat_28 : decode cX5_stuckBeat 28 = .ok (.iconst 1, 1) := by decide +kernel
theorem dX5_stuckBeat_29 : decode cX5_stuckBeat 29 = .ok (.isub, 1) := by decide +kernel
theorem dX5_stuckBeat_30 : decode cX5_stuckBeat 30 = .ok (.if_icmp .ge 35, 3) := by decide +kernel
theorem dX5_stuckBeat_33 : decode cX5_stuckBeat 33 = .ok (.aload_n 0, 1) := by decide +kernel
theorem dX5_stuckBeat_34 : decode cX5_stuckBeat 34 = .ok (.aload_n 0, 1) := by decide +kernel
theorem dX5_stuckBeat_35 : decode cX5_stuckBeat 35 = .ok (.getfield 75, 3) := by decide +kernel
theorem dX5_stuckBeat_38 : decode cX5_stuckBeat 38 = .ok (.invokevirtual 137, 3) := by decide +kernel
theorem dX5_stuckBeat_41 : decode cX5_stuckBeat 41 = .ok (.ifCond .eq 24, 3) := by decide +kernel
theorem dX5_stuckBeat_44 : decode cX5_stuckBeat 44 = .ok (.aload_n 0, 1) := by decide +kernel
theorem dX5_stuckBeat_45 : decode cX5_stuckBeat 45 = .ok (.dup, 1) := by decide +kernel
theorem dX5_stuckBeat_46 : decode cX5_stuckBeat 46 = .ok (.getfield 75, 3) := by decide +kernel
theorem dX5_stuckBeat_49 : decode cX5_stuckBeat 49 = .ok (.iconst 1, 1) := by decide +kernel
theorem dX5_stuckBeat_50 : decode cX5_stuckBeat 50 = .ok (.iadd, 1) := by decide +kernel
theorem dX5_stuckBeat_51 : decode cX5_stuckBeat 51 = .ok (.putfield 75, 3) := by decide +kernel
theorem dX5_stuckBeat_54 : decode cX5_stuckBeat 54 = .ok (.aload_n 0, 1) := by decide +kernel
theorem dX5_stuckBeat_55 : decode cX5_stuckBeat 55 = .ok (.aload_n 0, 1) := by decide +kernel
theorem dX5_stuckBeat_56 : decode cX5_stuckBeat 56 = .ok (.getfield 75, 3) := by decide +kernel
theorem dX5_stuckBeat_59 : decode cX5_stuckBeat 59 = .ok (.invokevirtual 113, 3) := by decide +kernel
theorem dX5_stuckBeat_62 : decode cX5_stuckBeat 62 = .ok (.goto (-45), 3) := by decide +kernel
theorem dX5_stuckBeat_65 : decode cX5_stuckBeat 65 = .ok (.aload_n 0, 1) := by decide +kernel
theorem dX5_stuckBeat_66 : decode cX5_stuckBeat 66 = .ok (.iconst 1, 1) := by decide +kernel
theorem dX5_stuckBeat_67 : decode cX5_stuckBeat 67 = .ok (.putfield 72, 3) := by decide +kernel
theorem dX5_stuckBeat_70 : decode cX5_stuckBeat 70 = .ok (.aload_n 0, 1) := by decide +kernel
theorem dX5_stuckBeat_71 : decode cX5_stuckBeat 71 = .ok (.getfield 75, 3) := by decide +kernel
theorem dX5_stuckBeat_74 : decode cX5_stuckBeat 74 = .ok (.ireturn, 1) := by decide +kernel
theorem dX5_canStandAt_0 : decode cX5_canStandAt 0 = .ok (.aload_n 0, 1) := by decide +kernel
theorem dX5_canStandAt_1 : decode cX5_canStandAt 1 = .ok (.getfield 22, 3) := by decide +kernel
theorem dX5_canStandAt_4 : decode cX5_canStandAt 4 = .ok (.aload_n 0, 1) := by decide +kernel
theorem dX5_canStandAt_5 : decode cX5_canStandAt 5 = .ok (.getfield 15, 3) := by decide +kernel
theorem dX5_canStandAt_8 : decode cX5_canStandAt 8 = .ok (.iload_n 1, 1) := by decide +kernel
theorem dX5_canStandAt_9 : decode cX5_canStandAt 9 = .ok (.invokevirtual 101, 3) := by decide +kernel
theorem dX5_canStandAt_12 : decode cX5_canStandAt 12 = .ok (.iconst 0, 1) := by decide +kernel
theorem dX5_canStandAt_13 : decode cX5_canStandAt 13 = .ok (.istore_n 2, 1) := by decide +kernel
theorem dX5_canStandAt_14 : decode cX5_canStandAt 14 = .ok (.iload_n 2, 1) := by decide +kernel
theorem dX5_canStandAt_15 : decode cX5_canStandAt 15 = .ok (.sipush 2187, 3) := by decide +kernel
theorem dX5_canStandAt_18 : decode cX5_canStandAt 18 = .ok (.if_icmp .ge 43, 3) := by decide +kernel
theorem dX5_canStandAt_21 : decode cX5_canStandAt 21 = .ok (.aload_n 0, 1) := by decide +kernel
theorem dX5_canStandAt_22 : decode cX5_canStandAt 22 = .ok (.getfield 35, 3) := by decide +kernel
theorem dX5_canStandAt_25 : decode cX5_canStandAt 25 = .ok (.iload_n 1, 1) := by decide +kernel
theorem dX5_canStandAt_26 : decode cX5_canStandAt 26 = .ok (.aaload, 1) := by decide +kernel
theorem dX5_canStandAt_27 : decode cX5_canStandAt 27 = .ok (.iload_n 2, 1) := by decide +kernel
theorem dX5_canStandAt_28 : decode cX5_canStandAt 28 = .ok (.iaload, 1) := by decide +kernel
theorem dX5_canStandAt_29 : decode cX5_canStandAt 29 = .ok (.ldc 68, 2) := by decide +kernel
theorem dX5_canStandAt_31 : decode cX5_canStandAt 31 = .ok (.if_icmp .ge 24, 3) := by decide +kernel
theorem dX5_canStandAt_34 : decode cX5_canStandAt 34 = .ok (.aload_n 0, 1) := by decide +kernel
theorem dX5_canStandAt_35 : decode cX5_canStandAt 35 = .ok (.getfield 22, 3) := by decide +kernel
theorem dX5_canStandAt_38 : decode cX5_canStandAt 38 = .ok (.aload_n 0, 1) := by decide +kernel
theorem dX5_canStandAt_39 : decode cX5_canStandAt 39 = .ok (.getfield 11, 3) := by decide +kernel
theorem dX5_canStandAt_42 : decode cX5_canStandAt 42 = .ok (.getfield 125, 3) := by decide +kernel
theorem dX5_canStandAt_45 : decode cX5_canStandAt 45 = .ok (.iload_n 2, 1) := by decide +kernel
theorem dX5_canStandAt_46 : decode cX5_canStandAt 46 = .ok (.iaload, 1) := by decide +kernel
theorem dX5_canStandAt_47 : decode cX5_canStandAt 47 = .ok (.invokevirtual 141, 3) := by decide +kernel
theorem dX5_canStandAt_50 : decode cX5_canStandAt 50 = .ok (.ifCond .lt 5, 3) := by decide +kernel
theorem dX5_canStandAt_53 : decode cX5_canStandAt 53 = .ok (.iconst 1, 1) := by decide +kernel
theorem dX5_canStandAt_54 : decode cX5_canStandAt 54 = .ok (.ireturn, 1) := by decide +kernel
theorem dX5_canStandAt_55 : decode cX5_canStandAt 55 = .ok (.iinc 2 1, 3) := by decide +kernel
theorem dX5_canStandAt_58 : decode cX5_canStandAt 58 = .ok (.goto (-44), 3) := by decide +kernel
theorem dX5_canStandAt_61 : decode cX5_canStandAt 61 = .ok (.iconst 0, 1) := by decide +kernel
theorem dX5_canStandAt_62 : decode cX5_canStandAt 62 = .ok (.ireturn, 1) := by decide +kernel
theorem dX5_sparedWithout_0 : decode cX5_sparedWithout 0 = .ok (.iload_n 1, 1) := by decide +kernel
theorem dX5_sparedWithout_1 : decode cX5_sparedWithout 1 = .ok (.aload_n 0, 1) := by decide +kernel
theorem dX5_sparedWithout_2 : decode cX5_sparedWithout 2 = .ok (.getfield 15, 3) := by decide +kernel
theorem dX5_sparedWithout_5 : decode cX5_sparedWithout 5 = .ok (.getfield 93, 3) := by decide +kernel
theorem dX5_sparedWithout_8 : decode cX5_sparedWithout 8 = .ok (.if_icmp .lt 5, 3) := by decide +kernel
theorem dX5_sparedWithout_11 : decode cX5_sparedWithout 11 = .ok (.iconst 0, 1) := by decide +kernel
theorem dX5_sparedWithout_12 : decode cX5_sparedWithout 12 = .ok (.ireturn, 1) := by decide +kernel
theorem dX5_sparedWithout_13 : decode cX5_sparedWithout 13 = .ok (.aload_n 0, 1) := by decide +kernel
theorem dX5_sparedWithout_14 : decode cX5_sparedWithout 14 = .ok (.iload_n 1, 1) := by decide +kernel
theorem dX5_sparedWithout_15 : decode cX5_sparedWithout 15 = .ok (.invokevirtual 113, 3) := by decide +kernel
theorem dX5_sparedWithout_18 : decode cX5_sparedWithout 18 = .ok (.aload_n 0, 1) := by decide +kernel
theorem dX5_sparedWithout_19 : decode cX5_sparedWithout 19 = .ok (.getfield 22, 3) := by decide +kernel
theorem dX5_sparedWithout_22 : decode cX5_sparedWithout 22 = .ok (.aload_n 0, 1) := by decide +kernel
theorem dX5_sparedWithout_23 : decode cX5_sparedWithout 23 = .ok (.getfield 15, 3) := by decide +kernel
theorem dX5_sparedWithout_26 : decode cX5_sparedWithout 26 = .ok (.iload_n 1, 1) := by decide +kernel
theorem dX5_sparedWithout_27 : decode cX5_sparedWithout 27 = .ok (.invokevirtual 101, 3) := by decide +kernel
theorem dX5_sparedWithout_30 : decode cX5_sparedWithout 30 = .ok (.aload_n 0, 1) := by decide +kernel
theorem dX5_sparedWithout_31 : decode cX5_sparedWithout 31 = .ok (.getfield 22, 3) := by decide +kernel
theorem dX5_sparedWithout_34 : decode cX5_sparedWithout 34 = .ok (.iload_n 2, 1) := by decide +kernel
theorem dX5_sparedWithout_35 : decode cX5_sparedWithout 35 = .ok (.invokevirtual 144, 3) := by decide +kernel
theorem dX5_sparedWithout_38 : decode cX5_sparedWithout 38 = .ok (.aload_n 0, 1) := by decide +kernel
theorem dX5_sparedWithout_39 : decode cX5_sparedWithout 39 = .ok (.iload_n 1, 1) := by decide +kernel
theorem dX5_sparedWithout_40 : decode cX5_sparedWithout 40 = .ok (.aload_n 0, 1) := by decide +kernel
theorem dX5_sparedWithout_41 : decode cX5_sparedWithout 41 = .ok (.getfield 38, 3) := by decide +kernel
theorem dX5_sparedWithout_44 : decode cX5_sparedWithout 44 = .ok (.invokevirtual 105, 3) := by decide +kernel
theorem dX5_sparedWithout_47 : decode cX5_sparedWithout 47 = .ok (.aload_n 0, 1) := by decide +kernel
theorem dX5_sparedWithout_48 : decode cX5_sparedWithout 48 = .ok (.invokevirtual 147, 3) := by decide +kernel
theorem dX5_sparedWithout_51 : decode cX5_sparedWithout 51 = .ok (.aload_n 0, 1) := by decide +kernel
theorem dX5_sparedWithout_52 : decode cX5_sparedWithout 52 = .ok (.getfield 35, 3) := by decide +kernel
theorem dX5_sparedWithout_55 : decode cX5_sparedWithout 55 = .ok (.iload_n 1, 1) := by decide +kernel
theorem dX5_sparedWithout_56 : decode cX5_sparedWithout 56 = .ok (.aaload, 1) := by decide +kernel
theorem dX5_sparedWithout_57 : decode cX5_sparedWithout 57 = .ok (.aload_n 0, 1) := by decide +kernel
theorem dX5_sparedWithout_58 : decode cX5_sparedWithout 58 = .ok (.getfield 38, 3) := by decide +kernel
theorem dX5_sparedWithout_61 : decode cX5_sparedWithout 61 = .ok (.invokestatic 117, 3) := by decide +kernel
theorem dX5_sparedWithout_64 : decode cX5_sparedWithout 64 = .ok (.bipush 20, 2) := by decide +kernel
theorem dX5_sparedWithout_66 : decode cX5_sparedWithout 66 = .ok (.ishr, 1) := by decide +kernel
theorem dX5_sparedWithout_67 : decode cX5_sparedWithout 67 = .ok (.isub, 1) := by decide +kernel
theorem dX5_sparedWithout_68 : decode cX5_sparedWithout 68 = .ok (.ireturn, 1) := by decide +kernel
theorem dX5_bestOf_0 : decode cX5_bestOf 0 = .ok (.ldc 68, 2) := by decide +kernel
theorem dX5_bestOf_2 : decode cX5_bestOf 2 = .ok (.istore_n 2, 1) := by decide +kernel
theorem dX5_bestOf_3 : decode cX5_bestOf 3 = .ok (.iconst 0, 1) := by decide +kernel
theorem dX5_bestOf_4 : decode cX5_bestOf 4 = .ok (.istore_n 3, 1) := by decide +kernel
theorem dX5_bestOf_5 : decode cX5_bestOf 5 = .ok (.iload_n 3, 1) := by decide +kernel
theorem dX5_bestOf_6 : decode cX5_bestOf 6 = .ok (.sipush 2187, 3) := by decide +kernel
theorem dX5_bestOf_9 : decode cX5_bestOf 9 = .ok (.if_icmp .ge 21, 3) := by decide +kernel
theorem dX5_bestOf_12 : decode cX5_bestOf 12 = .ok (.iload_n 2, 1) := by decide +kernel
theorem dX5_bestOf_13 : decode cX5_bestOf 13 = .ok (.aload_n 0, 1) := by decide +kernel
theorem dX5_bestOf_14 : decode cX5_bestOf 14 = .ok (.iload_n 3, 1) := by decide +kernel
theorem dX5_bestOf_15 : decode cX5_bestOf 15 = .ok (.iaload, 1) := by decide +kernel
theorem dX5_bestOf_16 : decode cX5_bestOf 16 = .ok (.aload_n 1, 1) := by decide +kernel
theorem dX5_bestOf_17 : decode cX5_bestOf 17 = .ok (.iload_n 3, 1) := by decide +kernel
theorem dX5_bestOf_18 : decode cX5_bestOf 18 = .ok (.iaload, 1) := by decide +kernel
theorem dX5_bestOf_19 : decode cX5_bestOf 19 = .ok (.iadd, 1) := by decide +kernel
theorem dX5_bestOf_20 : decode cX5_bestOf 20 = .ok (.invokestatic 151, 3) := by decide +kernel
theorem dX5_bestOf_23 : decode cX5_bestOf 23 = .ok (.istore_n 2, 1) := by decide +kernel
theorem dX5_bestOf_24 : decode cX5_bestOf 24 = .ok (.iinc 3 1, 3) := by decide +kernel
theorem dX5_bestOf_27 : decode cX5_bestOf 27 = .ok (.goto (-22), 3) := by decide +kernel
theorem dX5_bestOf_30 : decode cX5_bestOf 30 = .ok (.iload_n 2, 1) := by decide +kernel
theorem dX5_bestOf_31 : decode cX5_bestOf 31 = .ok (.ireturn, 1) := by decide +kernel
theorem dX5_better_0 : decode cX5_better 0 = .ok (.iload_n 0, 1) := by decide +kernel
theorem dX5_better_1 : decode cX5_better 1 = .ok (.iload_n 1, 1) := by decide +kernel
theorem dX5_better_2 : decode cX5_better 2 = .ok (.ixor, 1) := by decide +kernel
theorem dX5_better_3 : decode cX5_better 3 = .ok (.ldc 154, 2) := by decide +kernel
theorem dX5_better_5 : decode cX5_better 5 = .ok (.if_icmp .ge 7, 3) := by decide +kernel
theorem dX5_better_8 : decode cX5_better 8 = .ok (.iconst 1, 1) := by decide +kernel
theorem dX5_better_9 : decode cX5_better 9 = .ok (.goto 4, 3) := by decide +kernel
theorem dX5_better_12 : decode cX5_better 12 = .ok (.iconst 0, 1) := by decide +kernel
theorem dX5_better_13 : decode cX5_better 13 = .ok (.istore_n 2, 1) := by decide +kernel
theorem dX5_better_14 : decode cX5_better 14 = .ok (.iload_n 2, 1) := by decide +kernel
theorem dX5_better_15 : decode cX5_better 15 = .ok (.ifCond .ne 14, 3) := by decide +kernel
theorem dX5_better_18 : decode cX5_better 18 = .ok (.iload_n 0, 1) := by decide +kernel
theorem dX5_better_19 : decode cX5_better 19 = .ok (.iload_n 1, 1) := by decide +kernel
theorem dX5_better_20 : decode cX5_better 20 = .ok (.if_icmp .ge 7, 3) := by decide +kernel
theorem dX5_better_23 : decode cX5_better 23 = .ok (.iload_n 0, 1) := by decide +kernel
theorem dX5_better_24 : decode cX5_better 24 = .ok (.goto 4, 3) := by decide +kernel
theorem dX5_better_27 : decode cX5_better 27 = .ok (.iload_n 1, 1) := by decide +kernel
theorem dX5_better_28 : decode cX5_better 28 = .ok (.ireturn, 1) := by decide +kernel
theorem dX5_better_29 : decode cX5_better 29 = .ok (.iload_n 0, 1) := by decide +kernel
theorem dX5_better_30 : decode cX5_better 30 = .ok (.ldc 124, 2) := by decide +kernel
theorem dX5_better_32 : decode cX5_better 32 = .ok (.iand, 1) := by decide +kernel
theorem dX5_better_33 : decode cX5_better 33 = .ok (.iload_n 1, 1) := by decide +kernel
theorem dX5_better_34 : decode cX5_better 34 = .ok (.ldc 124, 2) := by decide +kernel
theorem dX5_better_36 : decode cX5_better 36 = .ok (.iand, 1) := by decide +kernel
theorem dX5_better_37 : decode cX5_better 37 = .ok (.iadd, 1) := by decide +kernel
theorem dX5_better_38 : decode cX5_better 38 = .ok (.istore_n 3, 1) := by decide +kernel
theorem dX5_better_39 : decode cX5_better 39 = .ok (.iload_n 0, 1) := by decide +kernel
theorem dX5_better_40 : decode cX5_better 40 = .ok (.ldc 155, 2) := by decide +kernel
theorem dX5_better_42 : decode cX5_better 42 = .ok (.iand, 1) := by decide +kernel
theorem dX5_better_43 : decode cX5_better 43 = .ok (.iload_n 3, 1) := by decide +kernel
theorem dX5_better_44 : decode cX5_better 44 = .ok (.ldc 156, 2) := by decide +kernel
theorem dX5_better_46 : decode cX5_better 46 = .ok (.if_icmp .ge 7, 3) := by decide +kernel
theorem dX5_better_49 : decode cX5_better 49 = .ok (.iload_n 3, 1) := by decide +kernel
theorem dX5_better_50 : decode cX5_better 50 = .ok (.goto 5, 3) := by decide +kernel
theorem dX5_better_53 : decode cX5_better 53 = .ok (.ldc 156, 2) := by decide +kernel
theorem dX5_better_55 : decode cX5_better 55 = .ok (.iadd, 1) := by decide +kernel
theorem dX5_better_56 : decode cX5_better 56 = .ok (.ireturn, 1) := by decide +kernel
theorem dX5_isEven_0 : decode cX5_isEven 0 = .ok (.iconst 1, 1) := by decide +kernel
theorem dX5_isEven_1 : decode cX5_isEven 1 = .ok (.istore_n 1, 1) := by decide +kernel
theorem dX5_isEven_2 : decode cX5_isEven 2 = .ok (.iload_n 1, 1) := by decide +kernel
theorem dX5_isEven_3 : decode cX5_isEven 3 = .ok (.sipush 2187, 3) := by decide +kernel
theorem dX5_isEven_6 : decode cX5_isEven 6 = .ok (.if_icmp .ge 26, 3) := by decide +kernel
theorem dX5_isEven_9 : decode cX5_isEven 9 = .ok (.aload_n 0, 1) := by decide +kernel
theorem dX5_isEven_10 : decode cX5_isEven 10 = .ok (.iload_n 1, 1) := by decide +kernel
theorem dX5_isEven_11 : decode cX5_isEven 11 = .ok (.iaload, 1) := by decide +kernel
theorem dX5_isEven_12 : decode cX5_isEven 12 = .ok (.bipush 20, 2) := by decide +kernel
theorem dX5_isEven_14 : decode cX5_isEven 14 = .ok (.ishr, 1) := by decide +kernel
theorem dX5_isEven_15 : decode cX5_isEven 15 = .ok (.aload_n 0, 1) := by decide +kernel
theorem dX5_isEven_16 : decode cX5_isEven 16 = .ok (.iconst 0, 1) := by decide +kernel
theorem dX5_isEven_17 : decode cX5_isEven 17 = .ok (.iaload, 1) := by decide +kernel
theorem dX5_isEven_18 : decode cX5_isEven 18 = .ok (.bipush 20, 2) := by decide +kernel
theorem dX5_isEven_20 : decode cX5_isEven 20 = .ok (.ishr, 1) := by decide +kernel
theorem dX5_isEven_21 : decode cX5_isEven 21 = .ok (.if_icmp .eq 5, 3) := by decide +kernel
theorem dX5_isEven_24 : decode cX5_isEven 24 = .ok (.iconst 0, 1) := by decide +kernel
theorem dX5_isEven_25 : decode cX5_isEven 25 = .ok (.ireturn, 1) := by decide +kernel
theorem dX5_isEven_26 : decode cX5_isEven 26 = .ok (.iinc 1 1, 3) := by decide +kernel
theorem dX5_isEven_29 : decode cX5_isEven 29 = .ok (.goto (-27), 3) := by decide +kernel
theorem dX5_isEven_32 : decode cX5_isEven 32 = .ok (.iconst 1, 1) := by decide +kernel
theorem dX5_isEven_33 : decode cX5_isEven 33 = .ok (.ireturn, 1) := by decide +kernel
theorem dX5_fillOnward_0 : decode cX5_fillOnward 0 = .ok (.iload_n 1, 1) := by decide +kernel
theorem dX5_fillOnward_1 : decode cX5_fillOnward 1 = .ok (.aload_n 0, 1) := by decide +kernel
theorem dX5_fillOnward_2 : decode cX5_fillOnward 2 = .ok (.getfield 15, 3) := by decide +kernel
theorem dX5_fillOnward_5 : decode cX5_fillOnward 5 = .ok (.getfield 93, 3) := by decide +kernel
theorem dX5_fillOnward_8 : decode cX5_fillOnward 8 = .ok (.iconst 1, 1) := by decide +kernel
theorem dX5_fillOnward_9 : decode cX5_fillOnward 9 = .ok (.isub, 1) := by decide +kernel
theorem dX5_fillOnward_10 : decode cX5_fillOnward 10 = .ok (.if_icmp .lt 11, 3) := by decide +kernel
theorem dX5_fillOnward_13 : decode cX5_fillOnward 13 = .ok (.aload_n 2, 1) := by decide +kernel
theorem dX5_fillOnward_14 : decode cX5_fillOnward 14 = .ok (.iconst 1, 1) := by decide +kernel
theorem dX5_fillOnward_15 : decode cX5_fillOnward 15 = .ok (.invokestatic 157, 3) := by decide +kernel
theorem dX5_fillOnward_18 : decode cX5_fillOnward 18 = .ok (.goto 87, 3) := by decide +kernel
theorem dX5_fillOnward_21 : decode cX5_fillOnward 21 = .ok (.aload_n 0, 1) := by decide +kernel
theorem dX5_fillOnward_22 : decode cX5_fillOnward 22 = .ok (.getfield 31, 3) := by decide +kernel
theorem dX5_fillOnward_25 : decode cX5_fillOnward 25 = .ok (.iload_n 1, 1) := by decide +kernel
theorem dX5_fillOnward_26 : decode cX5_fillOnward 26 = .ok (.iconst 1, 1) := by decide +kernel
theorem dX5_fillOnward_27 : decode cX5_fillOnward 27 = .ok (.iadd, 1) := by decide +kernel
theorem dX5_fillOnward_28 : decode cX5_fillOnward 28 = .ok (.baload, 1) := by decide +kernel
theorem dX5_fillOnward_29 : decode cX5_fillOnward 29 = .ok (.ifCond .eq 23, 3) := by decide +kernel
theorem dX5_fillOnward_32 : decode cX5_fillOnward 32 = .ok (.aload_n 0, 1) := by decide +kernel
theorem dX5_fillOnward_33 : decode cX5_fillOnward 33 = .ok (.getfield 28, 3) := by decide +kernel
theorem dX5_fillOnward_36 : decode cX5_fillOnward 36 = .ok (.iload_n 1, 1) := by decide +kernel
theorem dX5_fillOnward_37 : decode cX5_fillOnward 37 = .ok (.iconst 1, 1) := by decide +kernel
theorem dX5_fillOnward_38 : decode cX5_fillOnward 38 = .ok (.iadd, 1) := by decide +kernel
theorem dX5_fillOnward_39 : decode cX5_fillOnward 39 = .ok (.aaload, 1) := by decide +kernel
theorem dX5_fillOnward_40 : decode cX5_fillOnward 40 = .ok (.iconst 0, 1) := by decide +kernel
theorem dX5_fillOnward_41 : decode cX5_fillOnward 41 = .ok (.aload_n 2, 1) := by decide +kernel
theorem dX5_fillOnward_42 : decode cX5_fillOnward 42 = .ok (.iconst 0, 1) := by decide +kernel
theorem dX5_fillOnward_43 : decode cX5_fillOnward 43 = .ok (.sipush 2187, 3) := by decide +kernel
theorem dX5_fillOnward_46 : decode cX5_fillOnward 46 = .ok (.invokestatic 163, 3) := by decide +kernel
theorem dX5_fillOnward_49 : decode cX5_fillOnward 49 = .ok (.goto 56, 3) := by decide +kernel
theorem dX5_fillOnward_52 : decode cX5_fillOnward 52 = .ok (.aload_n 0, 1) := by decide +kernel
theorem dX5_fillOnward_53 : decode cX5_fillOnward 53 = .ok (.getfield 22, 3) := by decide +kernel
theorem dX5_fillOnward_56 : decode cX5_fillOnward 56 = .ok (.invokevirtual 169, 3) := by decide +kernel
theorem dX5_fillOnward_59 : decode cX5_fillOnward 59 = .ok (.ifCond .eq 33, 3) := by decide +kernel
theorem dX5_fillOnward_62 : decode cX5_fillOnward 62 = .ok (.aload_n 0, 1) := by decide +kernel
theorem dX5_fillOnward_63 : decode cX5_fillOnward 63 = .ok (.getfield 28, 3) := by decide +kernel
theorem dX5_fillOnward_66 : decode cX5_fillOnward 66 = .ok (.iload_n 1, 1) := by decide +kernel
theorem dX5_fillOnward_67 : decode cX5_fillOnward 67 = .ok (.iconst 1, 1) := by decide +kernel
theorem dX5_fillOnward_68 : decode cX5_fillOnward 68 = .ok (.iadd, 1) := by decide +kernel
theorem dX5_fillOnward_69 : decode cX5_fillOnward 69 = .ok (.aaload, 1) := by decide +kernel
theorem dX5_fillOnward_70 : decode cX5_fillOnward 70 = .ok (.bipush 60, 2) := by decide +kernel
theorem dX5_fillOnward_72 : decode cX5_fillOnward 72 = .ok (.aload_n 0, 1) := by decide +kernel
theorem dX5_fillOnward_73 : decode cX5_fillOnward 73 = .ok (.getfield 45, 3) := by decide +kernel
theorem dX5_fillOnward_76 : decode cX5_fillOnward 76 = .ok (.invokestatic 173, 3) := by decide +kernel
theorem dX5_fillOnward_79 : decode cX5_fillOnward 79 = .ok (.aload_n 0, 1) := by decide +kernel
theorem dX5_fillOnward_80 : decode cX5_fillOnward 80 = .ok (.getfield 45, 3) := by decide +kernel
theorem dX5_fillOnward_83 : decode cX5_fillOnward 83 = .ok (.bipush 67, 2) := by decide +kernel
theorem dX5_fillOnward_85 : decode cX5_fillOnward 85 = .ok (.aload_n 2, 1) := by decide +kernel
theorem dX5_fillOnward_86 : decode cX5_fillOnward 86 = .ok (.invokestatic 173, 3) := by decide +kernel
theorem dX5_fillOnward_89 : decode cX5_fillOnward 89 = .ok (.goto 16, 3) := by decide +kernel
theorem dX5_fillOnward_92 : decode cX5_fillOnward 92 = .ok (.aload_n 0, 1) := by decide +kernel
theorem dX5_fillOnward_93 : decode cX5_fillOnward 93 = .ok (.aload_n 0, 1) := by decide +kernel
theorem dX5_fillOnward_94 : decode cX5_fillOnward 94 = .ok (.getfield 28, 3) := by decide +kernel
theorem dX5_fillOnward_97 : decode cX5_fillOnward 97 = .ok (.iload_n 1, 1) := by decide +kernel
theorem dX5_fillOnward_98 : decode cX5_fillOnward 98 = .ok (.iconst 1, 1) := by decide +kernel
theorem dX5_fillOnward_99 : decode cX5_fillOnward 99 = .ok (.iadd, 1) := by decide +kernel
theorem dX5_fillOnward_100 : decode cX5_fillOnward 100 = .ok (.aaload, 1) := by decide +kernel
theorem dX5_fillOnward_101 : decode cX5_fillOnward 101 = .ok (.aload_n 2, 1) := by decide +kernel
theorem dX5_fillOnward_102 : decode cX5_fillOnward 102 = .ok (.invokevirtual 177, 3) := by decide +kernel
theorem dX5_fillOnward_105 : decode cX5_fillOnward 105 = .ok (.aload_n 0, 1) := by decide +kernel
theorem dX5_fillOnward_106 : decode cX5_fillOnward 106 = .ok (.aload_n 2, 1) := by decide +kernel
theorem dX5_fillOnward_107 : decode cX5_fillOnward 107 = .ok (.invokevirtual 181, 3) := by decide +kernel
theorem dX5_fillOnward_110 : decode cX5_fillOnward 110 = .ok (.return_, 1) := by decide +kernel
theorem dX5_dropUnfit_0 : decode cX5_dropUnfit 0 = .ok (.iconst 0, 1) := by decide +kernel
theorem dX5_dropUnfit_1 : decode cX5_dropUnfit 1 = .ok (.istore_n 2, 1) := by decide +kernel
theorem dX5_dropUnfit_2 : decode cX5_dropUnfit 2 = .ok (.iload_n 2, 1) := by decide +kernel
theorem dX5_dropUnfit_3 : decode cX5_dropUnfit 3 = .ok (.sipush 2187, 3) := by decide +kernel
theorem dX5_dropUnfit_6 : decode cX5_dropUnfit 6 = .ok (.if_icmp .ge 41, 3) := by decide +kernel
theorem dX5_dropUnfit_9 : decode cX5_dropUnfit 9 = .ok (.aload_n 1, 1) := by decide +kernel
theorem dX5_dropUnfit_10 : decode cX5_dropUnfit 10 = .ok (.iload_n 2, 1) := by decide +kernel
theorem dX5_dropUnfit_11 : decode cX5_dropUnfit 11 = .ok (.iaload, 1) := by decide +kernel
theorem dX5_dropUnfit_12 : decode cX5_dropUnfit 12 = .ok (.ldc 68, 2) := by decide +kernel
theorem dX5_dropUnfit_14 : decode cX5_dropUnfit 14 = .ok (.if_icmp .ge 27, 3) := by decide +kernel
theorem dX5_dropUnfit_17 : decode cX5_dropUnfit 17 = .ok (.aload_n 0, 1) := by decide +kernel
theorem dX5_dropUnfit_18 : decode cX5_dropUnfit 18 = .ok (.getfield 22, 3) := by decide +kernel
theorem dX5_dropUnfit_21 : decode cX5_dropUnfit 21 = .ok (.aload_n 0, 1) := by decide +kernel
theorem dX5_dropUnfit_22 : decode cX5_dropUnfit 22 = .ok (.getfield 11, 3) := by decide +kernel
theorem dX5_dropUnfit_25 : decode cX5_dropUnfit 25 = .ok (.getfield 125, 3) := by decide +kernel
theorem dX5_dropUnfit_28 : decode cX5_dropUnfit 28 = .ok (.iload_n 2, 1) := by decide +kernel
theorem dX5_dropUnfit_29 : decode cX5_dropUnfit 29 = .ok (.iaload, 1) := by decide +kernel
theorem dX5_dropUnfit_30 : decode cX5_dropUnfit 30 = .ok (.invokevirtual 141, 3) := by decide +kernel
theorem dX5_dropUnfit_33 : decode cX5_dropUnfit 33 = .ok (.ifCond .ge 8, 3) := by decide +kernel
theorem dX5_dropUnfit_36 : decode cX5_dropUnfit 36 = .ok (.aload_n 1, 1) := by decide +kernel
theorem dX5_dropUnfit_37 : decode cX5_dropUnfit 37 = .ok (.iload_n 2, 1) := by decide +kernel
theorem dX5_dropUnfit_38 : decode cX5_dropUnfit 38 = .ok (.ldc 68, 2) := by decide +kernel
theorem dX5_dropUnfit_40 : decode cX5_dropUnfit 40 = .ok (.iastore, 1) := by decide +kernel
theorem dX5_dropUnfit_41 : decode cX5_dropUnfit 41 = .ok (.iinc 2 1, 3) := by decide +kernel
theorem dX5_dropUnfit_44 : decode cX5_dropUnfit 44 = .ok (.goto (-42), 3) := by decide +kernel
theorem dX5_dropUnfit_47 : decode cX5_dropUnfit 47 = .ok (.return_, 1) := by decide +kernel
theorem dX5_spread_0 : decode cX5_spread 0 = .ok (.aload_n 0, 1) := by decide +kernel
theorem dX5_spread_1 : decode cX5_spread 1 = .ok (.iconst 0, 1) := by decide +kernel
theorem dX5_spread_2 : decode cX5_spread 2 = .ok (.aload_n 2, 1) := by decide +kernel
theorem dX5_spread_3 : decode cX5_spread 3 = .ok (.iconst 0, 1) := by decide +kernel
theorem dX5_spread_4 : decode cX5_spread 4 = .ok (.sipush 2187, 3) := by decide +kernel
theorem dX5_spread_7 : decode cX5_spread 7 = .ok (.invokestatic 163, 3) := by decide +kernel
theorem dX5_spread_10 : decode cX5_spread 10 = .ok (.iconst 0, 1) := by decide +kernel
theorem dX5_spread_11 : decode cX5_spread 11 = .ok (.istore_n 3, 1) := by decide +kernel
theorem dX5_spread_12 : decode cX5_spread 12 = .ok (.iload_n 3, 1) := by decide +kernel
theorem dX5_spread_13 : decode cX5_spread 13 = .ok (.bipush 7, 2) := by decide +kernel
theorem dX5_spread_15 : decode cX5_spread 15 = .ok (.if_icmp .ge 27, 3) := by decide +kernel
theorem dX5_spread_18 : decode cX5_spread 18 = .ok (.iload_n 1, 1) := by decide +kernel
theorem dX5_spread_19 : decode cX5_spread 19 = .ok (.iload_n 3, 1) := by decide +kernel
theorem dX5_spread_20 : decode cX5_spread 20 = .ok (.ishr, 1) := by decide +kernel
theorem dX5_spread_21 : decode cX5_spread 21 = .ok (.iconst 1, 1) := by decide +kernel
theorem dX5_spread_22 : decode cX5_spread 22 = .ok (.iand, 1) := by decide +kernel
theorem dX5_spread_23 : decode cX5_spread 23 = .ok (.ifCond .eq 13, 3) := by decide +kernel
theorem dX5_spread_26 : decode cX5_spread 26 = .ok (.aload_n 0, 1) := by decide +kernel
theorem dX5_spread_27 : decode cX5_spread 27 = .ok (.getstatic 185, 3) := by decide +kernel
theorem dX5_spread_30 : decode cX5_spread 30 = .ok (.iload_n 3, 1) := by decide +kernel
theorem dX5_spread_31 : decode cX5_spread 31 = .ok (.iaload, 1) := by decide +kernel
theorem dX5_spread_32 : decode cX5_spread 32 = .ok (.aload_n 2, 1) := by decide +kernel
theorem dX5_spread_33 : decode cX5_spread 33 = .ok (.invokestatic 188, 3) := by decide +kernel
theorem dX5_spread_36 : decode cX5_spread 36 = .ok (.iinc 3 1, 3) := by decide +kernel
theorem dX5_spread_39 : decode cX5_spread 39 = .ok (.goto (-27), 3) := by decide +kernel
theorem dX5_spread_42 : decode cX5_spread 42 = .ok (.return_, 1) := by decide +kernel
theorem dX5_spreadPedal_0 : decode cX5_spreadPedal 0 = .ok (.iconst 0, 1) := by decide +kernel
theorem dX5_spreadPedal_1 : decode cX5_spreadPedal 1 = .ok (.istore_n 3, 1) := by decide +kernel
theorem dX5_spreadPedal_2 : decode cX5_spreadPedal 2 = .ok (.iload_n 3, 1) := by decide +kernel
theorem dX5_spreadPedal_3 : decode cX5_spreadPedal 3 = .ok (.sipush 2187, 3) := by decide +kernel
theorem dX5_spreadPedal_6 : decode cX5_spreadPedal 6 = .ok (.if_icmp .ge 110, 3) := by decide +kernel
theorem dX5_spreadPedal_9 : decode cX5_spreadPedal 9 = .ok (.iload_n 3, 1) := by decide +kernel
theorem dX5_spreadPedal_10 : decode cX5_spreadPedal 10 = .ok (.istore 4, 2) := by decide +kernel
theorem dX5_spreadPedal_12 : decode cX5_spreadPedal 12 = .ok (.iload 4, 2) := by decide +kernel
theorem dX5_spreadPedal_14 : decode cX5_spreadPedal 14 = .ok (.iload_n 3, 1) := by decide +kernel
theorem dX5_spreadPedal_15 : decode cX5_spreadPedal 15 = .ok (.iload_n 1, 1) := by decide +kernel
theorem dX5_spreadPedal_16 : decode cX5_spreadPedal 16 = .ok (.iadd, 1) := by decide +kernel
theorem dX5_spreadPedal_17 : decode cX5_spreadPedal 17 = .ok (.if_icmp .ge 90, 3) := by decide +kernel
theorem dX5_spreadPedal_20 : decode cX5_spreadPedal 20 = .ok (.iload 4, 2) := by decide +kernel
theorem dX5_spreadPedal_22 : decode cX5_spreadPedal 22 = .ok (.iload_n 1, 1) := by decide +kernel
theorem dX5_spreadPedal_23 : decode cX5_spreadPedal 23 = .ok (.iadd, 1) := by decide +kernel
theorem dX5_spreadPedal_24 : decode cX5_spreadPedal 24 = .ok (.istore 5, 2) := by decide +kernel
theorem dX5_spreadPedal_26 : decode cX5_spreadPedal 26 = .ok (.iload 5, 2) := by decide +kernel
theorem dX5_spreadPedal_28 : decode cX5_spreadPedal 28 = .ok (.iload_n 1, 1) := by decide +kernel
theorem dX5_spreadPedal_29 : decode cX5_spreadPedal 29 = .ok (.iadd, 1) := by decide +kernel
theorem dX5_spreadPedal_30 : decode cX5_spreadPedal 30 = .ok (.istore 6, 2) := by decide +kernel
theorem dX5_spreadPedal_32 : decode cX5_spreadPedal 32 = .ok (.aload_n 0, 1) := by decide +kernel
theorem dX5_spreadPedal_33 : decode cX5_spreadPedal 33 = .ok (.iload 4, 2) := by decide +kernel
theorem dX5_spreadPedal_35 : decode cX5_spreadPedal 35 = .ok (.iaload, 1) := by decide +kernel
theorem dX5_spreadPedal_36 : decode cX5_spreadPedal 36 = .ok (.aload_n 0, 1) := by decide +kernel
theorem dX5_spreadPedal_37 : decode cX5_spreadPedal 37 = .ok (.iload 5, 2) := by decide +kernel
theorem dX5_spreadPedal_39 : decode cX5_spreadPedal 39 = .ok (.iaload, 1) := by decide +kernel
theorem dX5_spreadPedal_40 : decode cX5_spreadPedal 40 = .ok (.invokestatic 151, 3) := by decide +kernel
theorem dX5_spreadPedal_43 : decode cX5_spreadPedal 43 = .ok (.aload_n 0, 1) := by decide +kernel
theorem dX5_spreadPedal_44 : decode cX5_spreadPedal 44 = .ok (.iload 6, 2) := by decide +kernel
theorem dX5_spreadPedal_46 : decode cX5_spreadPedal 46 = .ok (.iaload, 1) := by decide +kernel
theorem dX5_spreadPedal_47 : decode cX5_spreadPedal 47 = .ok (.invokestatic 151, 3) := by decide +kernel
theorem dX5_spreadPedal_50 : decode cX5_spreadPedal 50 = .ok (.ldc 154, 2) := by decide +kernel
theorem dX5_spreadPedal_52 : decode cX5_spreadPedal 52 = .ok (.iadd, 1) := by decide +kernel
theorem dX5_spreadPedal_53 : decode cX5_spreadPedal 53 = .ok (.istore 7, 2) := by decide +kernel
theorem dX5_spreadPedal_55 : decode cX5_spreadPedal 55 = .ok (.iload 7, 2) := by decide +kernel
theorem dX5_spreadPedal_57 : decode cX5_spreadPedal 57 = .ok (.ldc 68, 2) := by decide +kernel
theorem dX5_spreadPedal_59 : decode cX5_spreadPedal 59 = .ok (.if_icmp .ge 42, 3) := by decide +kernel
theorem dX5_spreadPedal_62 : decode cX5_spreadPedal 62 = .ok (.aload_n 2, 1) := by decide +kernel
theorem dX5_spreadPedal_63 : decode cX5_spreadPedal 63 = .ok (.iload 4, 2) := by decide +kernel
theorem dX5_spreadPedal_65 : decode cX5_spreadPedal 65 = .ok (.aload_n 2, 1) := by decide +kernel
theorem dX5_spreadPedal_66 : decode cX5_spreadPedal 66 = .ok (.iload 4, 2) := by decide +kernel
theorem dX5_spreadPedal_68 : decode cX5_spreadPedal 68 = .ok (.iaload, 1) := by decide +kernel
theorem dX5_spreadPedal_69 : decode cX5_spreadPedal 69 = .ok (.iload 7, 2) := by decide +kernel
theorem dX5_spreadPedal_71 : decode cX5_spreadPedal 71 = .ok (.invokestatic 151, 3) := by decide +kernel
theorem dX5_spreadPedal_74 : decode cX5_spreadPedal 74 = .ok (.iastore, 1) := by decide +kernel
theorem dX5_spreadPedal_75 : decode cX5_spreadPedal 75 = .ok (.aload_n 2, 1) := by decide +kernel
theorem dX5_spreadPedal_76 : decode cX5_spreadPedal 76 = .ok (.iload 5, 2) := by decide +kernel
theorem dX5_spreadPedal_78 : decode cX5_spreadPedal 78 = .ok (.aload_n 2, 1) := by decide +kernel
theorem dX5_spreadPedal_79 : decode cX5_spreadPedal 79 = .ok (.iload 5, 2) := by decide +kernel
theorem dX5_spreadPedal_81 : decode cX5_spreadPedal 81 = .ok (.iaload, 1) := by decide +kernel
theorem dX5_spreadPedal_82 : decode cX5_spreadPedal 82 = .ok (.iload 7, 2) := by decide +kernel
theorem dX5_spreadPedal_84 : decode cX5_spreadPedal 84 = .ok (.invokestatic 151, 3) := by decide +kernel
theorem dX5_spreadPedal_87 : decode cX5_spreadPedal 87 = .ok (.iastore, 1) := by decide +kernel
theorem dX5_spreadPedal_88 : decode cX5_spreadPedal 88 = .ok (.aload_n 2, 1) := by decide +kernel
theorem dX5_spreadPedal_89 : decode cX5_spreadPedal 89 = .ok (.iload 6, 2) := by decide +kernel
theorem dX5_spreadPedal_91 : decode cX5_spreadPedal 91 = .ok (.aload_n 2, 1) := by decide +kernel
theorem dX5_spreadPedal_92 : decode cX5_spreadPedal 92 = .ok (.iload 6, 2) := by decide +kernel
theorem dX5_spreadPedal_94 : decode cX5_spreadPedal 94 = .ok (.iaload, 1) := by decide +kernel
theorem dX5_spreadPedal_95 : decode cX5_spreadPedal 95 = .ok (.iload 7, 2) := by decide +kernel
theorem dX5_spreadPedal_97 : decode cX5_spreadPedal 97 = .ok (.invokestatic 151, 3) := by decide +kernel
theorem dX5_spreadPedal_100 : decode cX5_spreadPedal 100 = .ok (.iastore, 1) := by decide +kernel
theorem dX5_spreadPedal_101 : decode cX5_spreadPedal 101 = .ok (.iinc 4 1, 3) := by decide +kernel
theorem dX5_spreadPedal_104 : decode cX5_spreadPedal 104 = .ok (.goto (-92), 3) := by decide +kernel
theorem dX5_spreadPedal_107 : decode cX5_spreadPedal 107 = .ok (.iload_n 3, 1) := by decide +kernel
theorem dX5_spreadPedal_108 : decode cX5_spreadPedal 108 = .ok (.iconst 3, 1) := by decide +kernel
theorem dX5_spreadPedal_109 : decode cX5_spreadPedal 109 = .ok (.iload_n 1, 1) := by decide +kernel
theorem dX5_spreadPedal_110 : decode cX5_spreadPedal 110 = .ok (.imul, 1) := by decide +kernel
theorem dX5_spreadPedal_111 : decode cX5_spreadPedal 111 = .ok (.iadd, 1) := by decide +kernel
theorem dX5_spreadPedal_112 : decode cX5_spreadPedal 112 = .ok (.istore_n 3, 1) := by decide +kernel
theorem dX5_spreadPedal_113 : decode cX5_spreadPedal 113 = .ok (.goto (-111), 3) := by decide +kernel
theorem dX5_spreadPedal_116 : decode cX5_spreadPedal 116 = .ok (.return_, 1) := by decide +kernel
theorem dX5_fillLockedOnward_0 : decode cX5_fillLockedOnward 0 = .ok (.aload_n 1, 1) := by decide +kernel
theorem dX5_fillLockedOnward_1 : decode cX5_fillLockedOnward 1 = .ok (.bipush 67, 2) := by decide +kernel
theorem dX5_fillLockedOnward_3 : decode cX5_fillLockedOnward 3 = .ok (.aload_n 0, 1) := by decide +kernel
theorem dX5_fillLockedOnward_4 : decode cX5_fillLockedOnward 4 = .ok (.getfield 42, 3) := by decide +kernel
theorem dX5_fillLockedOnward_7 : decode cX5_fillLockedOnward 7 = .ok (.invokestatic 173, 3) := by decide +kernel
theorem dX5_fillLockedOnward_10 : decode cX5_fillLockedOnward 10 = .ok (.aload_n 1, 1) := by decide +kernel
theorem dX5_fillLockedOnward_11 : decode cX5_fillLockedOnward 11 = .ok (.bipush 60, 2) := by decide +kernel
theorem dX5_fillLockedOnward_13 : decode cX5_fillLockedOnward 13 = .ok (.aload_n 0, 1) := by decide +kernel
theorem dX5_fillLockedOnward_14 : decode cX5_fillLockedOnward 14 = .ok (.getfield 45, 3) := by decide +kernel
theorem dX5_fillLockedOnward_17 : decode cX5_fillLockedOnward 17 = .ok (.invokestatic 173, 3) := by decide +kernel
theorem dX5_fillLockedOnward_20 : decode cX5_fillLockedOnward 20 = .ok (.iconst 0, 1) := by decide +kernel
theorem dX5_fillLockedOnward_21 : decode cX5_fillLockedOnward 21 = .ok (.istore_n 3, 1) := by decide +kernel
theorem dX5_fillLockedOnward_22 : decode cX5_fillLockedOnward 22 = .ok (.iload_n 3, 1) := by decide +kernel
theorem dX5_fillLockedOnward_23 : decode cX5_fillLockedOnward 23 = .ok (.sipush 2187, 3) := by decide +kernel
theorem dX5_fillLockedOnward_26 : decode cX5_fillLockedOnward 26 = .ok (.if_icmp .ge 111, 3) := by decide +kernel
theorem dX5_fillLockedOnward_29 : decode cX5_fillLockedOnward 29 = .ok (.aload_n 0, 1) := by decide +kernel
theorem dX5_fillLockedOnward_30 : decode cX5_fillLockedOnward 30 = .ok (.getfield 22, 3) := by decide +kernel
theorem dX5_fillLockedOnward_33 : decode cX5_fillLockedOnward 33 = .ok (.aload_n 0, 1) := by decide +kernel
theorem dX5_fillLockedOnward_34 : decode cX5_fillLockedOnward 34 = .ok (.getfield 11, 3) := by decide +kernel
theorem dX5_fillLockedOnward_37 : decode cX5_fillLockedOnward 37 = .ok (.getfield 125, 3) := by decide +kernel
theorem dX5_fillLockedOnward_40 : decode cX5_fillLockedOnward 40 = .ok (.iload_n 3, 1) := by decide +kernel
theorem dX5_fillLockedOnward_41 : decode cX5_fillLockedOnward 41 = .ok (.iaload, 1) := by decide +kernel
theorem dX5_fillLockedOnward_42 : decode cX5_fillLockedOnward 42 = .ok (.invokevirtual 141, 3) := by decide +kernel
theorem dX5_fillLockedOnward_45 : decode cX5_fillLockedOnward 45 = .ok (.istore 4, 2) := by decide +kernel
theorem dX5_fillLockedOnward_47 : decode cX5_fillLockedOnward 47 = .ok (.iload 4, 2) := by decide +kernel
theorem dX5_fillLockedOnward_49 : decode cX5_fillLockedOnward 49 = .ok (.ifCond .ge 11, 3) := by decide +kernel
theorem dX5_fillLockedOnward_52 : decode cX5_fillLockedOnward 52 = .ok (.aload_n 2, 1) := by decide +kernel
theorem dX5_fillLockedOnward_53 : decode cX5_fillLockedOnward 53 = .ok (.iload_n 3, 1) := by decide +kernel
theorem dX5_fillLockedOnward_54 : decode cX5_fillLockedOnward 54 = .ok (.ldc 68, 2) := by decide +kernel
theorem dX5_fillLockedOnward_56 : decode cX5_fillLockedOnward 56 = .ok (.iastore, 1) := by decide +kernel
theorem dX5_fillLockedOnward_57 : decode cX5_fillLockedOnward 57 = .ok (.goto 74, 3) := by decide +kernel
theorem dX5_fillLockedOnward_60 : decode cX5_fillLockedOnward 60 = .ok (.iload 4, 2) := by decide +kernel
theorem dX5_fillLockedOnward_62 : decode cX5_fillLockedOnward 62 = .ok (.bipush 60, 2) := by decide +kernel
theorem dX5_fillLockedOnward_64 : decode cX5_fillLockedOnward 64 = .ok (.iand, 1) := by decide +kernel
theorem dX5_fillLockedOnward_65 : decode cX5_fillLockedOnward 65 = .ok (.ifCond .ne 25, 3) := by decide +kernel
theorem dX5_fillLockedOnward_68 : decode cX5_fillLockedOnward 68 = .ok (.aload_n 2, 1) := by decide +kernel
theorem dX5_fillLockedOnward_69 : decode cX5_fillLockedOnward 69 = .ok (.iload_n 3, 1) := by decide +kernel
theorem dX5_fillLockedOnward_70 : decode cX5_fillLockedOnward 70 = .ok (.aload_n 0, 1) := by decide +kernel
theorem dX5_fillLockedOnward_71 : decode cX5_fillLockedOnward 71 = .ok (.aload_n 0, 1) := by decide +kernel
theorem dX5_fillLockedOnward_72 : decode cX5_fillLockedOnward 72 = .ok (.getfield 45, 3) := by decide +kernel
theorem dX5_fillLockedOnward_75 : decode cX5_fillLockedOnward 75 = .ok (.iload_n 3, 1) := by decide +kernel
theorem dX5_fillLockedOnward_76 : decode cX5_fillLockedOnward 76 = .ok (.bipush 67, 2) := by decide +kernel
theorem dX5_fillLockedOnward_78 : decode cX5_fillLockedOnward 78 = .ok (.iload 4, 2) := by decide +kernel
theorem dX5_fillLockedOnward_80 : decode cX5_fillLockedOnward 80 = .ok (.iconst (-1), 1) := by decide +kernel
theorem dX5_fillLockedOnward_81 : decode cX5_fillLockedOnward 81 = .ok (.ixor, 1) := by decide +kernel
theorem dX5_fillLockedOnward_82 : decode cX5_fillLockedOnward 82 = .ok (.iand, 1) := by decide +kernel
theorem dX5_fillLockedOnward_83 : decode cX5_fillLockedOnward 83 = .ok (.invokevirtual 191, 3) := by decide +kernel
theorem dX5_fillLockedOnward_86 : decode cX5_fillLockedOnward 86 = .ok (.iastore, 1) := by decide +kernel
theorem dX5_fillLockedOnward_87 : decode cX5_fillLockedOnward 87 = .ok (.goto 44, 3) := by decide +kernel
theorem dX5_fillLockedOnward_90 : decode cX5_fillLockedOnward 90 = .ok (.iload 4, 2) := by decide +kernel
theorem dX5_fillLockedOnward_92 : decode cX5_fillLockedOnward 92 = .ok (.bipush 67, 2) := by decide +kernel
theorem dX5_fillLockedOnward_94 : decode cX5_fillLockedOnward 94 = .ok (.iand, 1) := by decide +kernel
theorem dX5_fillLockedOnward_95 : decode cX5_fillLockedOnward 95 = .ok (.ifCond .ne 25, 3) := by decide +kernel
theorem dX5_fillLockedOnward_98 : decode cX5_fillLockedOnward 98 = .ok (.aload_n 2, 1) := by decide +kernel
theorem dX5_fillLockedOnward_99 : decode cX5_fillLockedOnward 99 = .ok (.iload_n 3, 1) := by decide +kernel
theorem dX5_fillLockedOnward_100 : decode cX5_fillLockedOnward 100 = .ok (.aload_n 0, 1) := by decide +kernel
theorem dX5_fillLockedOnward_101 : decode cX5_fillLockedOnward 101 = .ok (.aload_n 0, 1) := by decide +kernel
theorem dX5_fillLockedOnward_102 : decode cX5_fillLockedOnward 102 = .ok (.getfield 42, 3) := by decide +kernel
theorem dX5_fillLockedOnward_105 : decode cX5_fillLockedOnward 105 = .ok (.iload_n 3, 1) := by decide +kernel
theorem dX5_fillLockedOnward_106 : decode cX5_fillLockedOnward 106 = .ok (.bipush 60, 2) := by decide +kernel
theorem dX5_fillLockedOnward_108 : decode cX5_fillLockedOnward 108 = .ok (.iload 4, 2) := by decide +kernel
theorem dX5_fillLockedOnward_110 : decode cX5_fillLockedOnward 110 = .ok (.iconst (-1), 1) := by decide +kernel
theorem dX5_fillLockedOnward_111 : decode cX5_fillLockedOnward 111 = .ok (.ixor, 1) := by decide +kernel
theorem dX5_fillLockedOnward_112 : decode cX5_fillLockedOnward 112 = .ok (.iand, 1) := by decide +kernel
theorem dX5_fillLockedOnward_113 : decode cX5_fillLockedOnward 113 = .ok (.invokevirtual 191, 3) := by decide +kernel
theorem dX5_fillLockedOnward_116 : decode cX5_fillLockedOnward 116 = .ok (.iastore, 1) := by decide +kernel
theorem dX5_fillLockedOnward_117 : decode cX5_fillLockedOnward 117 = .ok (.goto 14, 3) := by decide +kernel
theorem dX5_fillLockedOnward_120 : decode cX5_fillLockedOnward 120 = .ok (.aload_n 2, 1) := by decide +kernel
theorem dX5_fillLockedOnward_121 : decode cX5_fillLockedOnward 121 = .ok (.iload_n 3, 1) := by decide +kernel
theorem dX5_fillLockedOnward_122 : decode cX5_fillLockedOnward 122 = .ok (.aload_n 0, 1) := by decide +kernel
theorem dX5_fillLockedOnward_123 : decode cX5_fillLockedOnward 123 = .ok (.aload_n 1, 1) := by decide +kernel
theorem dX5_fillLockedOnward_124 : decode cX5_fillLockedOnward 124 = .ok (.iload_n 3, 1) := by decide +kernel
theorem dX5_fillLockedOnward_125 : decode cX5_fillLockedOnward 125 = .ok (.iload 4, 2) := by decide +kernel
theorem dX5_fillLockedOnward_127 : decode cX5_fillLockedOnward 127 = .ok (.invokevirtual 195, 3) := by decide +kernel
theorem dX5_fillLockedOnward_130 : decode cX5_fillLockedOnward 130 = .ok (.iastore, 1) := by decide +kernel
theorem dX5_fillLockedOnward_131 : decode cX5_fillLockedOnward 131 = .ok (.iinc 3 1, 3) := by decide +kernel
theorem dX5_fillLockedOnward_134 : decode cX5_fillLockedOnward 134 = .ok (.goto (-112), 3) := by decide +kernel
theorem dX5_fillLockedOnward_137 : decode cX5_fillLockedOnward 137 = .ok (.return_, 1) := by decide +kernel
theorem dX5_bestByBoth_0 : decode cX5_bestByBoth 0 = .ok (.aload_n 0, 1) := by decide +kernel
theorem dX5_bestByBoth_1 : decode cX5_bestByBoth 1 = .ok (.iload_n 2, 1) := by decide +kernel
theorem dX5_bestByBoth_2 : decode cX5_bestByBoth 2 = .ok (.bipush 67, 2) := by decide +kernel
theorem dX5_bestByBoth_4 : decode cX5_bestByBoth 4 = .ok (.iload_n 3, 1) := by decide +kernel
theorem dX5_bestByBoth_5 : decode cX5_bestByBoth 5 = .ok (.iconst (-1), 1) := by decide +kernel
theorem dX5_bestByBoth_6 : decode cX5_bestByBoth 6 = .ok (.ixor, 1) := by decide +kernel
theorem dX5_bestByBoth_7 : decode cX5_bestByBoth 7 = .ok (.iand, 1) := by decide +kernel
theorem dX5_bestByBoth_8 : decode cX5_bestByBoth 8 = .ok (.aload_n 0, 1) := by decide +kernel
theorem dX5_bestByBoth_9 : decode cX5_bestByBoth 9 = .ok (.getfield 48, 3) := by decide +kernel
theorem dX5_bestByBoth_12 : decode cX5_bestByBoth 12 = .ok (.invokevirtual 198, 3) := by decide +kernel
theorem dX5_bestByBoth_15 : decode cX5_bestByBoth 15 = .ok (.istore 4, 2) := by decide +kernel
theorem dX5_bestByBoth_17 : decode cX5_bestByBoth 17 = .ok (.aload_n 0, 1) := by decide +kernel
theorem dX5_bestByBoth_18 : decode cX5_bestByBoth 18 = .ok (.aload_n 1, 1) := by decide +kernel
theorem dX5_bestByBoth_19 : decode cX5_bestByBoth 19 = .ok (.iload_n 2, 1) := by decide +kernel
theorem dX5_bestByBoth_20 : decode cX5_bestByBoth 20 = .ok (.bipush 60, 2) := by decide +kernel
theorem dX5_bestByBoth_22 : decode cX5_bestByBoth 22 = .ok (.iload_n 3, 1) := by decide +kernel
theorem dX5_bestByBoth_23 : decode cX5_bestByBoth 23 = .ok (.iconst (-1), 1) := by decide +kernel
theorem dX5_bestByBoth_24 : decode cX5_bestByBoth 24 = .ok (.ixor, 1) := by decide +kernel
theorem dX5_bestByBoth_25 : decode cX5_bestByBoth 25 = .ok (.iand, 1) := by decide +kernel
theorem dX5_bestByBoth_26 : decode cX5_bestByBoth 26 = .ok (.invokevirtual 191, 3) := by decide +kernel
theorem dX5_bestByBoth_29 : decode cX5_bestByBoth 29 = .ok (.istore 5, 2) := by decide +kernel
theorem dX5_bestByBoth_31 : decode cX5_bestByBoth 31 = .ok (.iconst 1, 1) := by decide +kernel
theorem dX5_bestByBoth_32 : decode cX5_bestByBoth 32 = .ok (.istore 6, 2) := by decide +kernel
theorem dX5_bestByBoth_34 : decode cX5_bestByBoth 34 = .ok (.iload 6, 2) := by decide +kernel
theorem dX5_bestByBoth_36 : decode cX5_bestByBoth 36 = .ok (.iload 4, 2) := by decide +kernel
theorem dX5_bestByBoth_38 : decode cX5_bestByBoth 38 = .ok (.if_icmp .ge 37, 3) := by decide +kernel
theorem dX5_bestByBoth_41 : decode cX5_bestByBoth 41 = .ok (.iload 5, 2) := by decide +kernel
theorem dX5_bestByBoth_43 : decode cX5_bestByBoth 43 = .ok (.aload_n 0, 1) := by decide +kernel
theorem dX5_bestByBoth_44 : decode cX5_bestByBoth 44 = .ok (.aload_n 1, 1) := by decide +kernel
theorem dX5_bestByBoth_45 : decode cX5_bestByBoth 45 = .ok (.aload_n 0, 1) := by decide +kernel
theorem dX5_bestByBoth_46 : decode cX5_bestByBoth 46 = .ok (.getfield 48, 3) := by decide +kernel
theorem dX5_bestByBoth_49 : decode cX5_bestByBoth 49 = .ok (.iload 6, 2) := by decide +kernel
theorem dX5_bestByBoth_51 : decode cX5_bestByBoth 51 = .ok (.iaload, 1) := by decide +kernel
theorem dX5_bestByBoth_52 : decode cX5_bestByBoth 52 = .ok (.bipush 60, 2) := by decide +kernel
theorem dX5_bestByBoth_54 : decode cX5_bestByBoth 54 = .ok (.iload_n 3, 1) := by decide +kernel
theorem dX5_bestByBoth_55 : decode cX5_bestByBoth 55 = .ok (.iconst (-1), 1) := by decide +kernel
theorem dX5_bestByBoth_56 : decode cX5_bestByBoth 56 = .ok (.ixor, 1) := by decide +kernel
theorem dX5_bestByBoth_57 : decode cX5_bestByBoth 57 = .ok (.iand, 1) := by decide +kernel
theorem dX5_bestByBoth_58 : decode cX5_bestByBoth 58 = .ok (.invokevirtual 191, 3) := by decide +kernel
theorem dX5_bestByBoth_61 : decode cX5_bestByBoth 61 = .ok (.ldc 154, 2) := by decide +kernel
theorem dX5_bestByBoth_63 : decode cX5_bestByBoth 63 = .ok (.iadd, 1) := by decide +kernel
theorem dX5_bestByBoth_64 : decode cX5_bestByBoth 64 = .ok (.invokestatic 151, 3) := by decide +kernel
theorem dX5_bestByBoth_67 : decode cX5_bestByBoth 67 = .ok (.istore 5, 2) := by decide +kernel
theorem dX5_bestByBoth_69 : decode cX5_bestByBoth 69 = .ok (.iinc 6 1, 3) := by decide +kernel
theorem dX5_bestByBoth_72 : decode cX5_bestByBoth 72 = .ok (.goto (-38), 3) := by decide +kernel
theorem dX5_bestByBoth_75 : decode cX5_bestByBoth 75 = .ok (.iload 5, 2) := by decide +kernel
theorem dX5_bestByBoth_77 : decode cX5_bestByBoth 77 = .ok (.ireturn, 1) := by decide +kernel
theorem dX5_bestByFoot_0 : decode cX5_bestByFoot 0 = .ok (.aload_n 0, 1) := by decide +kernel
theorem dX5_bestByFoot_1 : decode cX5_bestByFoot 1 = .ok (.iload_n 2, 1) := by decide +kernel
theorem dX5_bestByFoot_2 : decode cX5_bestByFoot 2 = .ok (.iload_n 3, 1) := by decide +kernel
theorem dX5_bestByFoot_3 : decode cX5_bestByFoot 3 = .ok (.aload_n 0, 1) := by decide +kernel
theorem dX5_bestByFoot_4 : decode cX5_bestByFoot 4 = .ok (.getfield 51, 3) := by decide +kernel
theorem dX5_bestByFoot_7 : decode cX5_bestByFoot 7 = .ok (.invokevirtual 198, 3) := by decide +kernel
theorem dX5_bestByFoot_10 : decode cX5_bestByFoot 10 = .ok (.istore 4, 2) := by decide +kernel
theorem dX5_bestByFoot_12 : decode cX5_bestByFoot 12 = .ok (.aload_n 1, 1) := by decide +kernel
theorem dX5_bestByFoot_13 : decode cX5_bestByFoot 13 = .ok (.iload_n 2, 1) := by decide +kernel
theorem dX5_bestByFoot_14 : decode cX5_bestByFoot 14 = .ok (.iaload, 1) := by decide +kernel
theorem dX5_bestByFoot_15 : decode cX5_bestByFoot 15 = .ok (.istore 5, 2) := by decide +kernel
theorem dX5_bestByFoot_17 : decode cX5_bestByFoot 17 = .ok (.iconst 1, 1) := by decide +kernel
theorem dX5_bestByFoot_18 : decode cX5_bestByFoot 18 = .ok (.istore 6, 2) := by decide +kernel
theorem dX5_bestByFoot_20 : decode cX5_bestByFoot 20 = .ok (.iload 6, 2) := by decide +kernel
theorem dX5_bestByFoot_22 : decode cX5_bestByFoot 22 = .ok (.iload 4, 2) := by decide +kernel
theorem dX5_bestByFoot_24 : decode cX5_bestByFoot 24 = .ok (.if_icmp .ge 28, 3) := by decide +kernel
theorem dX5_bestByFoot_27 : decode cX5_bestByFoot 27 = .ok (.iload 5, 2) := by decide +kernel
theorem dX5_bestByFoot_29 : decode cX5_bestByFoot 29 = .ok (.aload_n 1, 1) := by decide +kernel
theorem dX5_bestByFoot_30 : decode cX5_bestByFoot 30 = .ok (.aload_n 0, 1) := by decide +kernel
theorem dX5_bestByFoot_31 : decode cX5_bestByFoot 31 = .ok (.getfield 51, 3) := by decide +kernel
theorem dX5_bestByFoot_34 : decode cX5_bestByFoot 34 = .ok (.iload 6, 2) := by decide +kernel
theorem dX5_bestByFoot_36 : decode cX5_bestByFoot 36 = .ok (.iaload, 1) := by decide +kernel
theorem dX5_bestByFoot_37 : decode cX5_bestByFoot 37 = .ok (.iaload, 1) := by decide +kernel
theorem dX5_bestByFoot_38 : decode cX5_bestByFoot 38 = .ok (.ldc 154, 2) := by decide +kernel
theorem dX5_bestByFoot_40 : decode cX5_bestByFoot 40 = .ok (.iadd, 1) := by decide +kernel
theorem dX5_bestByFoot_41 : decode cX5_bestByFoot 41 = .ok (.invokestatic 151, 3) := by decide +kernel
theorem dX5_bestByFoot_44 : decode cX5_bestByFoot 44 = .ok (.istore 5, 2) := by decide +kernel
theorem dX5_bestByFoot_46 : decode cX5_bestByFoot 46 = .ok (.iinc 6 1, 3) := by decide +kernel
theorem dX5_bestByFoot_49 : decode cX5_bestByFoot 49 = .ok (.goto (-29), 3) := by decide +kernel
theorem dX5_bestByFoot_52 : decode cX5_bestByFoot 52 = .ok (.iload 5, 2) := by decide +kernel
theorem dX5_bestByFoot_54 : decode cX5_bestByFoot 54 = .ok (.ireturn, 1) := by decide +kernel
theorem dX5_reach_0 : decode cX5_reach 0 = .ok (.aload_n 0, 1) := by decide +kernel
theorem dX5_reach_1 : decode cX5_reach 1 = .ok (.getfield 11, 3) := by decide +kernel
theorem dX5_reach_4 : decode cX5_reach 4 = .ok (.getfield 125, 3) := by decide +kernel
theorem dX5_reach_7 : decode cX5_reach 7 = .ok (.iload_n 1, 1) := by decide +kernel
theorem dX5_reach_8 : decode cX5_reach 8 = .ok (.iaload, 1) := by decide +kernel
theorem dX5_reach_9 : decode cX5_reach 9 = .ok (.istore 4, 2) := by decide +kernel
theorem dX5_reach_11 : decode cX5_reach 11 = .ok (.aload_n 3, 1) := by decide +kernel
theorem dX5_reach_12 : decode cX5_reach 12 = .ok (.iconst 0, 1) := by decide +kernel
theorem dX5_reach_13 : decode cX5_reach 13 = .ok (.iload_n 1, 1) := by decide +kernel
theorem dX5_reach_14 : decode cX5_reach 14 = .ok (.iastore, 1) := by decide +kernel
theorem dX5_reach_15 : decode cX5_reach 15 = .ok (.iconst 1, 1) := by decide +kernel
theorem dX5_reach_16 : decode cX5_reach 16 = .ok (.istore 5, 2) := by decide +kernel
theorem dX5_reach_18 : decode cX5_reach 18 = .ok (.iconst 0, 1) := by decide +kernel
theorem dX5_reach_19 : decode cX5_reach 19 = .ok (.istore 6, 2) := by decide +kernel
theorem dX5_reach_21 : decode cX5_reach 21 = .ok (.iload 6, 2) := by decide +kernel
theorem dX5_reach_23 : decode cX5_reach 23 = .ok (.bipush 7, 2) := by decide +kernel
theorem dX5_reach_25 : decode cX5_reach 25 = .ok (.if_icmp .ge 72, 3) := by decide +kernel
theorem dX5_reach_28 : decode cX5_reach 28 = .ok (.iload_n 2, 1) := by decide +kernel
theorem dX5_reach_29 : decode cX5_reach 29 = .ok (.iload 6, 2) := by decide +kernel
theorem dX5_reach_31 : decode cX5_reach 31 = .ok (.ishr, 1) := by decide +kernel
theorem dX5_reach_32 : decode cX5_reach 32 = .ok (.iconst 1, 1) := by decide +kernel
theorem dX5_reach_33 : decode cX5_reach 33 = .ok (.iand, 1) := by decide +kernel
theorem dX5_reach_34 : decode cX5_reach 34 = .ok (.ifCond .eq 57, 3) := by decide +kernel
theorem dX5_reach_37 : decode cX5_reach 37 = .ok (.iload 4, 2) := by decide +kernel
theorem dX5_reach_39 : decode cX5_reach 39 = .ok (.iconst 2, 1) := by decide +kernel
theorem dX5_reach_40 : decode cX5_reach 40 = .ok (.iload 6, 2) := by decide +kernel
theorem dX5_reach_42 : decode cX5_reach 42 = .ok (.imul, 1) := by decide +kernel
theorem dX5_reach_43 : decode cX5_reach 43 = .ok (.ishr, 1) := by decide +kernel
theorem dX5_reach_44 : decode cX5_reach 44 = .ok (.iconst 3, 1) := by decide +kernel
theorem dX5_reach_45 : decode cX5_reach 45 = .ok (.iand, 1) := by decide +kernel
theorem dX5_reach_46 : decode cX5_reach 46 = .ok (.istore 7, 2) := by decide +kernel
theorem dX5_reach_48 : decode cX5_reach 48 = .ok (.aload_n 3, 1) := by decide +kernel
theorem dX5_reach_49 : decode cX5_reach 49 = .ok (.iload 5, 2) := by decide +kernel
theorem dX5_reach_51 : decode cX5_reach 51 = .ok (.iload_n 1, 1) := by decide +kernel
theorem dX5_reach_52 : decode cX5_reach 52 = .ok (.getstatic 202, 3) := by decide +kernel
theorem dX5_reach_55 : decode cX5_reach 55 = .ok (.iload 7, 2) := by decide +kernel
theorem dX5_reach_57 : decode cX5_reach 57 = .ok (.iaload, 1) := by decide +kernel
theorem dX5_reach_58 : decode cX5_reach 58 = .ok (.getstatic 185, 3) := by decide +kernel
theorem dX5_reach_61 : decode cX5_reach 61 = .ok (.iload 6, 2) := by decide +kernel
theorem dX5_reach_63 : decode cX5_reach 63 = .ok (.iaload, 1) := by decide +kernel
theorem dX5_reach_64 : decode cX5_reach 64 = .ok (.imul, 1) := by decide +kernel
theorem dX5_reach_65 : decode cX5_reach 65 = .ok (.iadd, 1) := by decide +kernel
theorem dX5_reach_66 : decode cX5_reach 66 = .ok (.iastore, 1) := by decide +kernel
theorem dX5_reach_67 : decode cX5_reach 67 = .ok (.aload_n 3, 1) := by decide +kernel
theorem dX5_reach_68 : decode cX5_reach 68 = .ok (.iload 5, 2) := by decide +kernel
theorem dX5_reach_70 : decode cX5_reach 70 = .ok (.iconst 1, 1) := by decide +kernel
theorem dX5_reach_71 : decode cX5_reach 71 = .ok (.iadd, 1) := by decide +kernel
theorem dX5_reach_72 : decode cX5_reach 72 = .ok (.iload_n 1, 1) := by decide +kernel
theorem dX5_reach_73 : decode cX5_reach 73 = .ok (.getstatic 205, 3) := by decide +kernel
theorem dX5_reach_76 : decode cX5_reach 76 = .ok (.iload 7, 2) := by decide +kernel
theorem dX5_reach_78 : decode cX5_reach 78 = .ok (.iaload, 1) := by decide +kernel
theorem dX5_reach_79 : decode cX5_reach 79 = .ok (.getstatic 185, 3) := by decide +kernel
theorem dX5_reach_82 : decode cX5_reach 82 = .ok (.iload 6, 2) := by decide +kernel
theorem dX5_reach_84 : decode cX5_reach 84 = .ok (.iaload, 1) := by decide +kernel
theorem dX5_reach_85 : decode cX5_reach 85 = .ok (.imul, 1) := by decide +kernel
theorem dX5_reach_86 : decode cX5_reach 86 = .ok (.iadd, 1) := by decide +kernel
theorem dX5_reach_87 : decode cX5_reach 87 = .ok (.iastore, 1) := by decide +kernel
theorem dX5_reach_88 : decode cX5_reach 88 = .ok (.iinc 5 2, 3) := by decide +kernel
theorem dX5_reach_91 : decode cX5_reach 91 = .ok (.iinc 6 1, 3) := by decide +kernel
theorem dX5_reach_94 : decode cX5_reach 94 = .ok (.goto (-73), 3) := by decide +kernel
theorem dX5_reach_97 : decode cX5_reach 97 = .ok (.iload 5, 2) := by decide +kernel
theorem dX5_reach_99 : decode cX5_reach 99 = .ok (.ireturn, 1) := by decide +kernel
theorem dX5_trace_0 : decode cX5_trace 0 = .ok (.iconst 0, 1) := by decide +kernel
theorem dX5_trace_1 : decode cX5_trace 1 = .ok (.istore_n 1, 1) := by decide +kernel
theorem dX5_trace_2 : decode cX5_trace 2 = .ok (.iload_n 1, 1) := by decide +kernel
theorem dX5_trace_3 : decode cX5_trace 3 = .ok (.sipush 2186, 3) := by decide +kernel
theorem dX5_trace_6 : decode cX5_trace 6 = .ok (.if_icmp .ge 36, 3) := by decide +kernel
theorem dX5_trace_9 : decode cX5_trace 9 = .ok (.aload_n 0, 1) := by decide +kernel
theorem dX5_trace_10 : decode cX5_trace 10 = .ok (.getfield 35, 3) := by decide +kernel
theorem dX5_trace_13 : decode cX5_trace 13 = .ok (.iconst 0, 1) := by decide +kernel
theorem dX5_trace_14 : decode cX5_trace 14 = .ok (.aaload, 1) := by decide +kernel
theorem dX5_trace_15 : decode cX5_trace 15 = .ok (.iload_n 1, 1) := by decide +kernel
theorem dX5_trace_16 : decode cX5_trace 16 = .ok (.iaload, 1) := by decide +kernel
theorem dX5_trace_17 : decode cX5_trace 17 = .ok (.aload_n 0, 1) := by decide +kernel
theorem dX5_trace_18 : decode cX5_trace 18 = .ok (.getfield 28, 3) := by decide +kernel
theorem dX5_trace_21 : decode cX5_trace 21 = .ok (.iconst 0, 1) := by decide +kernel
theorem dX5_trace_22 : decode cX5_trace 22 = .ok (.aaload, 1) := by decide +kernel
theorem dX5_trace_23 : decode cX5_trace 23 = .ok (.iload_n 1, 1) := by decide +kernel
theorem dX5_trace_24 : decode cX5_trace 24 = .ok (.iaload, 1) := by decide +kernel
theorem dX5_trace_25 : decode cX5_trace 25 = .ok (.iadd, 1) := by decide +kernel
theorem dX5_trace_26 : decode cX5_trace 26 = .ok (.bipush 20, 2) := by decide +kernel
theorem dX5_trace_28 : decode cX5_trace 28 = .ok (.ishr, 1) := by decide +kernel
theorem dX5_trace_29 : decode cX5_trace 29 = .ok (.aload_n 0, 1) := by decide +kernel
theorem dX5_trace_30 : decode cX5_trace 30 = .ok (.invokevirtual 147, 3) := by decide +kernel
theorem dX5_trace_33 : decode cX5_trace 33 = .ok (.if_icmp .eq 9, 3) := by decide +kernel
theorem dX5_trace_36 : decode cX5_trace 36 = .ok (.iinc 1 1, 3) := by decide +kernel
theorem dX5_trace_39 : decode cX5_trace 39 = .ok (.goto (-37), 3) := by decide +kernel
theorem dX5_trace_42 : decode cX5_trace 42 = .ok (.aload_n 0, 1) := by decide +kernel
theorem dX5_trace_43 : decode cX5_trace 43 = .ok (.getfield 54, 3) := by decide +kernel
theorem dX5_trace_46 : decode cX5_trace 46 = .ok (.iconst 0, 1) := by decide +kernel
theorem dX5_trace_47 : decode cX5_trace 47 = .ok (.iload_n 1, 1) := by decide +kernel
theorem dX5_trace_48 : decode cX5_trace 48 = .ok (.iastore, 1) := by decide +kernel
theorem dX5_trace_49 : decode cX5_trace 49 = .ok (.iconst 1, 1) := by decide +kernel
theorem dX5_trace_50 : decode cX5_trace 50 = .ok (.istore_n 2, 1) := by decide +kernel
theorem dX5_trace_51 : decode cX5_trace 51 = .ok (.iload_n 2, 1) := by decide +kernel
theorem dX5_trace_52 : decode cX5_trace 52 = .ok (.aload_n 0, 1) := by decide +kernel
theorem dX5_trace_53 : decode cX5_trace 53 = .ok (.getfield 15, 3) := by decide +kernel
theorem dX5_trace_56 : decode cX5_trace 56 = .ok (.getfield 93, 3) := by decide +kernel
theorem dX5_trace_59 : decode cX5_trace 59 = .ok (.if_icmp .ge 30, 3) := by decide +kernel
theorem dX5_trace_62 : decode cX5_trace 62 = .ok (.aload_n 0, 1) := by decide +kernel
theorem dX5_trace_63 : decode cX5_trace 63 = .ok (.getfield 54, 3) := by decide +kernel
theorem dX5_trace_66 : decode cX5_trace 66 = .ok (.iload_n 2, 1) := by decide +kernel
theorem dX5_trace_67 : decode cX5_trace 67 = .ok (.aload_n 0, 1) := by decide +kernel
theorem dX5_trace_68 : decode cX5_trace 68 = .ok (.iload_n 2, 1) := by decide +kernel
theorem dX5_trace_69 : decode cX5_trace 69 = .ok (.iconst 1, 1) := by decide +kernel
theorem dX5_trace_70 : decode cX5_trace 70 = .ok (.isub, 1) := by decide +kernel
theorem dX5_trace_71 : decode cX5_trace 71 = .ok (.aload_n 0, 1) := by decide +kernel
theorem dX5_trace_72 : decode cX5_trace 72 = .ok (.getfield 54, 3) := by decide +kernel
theorem dX5_trace_75 : decode cX5_trace 75 = .ok (.iload_n 2, 1) := by decide +kernel
theorem dX5_trace_76 : decode cX5_trace 76 = .ok (.iconst 1, 1) := by decide +kernel
theorem dX5_trace_77 : decode cX5_trace 77 = .ok (.isub, 1) := by decide +kernel
theorem dX5_trace_78 : decode cX5_trace 78 = .ok (.iaload, 1) := by decide +kernel
theorem dX5_trace_79 : decode cX5_trace 79 = .ok (.invokevirtual 208, 3) := by decide +kernel
theorem dX5_trace_82 : decode cX5_trace 82 = .ok (.iastore, 1) := by decide +kernel
theorem dX5_trace_83 : decode cX5_trace 83 = .ok (.iinc 2 1, 3) := by decide +kernel
theorem dX5_trace_86 : decode cX5_trace 86 = .ok (.goto (-35), 3) := by decide +kernel
theorem dX5_trace_89 : decode cX5_trace 89 = .ok (.return_, 1) := by decide +kernel
theorem dX5_leastNext_0 : decode cX5_leastNext 0 = .ok (.aload_n 0, 1) := by decide +kernel
theorem dX5_leastNext_1 : decode cX5_leastNext 1 = .ok (.getfield 22, 3) := by decide +kernel
theorem dX5_leastNext_4 : decode cX5_leastNext 4 = .ok (.aload_n 0, 1) := by decide +kernel
