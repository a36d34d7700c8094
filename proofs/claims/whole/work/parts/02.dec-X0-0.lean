theorem dX0_init_0 : decode cX0_init 0 = .ok (.aload_n 0, 1) := by decide +kernel
theorem dX0_init_1 : decode cX0_init 1 = .ok (.invokespecial 3, 3) := by decide +kernel
theorem dX0_init_4 : decode cX0_init 4 = .ok (.aload_n 0, 1) := by decide +kernel
theorem dX0_init_5 : decode cX0_init 5 = .ok (.iconst 0, 1) := by decide +kernel
theorem dX0_init_6 : decode cX0_init 6 = .ok (.putfield 9, 3) := by decide +kernel
theorem dX0_init_9 : decode cX0_init 9 = .ok (.aload_n 0, 1) := by decide +kernel
theorem dX0_init_10 : decode cX0_init 10 = .ok (.bipush 6, 2) := by decide +kernel
theorem dX0_init_12 : decode cX0_init 12 = .ok (.newarray .int, 2) := by decide +kernel
theorem dX0_init_14 : decode cX0_init 14 = .ok (.putfield 15, 3) := by decide +kernel
theorem dX0_init_17 : decode cX0_init 17 = .ok (.aload_n 0, 1) := by decide +kernel
theorem dX0_init_18 : decode cX0_init 18 = .ok (.bipush 6, 2) := by decide +kernel
theorem dX0_init_20 : decode cX0_init 20 = .ok (.newarray .int, 2) := by decide +kernel
theorem dX0_init_22 : decode cX0_init 22 = .ok (.putfield 19, 3) := by decide +kernel
theorem dX0_init_25 : decode cX0_init 25 = .ok (.aload_n 0, 1) := by decide +kernel
theorem dX0_init_26 : decode cX0_init 26 = .ok (.bipush 6, 2) := by decide +kernel
theorem dX0_init_28 : decode cX0_init 28 = .ok (.newarray .int, 2) := by decide +kernel
theorem dX0_init_30 : decode cX0_init 30 = .ok (.putfield 22, 3) := by decide +kernel
theorem dX0_init_33 : decode cX0_init 33 = .ok (.aload_n 0, 1) := by decide +kernel
theorem dX0_init_34 : decode cX0_init 34 = .ok (.bipush 6, 2) := by decide +kernel
theorem dX0_init_36 : decode cX0_init 36 = .ok (.newarray .int, 2) := by decide +kernel
theorem dX0_init_38 : decode cX0_init 38 = .ok (.putfield 25, 3) := by decide +kernel
theorem dX0_init_41 : decode cX0_init 41 = .ok (.aload_n 0, 1) := by decide +kernel
theorem dX0_init_42 : decode cX0_init 42 = .ok (.bipush 6, 2) := by decide +kernel
theorem dX0_init_44 : decode cX0_init 44 = .ok (.newarray .int, 2) := by decide +kernel
theorem dX0_init_46 : decode cX0_init 46 = .ok (.putfield 28, 3) := by decide +kernel
theorem dX0_init_49 : decode cX0_init 49 = .ok (.aload_n 0, 1) := by decide +kernel
theorem dX0_init_50 : decode cX0_init 50 = .ok (.bipush 6, 2) := by decide +kernel
theorem dX0_init_52 : decode cX0_init 52 = .ok (.newarray .int, 2) := by decide +kernel
theorem dX0_init_54 : decode cX0_init 54 = .ok (.putfield 31, 3) := by decide +kernel
theorem dX0_init_57 : decode cX0_init 57 = .ok (.aload_n 0, 1) := by decide +kernel
theorem dX0_init_58 : decode cX0_init 58 = .ok (.iconst 0, 1) := by decide +kernel
theorem dX0_init_59 : decode cX0_init 59 = .ok (.putfield 34, 3) := by decide +kernel
theorem dX0_init_62 : decode cX0_init 62 = .ok (.aload_n 0, 1) := by decide +kernel
theorem dX0_init_63 : decode cX0_init 63 = .ok (.iconst 0, 1) := by decide +kernel
theorem dX0_init_64 : decode cX0_init 64 = .ok (.putfield 37, 3) := by decide +kernel
theorem dX0_init_67 : decode cX0_init 67 = .ok (.aload_n 0, 1) := by decide +kernel
theorem dX0_init_68 : decode cX0_init 68 = .ok (.bipush 6, 2) := by decide +kernel
theorem dX0_init_70 : decode cX0_init 70 = .ok (.newarray .int, 2) := by decide +kernel
theorem dX0_init_72 : decode cX0_init 72 = .ok (.putfield 40, 3) := by decide +kernel
theorem dX0_init_75 : decode cX0_init 75 = .ok (.aload_n 0, 1) := by decide +kernel
theorem dX0_init_76 : decode cX0_init 76 = .ok (.bipush 6, 2) := by decide +kernel
theorem dX0_init_78 : decode cX0_init 78 = .ok (.newarray .int, 2) := by decide +kernel
theorem dX0_init_80 : decode cX0_init 80 = .ok (.putfield 43, 3) := by decide +kernel
theorem dX0_init_83 : decode cX0_init 83 = .ok (.return_, 1) := by decide +kernel
theorem dX0_read_0 : decode cX0_read 0 = .ok (.aload_n 0, 1) := by decide +kernel
theorem dX0_read_1 : decode cX0_read 1 = .ok (.aload_n 1, 1) := by decide +kernel
theorem dX0_read_2 : decode cX0_read 2 = .ok (.getfield 46, 3) := by decide +kernel
theorem dX0_read_5 : decode cX0_read 5 = .ok (.iload_n 2, 1) := by decide +kernel
theorem dX0_read_6 : decode cX0_read 6 = .ok (.iaload, 1) := by decide +kernel
theorem dX0_read_7 : decode cX0_read 7 = .ok (.putfield 9, 3) := by decide +kernel
theorem dX0_read_10 : decode cX0_read 10 = .ok (.iconst 0, 1) := by decide +kernel
theorem dX0_read_11 : decode cX0_read 11 = .ok (.istore_n 3, 1) := by decide +kernel
theorem dX0_read_12 : decode cX0_read 12 = .ok (.iload_n 3, 1) := by decide +kernel
theorem dX0_read_13 : decode cX0_read 13 = .ok (.aload_n 0, 1) := by decide +kernel
theorem dX0_read_14 : decode cX0_read 14 = .ok (.getfield 9, 3) := by decide +kernel
theorem dX0_read_17 : decode cX0_read 17 = .ok (.if_icmp .ge 69, 3) := by decide +kernel
theorem dX0_read_20 : decode cX0_read 20 = .ok (.iload_n 2, 1) := by decide +kernel
theorem dX0_read_21 : decode cX0_read 21 = .ok (.iload_n 3, 1) := by decide +kernel
theorem dX0_read_22 : decode cX0_read 22 = .ok (.invokestatic 51, 3) := by decide +kernel
theorem dX0_read_25 : decode cX0_read 25 = .ok (.istore 4, 2) := by decide +kernel
theorem dX0_read_27 : decode cX0_read 27 = .ok (.aload_n 1, 1) := by decide +kernel
theorem dX0_read_28 : decode cX0_read 28 = .ok (.getfield 55, 3) := by decide +kernel
theorem dX0_read_31 : decode cX0_read 31 = .ok (.iload 4, 2) := by decide +kernel
theorem dX0_read_33 : decode cX0_read 33 = .ok (.iaload, 1) := by decide +kernel
theorem dX0_read_34 : decode cX0_read 34 = .ok (.istore 5, 2) := by decide +kernel
theorem dX0_read_36 : decode cX0_read 36 = .ok (.aload_n 0, 1) := by decide +kernel
theorem dX0_read_37 : decode cX0_read 37 = .ok (.getfield 15, 3) := by decide +kernel
theorem dX0_read_40 : decode cX0_read 40 = .ok (.iload_n 3, 1) := by decide +kernel
theorem dX0_read_41 : decode cX0_read 41 = .ok (.getstatic 58, 3) := by decide +kernel
theorem dX0_read_44 : decode cX0_read 44 = .ok (.iload 5, 2) := by decide +kernel
theorem dX0_read_46 : decode cX0_read 46 = .ok (.iaload, 1) := by decide +kernel
theorem dX0_read_47 : decode cX0_read 47 = .ok (.iastore, 1) := by decide +kernel
theorem dX0_read_48 : decode cX0_read 48 = .ok (.aload_n 0, 1) := by decide +kernel
theorem dX0_read_49 : decode cX0_read 49 = .ok (.getfield 19, 3) := by decide +kernel
theorem dX0_read_52 : decode cX0_read 52 = .ok (.iload_n 3, 1) := by decide +kernel
theorem dX0_read_53 : decode cX0_read 53 = .ok (.aload_n 1, 1) := by decide +kernel
theorem dX0_read_54 : decode cX0_read 54 = .ok (.getfield 61, 3) := by decide +kernel
theorem dX0_read_57 : decode cX0_read 57 = .ok (.iload 4, 2) := by decide +kernel
theorem dX0_read_59 : decode cX0_read 59 = .ok (.iaload, 1) := by decide +kernel
theorem dX0_read_60 : decode cX0_read 60 = .ok (.iastore, 1) := by decide +kernel
theorem dX0_read_61 : decode cX0_read 61 = .ok (.aload_n 0, 1) := by decide +kernel
theorem dX0_read_62 : decode cX0_read 62 = .ok (.iload_n 3, 1) := by decide +kernel
theorem dX0_read_63 : decode cX0_read 63 = .ok (.aload_n 1, 1) := by decide +kernel
theorem dX0_read_64 : decode cX0_read 64 = .ok (.getfield 62, 3) := by decide +kernel
theorem dX0_read_67 : decode cX0_read 67 = .ok (.iload 4, 2) := by decide +kernel
theorem dX0_read_69 : decode cX0_read 69 = .ok (.iaload, 1) := by decide +kernel
theorem dX0_read_70 : decode cX0_read 70 = .ok (.getstatic 65, 3) := by decide +kernel
theorem dX0_read_73 : decode cX0_read 73 = .ok (.iload 5, 2) := by decide +kernel
theorem dX0_read_75 : decode cX0_read 75 = .ok (.iaload, 1) := by decide +kernel
theorem dX0_read_76 : decode cX0_read 76 = .ok (.isub, 1) := by decide +kernel
theorem dX0_read_77 : decode cX0_read 77 = .ok (.invokevirtual 68, 3) := by decide +kernel
theorem dX0_read_80 : decode cX0_read 80 = .ok (.iinc 3 1, 3) := by decide +kernel
theorem dX0_read_83 : decode cX0_read 83 = .ok (.goto (-71), 3) := by decide +kernel
theorem dX0_read_86 : decode cX0_read 86 = .ok (.aload_n 0, 1) := by decide +kernel
theorem dX0_read_87 : decode cX0_read 87 = .ok (.iconst 0, 1) := by decide +kernel
theorem dX0_read_88 : decode cX0_read 88 = .ok (.putfield 34, 3) := by decide +kernel
theorem dX0_read_91 : decode cX0_read 91 = .ok (.aload_n 0, 1) := by decide +kernel
theorem dX0_read_92 : decode cX0_read 92 = .ok (.iconst 0, 1) := by decide +kernel
theorem dX0_read_93 : decode cX0_read 93 = .ok (.putfield 37, 3) := by decide +kernel
theorem dX0_read_96 : decode cX0_read 96 = .ok (.iconst 0, 1) := by decide +kernel
theorem dX0_read_97 : decode cX0_read 97 = .ok (.istore_n 3, 1) := by decide +kernel
theorem dX0_read_98 : decode cX0_read 98 = .ok (.iload_n 3, 1) := by decide +kernel
theorem dX0_read_99 : decode cX0_read 99 = .ok (.bipush 7, 2) := by decide +kernel
theorem dX0_read_101 : decode cX0_read 101 = .ok (.if_icmp .ge 55, 3) := by decide +kernel
theorem dX0_read_104 : decode cX0_read 104 = .ok (.aload_n 1, 1) := by decide +kernel
theorem dX0_read_105 : decode cX0_read 105 = .ok (.getfield 72, 3) := by decide +kernel
theorem dX0_read_108 : decode cX0_read 108 = .ok (.iload_n 2, 1) := by decide +kernel
theorem dX0_read_109 : decode cX0_read 109 = .ok (.bipush 7, 2) := by decide +kernel
theorem dX0_read_111 : decode cX0_read 111 = .ok (.imul, 1) := by decide +kernel
theorem dX0_read_112 : decode cX0_read 112 = .ok (.iload_n 3, 1) := by decide +kernel
theorem dX0_read_113 : decode cX0_read 113 = .ok (.iadd, 1) := by decide +kernel
theorem dX0_read_114 : decode cX0_read 114 = .ok (.iaload, 1) := by decide +kernel
theorem dX0_read_115 : decode cX0_read 115 = .ok (.istore 4, 2) := by decide +kernel
theorem dX0_read_117 : decode cX0_read 117 = .ok (.iload 4, 2) := by decide +kernel
theorem dX0_read_119 : decode cX0_read 119 = .ok (.ifCond .lt 31, 3) := by decide +kernel
theorem dX0_read_122 : decode cX0_read 122 = .ok (.aload_n 0, 1) := by decide +kernel
theorem dX0_read_123 : decode cX0_read 123 = .ok (.dup, 1) := by decide +kernel
theorem dX0_read_124 : decode cX0_read 124 = .ok (.getfield 34, 3) := by decide +kernel
theorem dX0_read_127 : decode cX0_read 127 = .ok (.iload_n 3, 1) := by decide +kernel
theorem dX0_read_128 : decode cX0_read 128 = .ok (.invokestatic 75, 3) := by decide +kernel
theorem dX0_read_131 : decode cX0_read 131 = .ok (.ior, 1) := by decide +kernel
theorem dX0_read_132 : decode cX0_read 132 = .ok (.putfield 34, 3) := by decide +kernel
theorem dX0_read_135 : decode cX0_read 135 = .ok (.aload_n 0, 1) := by decide +kernel
theorem dX0_read_136 : decode cX0_read 136 = .ok (.dup, 1) := by decide +kernel
theorem dX0_read_137 : decode cX0_read 137 = .ok (.getfield 37, 3) := by decide +kernel
theorem dX0_read_140 : decode cX0_read 140 = .ok (.iload 4, 2) := by decide +kernel
theorem dX0_read_142 : decode cX0_read 142 = .ok (.iconst 2, 1) := by decide +kernel
theorem dX0_read_143 : decode cX0_read 143 = .ok (.iload_n 3, 1) := by decide +kernel
theorem dX0_read_144 : decode cX0_read 144 = .ok (.imul, 1) := by decide +kernel
theorem dX0_read_145 : decode cX0_read 145 = .ok (.ishl, 1) := by decide +kernel
theorem dX0_read_146 : decode cX0_read 146 = .ok (.ior, 1) := by decide +kernel
theorem dX0_read_147 : decode cX0_read 147 = .ok (.putfield 37, 3) := by decide +kernel
theorem dX0_read_150 : decode cX0_read 150 = .ok (.iinc 3 1, 3) := by decide +kernel
theorem dX0_read_153 : decode cX0_read 153 = .ok (.goto (-55), 3) := by decide +kernel
theorem dX0_read_156 : decode cX0_read 156 = .ok (.return_, 1) := by decide +kernel
theorem dX0_findStrings_0 : decode cX0_findStrings 0 = .ok (.aload_n 0, 1) := by decide +kernel
theorem dX0_findStrings_1 : decode cX0_findStrings 1 = .ok (.getfield 22, 3) := by decide +kernel
theorem dX0_findStrings_4 : decode cX0_findStrings 4 = .ok (.iload_n 1, 1) := by decide +kernel
theorem dX0_findStrings_5 : decode cX0_findStrings 5 = .ok (.iconst (-1), 1) := by decide +kernel
theorem dX0_findStrings_6 : decode cX0_findStrings 6 = .ok (.iastore, 1) := by decide +kernel
theorem dX0_findStrings_7 : decode cX0_findStrings 7 = .ok (.aload_n 0, 1) := by decide +kernel
theorem dX0_findStrings_8 : decode cX0_findStrings 8 = .ok (.getfield 28, 3) := by decide +kernel
theorem dX0_findStrings_11 : decode cX0_findStrings 11 = .ok (.iload_n 1, 1) := by decide +kernel
theorem dX0_findStrings_12 : decode cX0_findStrings 12 = .ok (.iconst (-1), 1) := by decide +kernel
theorem dX0_findStrings_13 : decode cX0_findStrings 13 = .ok (.iastore, 1) := by decide +kernel
theorem dX0_findStrings_14 : decode cX0_findStrings 14 = .ok (.iconst 0, 1) := by decide +kernel
theorem dX0_findStrings_15 : decode cX0_findStrings 15 = .ok (.istore_n 3, 1) := by decide +kernel
theorem dX0_findStrings_16 : decode cX0_findStrings 16 = .ok (.iload_n 3, 1) := by decide +kernel
theorem dX0_findStrings_17 : decode cX0_findStrings 17 = .ok (.bipush 42, 2) := by decide +kernel
theorem dX0_findStrings_19 : decode cX0_findStrings 19 = .ok (.if_icmp .ge 75, 3) := by decide +kernel
theorem dX0_findStrings_22 : decode cX0_findStrings 22 = .ok (.iload_n 2, 1) := by decide +kernel
theorem dX0_findStrings_23 : decode cX0_findStrings 23 = .ok (.iload_n 3, 1) := by decide +kernel
theorem dX0_findStrings_24 : decode cX0_findStrings 24 = .ok (.invokestatic 81, 3) := by decide +kernel
theorem dX0_findStrings_27 : decode cX0_findStrings 27 = .ok (.isub, 1) := by decide +kernel
theorem dX0_findStrings_28 : decode cX0_findStrings 28 = .ok (.iconst 1, 1) := by decide +kernel
theorem dX0_findStrings_29 : decode cX0_findStrings 29 = .ok (.iadd, 1) := by decide +kernel
theorem dX0_findStrings_30 : decode cX0_findStrings 30 = .ok (.istore 4, 2) := by decide +kernel
theorem dX0_findStrings_32 : decode cX0_findStrings 32 = .ok (.iload 4, 2) := by decide +kernel
theorem dX0_findStrings_34 : decode cX0_findStrings 34 = .ok (.ifCond .lt 54, 3) := by decide +kernel
theorem dX0_findStrings_37 : decode cX0_findStrings 37 = .ok (.iload 4, 2) := by decide +kernel
theorem dX0_findStrings_39 : decode cX0_findStrings 39 = .ok (.iconst 3, 1) := by decide +kernel
theorem dX0_findStrings_40 : decode cX0_findStrings 40 = .ok (.if_icmp .lt 6, 3) := by decide +kernel
theorem dX0_findStrings_43 : decode cX0_findStrings 43 = .ok (.goto 45, 3) := by decide +kernel
theorem dX0_findStrings_46 : decode cX0_findStrings 46 = .ok (.aload_n 0, 1) := by decide +kernel
theorem dX0_findStrings_47 : decode cX0_findStrings 47 = .ok (.getfield 22, 3) := by decide +kernel
theorem dX0_findStrings_50 : decode cX0_findStrings 50 = .ok (.iload_n 1, 1) := by decide +kernel
theorem dX0_findStrings_51 : decode cX0_findStrings 51 = .ok (.iaload, 1) := by decide +kernel
theorem dX0_findStrings_52 : decode cX0_findStrings 52 = .ok (.ifCond .ge 21, 3) := by decide +kernel
theorem dX0_findStrings_55 : decode cX0_findStrings 55 = .ok (.aload_n 0, 1) := by decide +kernel
theorem dX0_findStrings_56 : decode cX0_findStrings 56 = .ok (.getfield 22, 3) := by decide +kernel
theorem dX0_findStrings_59 : decode cX0_findStrings 59 = .ok (.iload_n 1, 1) := by decide +kernel
theorem dX0_findStrings_60 : decode cX0_findStrings 60 = .ok (.iload_n 3, 1) := by decide +kernel
theorem dX0_findStrings_61 : decode cX0_findStrings 61 = .ok (.iastore, 1) := by decide +kernel
theorem dX0_findStrings_62 : decode cX0_findStrings 62 = .ok (.aload_n 0, 1) := by decide +kernel
theorem dX0_findStrings_63 : decode cX0_findStrings 63 = .ok (.getfield 25, 3) := by decide +kernel
theorem dX0_findStrings_66 : decode cX0_findStrings 66 = .ok (.iload_n 1, 1) := by decide +kernel
theorem dX0_findStrings_67 : decode cX0_findStrings 67 = .ok (.iload 4, 2) := by decide +kernel
theorem dX0_findStrings_69 : decode cX0_findStrings 69 = .ok (.iastore, 1) := by decide +kernel
theorem dX0_findStrings_70 : decode cX0_findStrings 70 = .ok (.goto 18, 3) := by decide +kernel
theorem dX0_findStrings_73 : decode cX0_findStrings 73 = .ok (.aload_n 0, 1) := by decide +kernel
theorem dX0_findStrings_74 : decode cX0_findStrings 74 = .ok (.getfield 28, 3) := by decide +kernel
theorem dX0_findStrings_77 : decode cX0_findStrings 77 = .ok (.iload_n 1, 1) := by decide +kernel
theorem dX0_findStrings_78 : decode cX0_findStrings 78 = .ok (.iload_n 3, 1) := by decide +kernel
theorem dX0_findStrings_79 : decode cX0_findStrings 79 = .ok (.iastore, 1) := by decide +kernel
theorem dX0_findStrings_80 : decode cX0_findStrings 80 = .ok (.aload_n 0, 1) := by decide +kernel
theorem dX0_findStrings_81 : decode cX0_findStrings 81 = .ok (.getfield 31, 3) := by decide +kernel
theorem dX0_findStrings_84 : decode cX0_findStrings 84 = .ok (.iload_n 1, 1) := by decide +kernel
theorem dX0_findStrings_85 : decode cX0_findStrings 85 = .ok (.iload 4, 2) := by decide +kernel
theorem dX0_findStrings_87 : decode cX0_findStrings 87 = .ok (.iastore, 1) := by decide +kernel
theorem dX0_findStrings_88 : decode cX0_findStrings 88 = .ok (.iinc 3 1, 3) := by decide +kernel
theorem dX0_findStrings_91 : decode cX0_findStrings 91 = .ok (.goto (-75), 3) := by decide +kernel
theorem dX0_findStrings_94 : decode cX0_findStrings 94 = .ok (.return_, 1) := by decide +kernel
theorem dX0_forgetMark_0 : decode cX0_forgetMark 0 = .ok (.aload_n 0, 1) := by decide +kernel
theorem dX0_forgetMark_1 : decode cX0_forgetMark 1 = .ok (.dup, 1) := by decide +kernel
theorem dX0_forgetMark_2 : decode cX0_forgetMark 2 = .ok (.getfield 34, 3) := by decide +kernel
theorem dX0_forgetMark_5 : decode cX0_forgetMark 5 = .ok (.iload_n 1, 1) := by decide +kernel
theorem dX0_forgetMark_6 : decode cX0_forgetMark 6 = .ok (.invokestatic 75, 3) := by decide +kernel
theorem dX0_forgetMark_9 : decode cX0_forgetMark 9 = .ok (.iconst (-1), 1) := by decide +kernel
theorem dX0_forgetMark_10 : decode cX0_forgetMark 10 = .ok (.ixor, 1) := by decide +kernel
theorem dX0_forgetMark_11 : decode cX0_forgetMark 11 = .ok (.iand, 1) := by decide +kernel
theorem dX0_forgetMark_12 : decode cX0_forgetMark 12 = .ok (.putfield 34, 3) := by decide +kernel
theorem dX0_forgetMark_15 : decode cX0_forgetMark 15 = .ok (.aload_n 0, 1) := by decide +kernel
theorem dX0_forgetMark_16 : decode cX0_forgetMark 16 = .ok (.dup, 1) := by decide +kernel
theorem dX0_forgetMark_17 : decode cX0_forgetMark 17 = .ok (.getfield 37, 3) := by decide +kernel
theorem dX0_forgetMark_20 : decode cX0_forgetMark 20 = .ok (.iload_n 1, 1) := by decide +kernel
theorem dX0_forgetMark_21 : decode cX0_forgetMark 21 = .ok (.invokestatic 75, 3) := by decide +kernel
theorem dX0_forgetMark_24 : decode cX0_forgetMark 24 = .ok (.iconst (-1), 1) := by decide +kernel
theorem dX0_forgetMark_25 : decode cX0_forgetMark 25 = .ok (.ixor, 1) := by decide +kernel
theorem dX0_forgetMark_26 : decode cX0_forgetMark 26 = .ok (.iand, 1) := by decide +kernel
theorem dX0_forgetMark_27 : decode cX0_forgetMark 27 = .ok (.putfield 37, 3) := by decide +kernel
theorem dX0_forgetMark_30 : decode cX0_forgetMark 30 = .ok (.return_, 1) := by decide +kernel
theorem dX0_isSilent_0 : decode cX0_isSilent 0 = .ok (.iconst 0, 1) := by decide +kernel
theorem dX0_isSilent_1 : decode cX0_isSilent 1 = .ok (.istore_n 1, 1) := by decide +kernel
theorem dX0_isSilent_2 : decode cX0_isSilent 2 = .ok (.iload_n 1, 1) := by decide +kernel
theorem dX0_isSilent_3 : decode cX0_isSilent 3 = .ok (.aload_n 0, 1) := by decide +kernel
theorem dX0_isSilent_4 : decode cX0_isSilent 4 = .ok (.getfield 9, 3) := by decide +kernel
theorem dX0_isSilent_7 : decode cX0_isSilent 7 = .ok (.if_icmp .ge 20, 3) := by decide +kernel
theorem dX0_isSilent_10 : decode cX0_isSilent 10 = .ok (.aload_n 0, 1) := by decide +kernel
theorem dX0_isSilent_11 : decode cX0_isSilent 11 = .ok (.getfield 19, 3) := by decide +kernel
theorem dX0_isSilent_14 : decode cX0_isSilent 14 = .ok (.iload_n 1, 1) := by decide +kernel
theorem dX0_isSilent_15 : decode cX0_isSilent 15 = .ok (.iaload, 1) := by decide +kernel
theorem dX0_isSilent_16 : decode cX0_isSilent 16 = .ok (.ifCond .eq 5, 3) := by decide +kernel
theorem dX0_isSilent_19 : decode cX0_isSilent 19 = .ok (.iconst 0, 1) := by decide +kernel
theorem dX0_isSilent_20 : decode cX0_isSilent 20 = .ok (.ireturn, 1) := by decide +kernel
theorem dX0_isSilent_21 : decode cX0_isSilent 21 = .ok (.iinc 1 1, 3) := by decide +kernel
theorem dX0_isSilent_24 : decode cX0_isSilent 24 = .ok (.goto (-22), 3) := by decide +kernel
theorem dX0_isSilent_27 : decode cX0_isSilent 27 = .ok (.iconst 1, 1) := by decide +kernel
theorem dX0_isSilent_28 : decode cX0_isSilent 28 = .ok (.ireturn, 1) := by decide +kernel
theorem dX0_stringOf_0 : decode cX0_stringOf 0 = .ok (.aload_n 0, 1) := by decide +kernel
theorem dX0_stringOf_1 : decode cX0_stringOf 1 = .ok (.getfield 22, 3) := by decide +kernel
theorem dX0_stringOf_4 : decode cX0_stringOf 4 = .ok (.iload_n 1, 1) := by decide +kernel
theorem dX0_stringOf_5 : decode cX0_stringOf 5 = .ok (.iaload, 1) := by decide +kernel
theorem dX0_stringOf_6 : decode cX0_stringOf 6 = .ok (.istore_n 3, 1) := by decide +kernel
theorem dX0_stringOf_7 : decode cX0_stringOf 7 = .ok (.iload_n 3, 1) := by decide +kernel
theorem dX0_stringOf_8 : decode cX0_stringOf 8 = .ok (.ifCond .lt 22, 3) := by decide +kernel
theorem dX0_stringOf_11 : decode cX0_stringOf 11 = .ok (.iload_n 2, 1) := by decide +kernel
theorem dX0_stringOf_12 : decode cX0_stringOf 12 = .ok (.iload_n 3, 1) := by decide +kernel
theorem dX0_stringOf_13 : decode cX0_stringOf 13 = .ok (.bipush 7, 2) := by decide +kernel
theorem dX0_stringOf_15 : decode cX0_stringOf 15 = .ok (.irem, 1) := by decide +kernel
theorem dX0_stringOf_16 : decode cX0_stringOf 16 = .ok (.invokestatic 84, 3) := by decide +kernel
theorem dX0_stringOf_19 : decode cX0_stringOf 19 = .ok (.aload_n 0, 1) := by decide +kernel
theorem dX0_stringOf_20 : decode cX0_stringOf 20 = .ok (.getfield 25, 3) := by decide +kernel
theorem dX0_stringOf_23 : decode cX0_stringOf 23 = .ok (.iload_n 1, 1) := by decide +kernel
theorem dX0_stringOf_24 : decode cX0_stringOf 24 = .ok (.iaload, 1) := by decide +kernel
theorem dX0_stringOf_25 : decode cX0_stringOf 25 = .ok (.if_icmp .ne 5, 3) := by decide +kernel
theorem dX0_stringOf_28 : decode cX0_stringOf 28 = .ok (.iload_n 3, 1) := by decide +kernel
theorem dX0_stringOf_29 : decode cX0_stringOf 29 = .ok (.ireturn, 1) := by decide +kernel
theorem dX0_stringOf_30 : decode cX0_stringOf 30 = .ok (.aload_n 0, 1) := by decide +kernel
theorem dX0_stringOf_31 : decode cX0_stringOf 31 = .ok (.getfield 28, 3) := by decide +kernel
theorem dX0_stringOf_34 : decode cX0_stringOf 34 = .ok (.iload_n 1, 1) := by decide +kernel
theorem dX0_stringOf_35 : decode cX0_stringOf 35 = .ok (.iaload, 1) := by decide +kernel
theorem dX0_stringOf_36 : decode cX0_stringOf 36 = .ok (.istore 4, 2) := by decide +kernel
theorem dX0_stringOf_38 : decode cX0_stringOf 38 = .ok (.iload 4, 2) := by decide +kernel
theorem dX0_stringOf_40 : decode cX0_stringOf 40 = .ok (.ifCond .lt 24, 3) := by decide +kernel
theorem dX0_stringOf_43 : decode cX0_stringOf 43 = .ok (.iload_n 2, 1) := by decide +kernel
theorem dX0_stringOf_44 : decode cX0_stringOf 44 = .ok (.iload 4, 2) := by decide +kernel
theorem dX0_stringOf_46 : decode cX0_stringOf 46 = .ok (.bipush 7, 2) := by decide +kernel
theorem dX0_stringOf_48 : decode cX0_stringOf 48 = .ok (.irem, 1) := by decide +kernel
theorem dX0_stringOf_49 : decode cX0_stringOf 49 = .ok (.invokestatic 84, 3) := by decide +kernel
theorem dX0_stringOf_52 : decode cX0_stringOf 52 = .ok (.aload_n 0, 1) := by decide +kernel
theorem dX0_stringOf_53 : decode cX0_stringOf 53 = .ok (.getfield 31, 3) := by decide +kernel
theorem dX0_stringOf_56 : decode cX0_stringOf 56 = .ok (.iload_n 1, 1) := by decide +kernel
theorem dX0_stringOf_57 : decode cX0_stringOf 57 = .ok (.iaload, 1) := by decide +kernel
theorem dX0_stringOf_58 : decode cX0_stringOf 58 = .ok (.if_icmp .ne 6, 3) := by decide +kernel
theorem dX0_stringOf_61 : decode cX0_stringOf 61 = .ok (.iload 4, 2) := by decide +kernel
theorem dX0_stringOf_63 : decode cX0_stringOf 63 = .ok (.ireturn, 1) := by decide +kernel
theorem dX0_stringOf_64 : decode cX0_stringOf 64 = .ok (.iconst (-1), 1) := by decide +kernel
theorem dX0_stringOf_65 : decode cX0_stringOf 65 = .ok (.ireturn, 1) := by decide +kernel
theorem dX0_locksBy_0 : decode cX0_locksBy 0 = .ok (.iload_n 1, 1) := by decide +kernel
theorem dX0_locksBy_1 : decode cX0_locksBy 1 = .ok (.aload_n 0, 1) := by decide +kernel
theorem dX0_locksBy_2 : decode cX0_locksBy 2 = .ok (.getfield 34, 3) := by decide +kernel
theorem dX0_locksBy_5 : decode cX0_locksBy 5 = .ok (.iand, 1) := by decide +kernel
theorem dX0_locksBy_6 : decode cX0_locksBy 6 = .ok (.aload_n 0, 1) := by decide +kernel
theorem dX0_locksBy_7 : decode cX0_locksBy 7 = .ok (.getfield 37, 3) := by decide +kernel
theorem dX0_locksBy_10 : decode cX0_locksBy 10 = .ok (.if_icmp .eq 5, 3) := by decide +kernel
theorem dX0_locksBy_13 : decode cX0_locksBy 13 = .ok (.iconst (-1), 1) := by decide +kernel
theorem dX0_locksBy_14 : decode cX0_locksBy 14 = .ok (.ireturn, 1) := by decide +kernel
theorem dX0_locksBy_15 : decode cX0_locksBy 15 = .ok (.lconst 0, 1) := by decide +kernel
theorem dX0_locksBy_16 : decode cX0_locksBy 16 = .ok (.lstore_n 2, 1) := by decide +kernel
theorem dX0_locksBy_17 : decode cX0_locksBy 17 = .ok (.iconst 0, 1) := by decide +kernel
theorem dX0_locksBy_18 : decode cX0_locksBy 18 = .ok (.istore 4, 2) := by decide +kernel
theorem dX0_locksBy_20 : decode cX0_locksBy 20 = .ok (.iconst 0, 1) := by decide +kernel
theorem dX0_locksBy_21 : decode cX0_locksBy 21 = .ok (.istore 5, 2) := by decide +kernel
theorem dX0_locksBy_23 : decode cX0_locksBy 23 = .ok (.iload 5, 2) := by decide +kernel
theorem dX0_locksBy_25 : decode cX0_locksBy 25 = .ok (.aload_n 0, 1) := by decide +kernel
theorem dX0_locksBy_26 : decode cX0_locksBy 26 = .ok (.getfield 9, 3) := by decide +kernel
theorem dX0_locksBy_29 : decode cX0_locksBy 29 = .ok (.if_icmp .ge 61, 3) := by decide +kernel
theorem dX0_locksBy_32 : decode cX0_locksBy 32 = .ok (.aload_n 0, 1) := by decide +kernel
theorem dX0_locksBy_33 : decode cX0_locksBy 33 = .ok (.iload 5, 2) := by decide +kernel
theorem dX0_locksBy_35 : decode cX0_locksBy 35 = .ok (.iload_n 1, 1) := by decide +kernel
theorem dX0_locksBy_36 : decode cX0_locksBy 36 = .ok (.invokevirtual 87, 3) := by decide +kernel
theorem dX0_locksBy_39 : decode cX0_locksBy 39 = .ok (.istore 6, 2) := by decide +kernel
theorem dX0_locksBy_41 : decode cX0_locksBy 41 = .ok (.iload 6, 2) := by decide +kernel
theorem dX0_locksBy_43 : decode cX0_locksBy 43 = .ok (.ifCond .lt 14, 3) := by decide +kernel
theorem dX0_locksBy_46 : decode cX0_locksBy 46 = .ok (.lload_n 2, 1) := by decide +kernel
theorem dX0_locksBy_47 : decode cX0_locksBy 47 = .ok (.iload 6, 2) := by decide +kernel
theorem dX0_locksBy_49 : decode cX0_locksBy 49 = .ok (.lshr, 1) := by decide +kernel
theorem dX0_locksBy_50 : decode cX0_locksBy 50 = .ok (.lconst 1, 1) := by decide +kernel
theorem dX0_locksBy_51 : decode cX0_locksBy 51 = .ok (.land, 1) := by decide +kernel
theorem dX0_locksBy_52 : decode cX0_locksBy 52 = .ok (.lconst 0, 1) := by decide +kernel
theorem dX0_locksBy_53 : decode cX0_locksBy 53 = .ok (.lcmp, 1) := by decide +kernel
theorem dX0_locksBy_54 : decode cX0_locksBy 54 = .ok (.ifCond .eq 5, 3) := by decide +kernel
theorem dX0_locksBy_57 : decode cX0_locksBy 57 = .ok (.iconst (-1), 1) := by decide +kernel
theorem dX0_locksBy_58 : decode cX0_locksBy 58 = .ok (.ireturn, 1) := by decide +kernel
theorem dX0_locksBy_59 : decode cX0_locksBy 59 = .ok (.lload_n 2, 1) := by decide +kernel
theorem dX0_locksBy_60 : decode cX0_locksBy 60 = .ok (.lconst 1, 1) := by decide +kernel
theorem dX0_locksBy_61 : decode cX0_locksBy 61 = .ok (.iload 6, 2) := by decide +kernel
theorem dX0_locksBy_63 : decode cX0_locksBy 63 = .ok (.lshl, 1) := by decide +kernel
theorem dX0_locksBy_64 : decode cX0_locksBy 64 = .ok (.lor, 1) := by decide +kernel
theorem dX0_locksBy_65 : decode cX0_locksBy 65 = .ok (.lstore_n 2, 1) := by decide +kernel
theorem dX0_locksBy_66 : decode cX0_locksBy 66 = .ok (.iload 4, 2) := by decide +kernel
theorem dX0_locksBy_68 : decode cX0_locksBy 68 = .ok (.aload_n 0, 1) := by decide +kernel
theorem dX0_locksBy_69 : decode cX0_locksBy 69 = .ok (.getfield 19, 3) := by decide +kernel
theorem dX0_locksBy_72 : decode cX0_locksBy 72 = .ok (.iload 5, 2) := by decide +kernel
theorem dX0_locksBy_74 : decode cX0_locksBy 74 = .ok (.iaload, 1) := by decide +kernel
theorem dX0_locksBy_75 : decode cX0_locksBy 75 = .ok (.iload 6, 2) := by decide +kernel
theorem dX0_locksBy_77 : decode cX0_locksBy 77 = .ok (.bipush 7, 2) := by decide +kernel
theorem dX0_locksBy_79 : decode cX0_locksBy 79 = .ok (.irem, 1) := by decide +kernel
theorem dX0_locksBy_80 : decode cX0_locksBy 80 = .ok (.ishl, 1) := by decide +kernel
theorem dX0_locksBy_81 : decode cX0_locksBy 81 = .ok (.ior, 1) := by decide +kernel
theorem dX0_locksBy_82 : decode cX0_locksBy 82 = .ok (.istore 4, 2) := by decide +kernel
theorem dX0_locksBy_84 : decode cX0_locksBy 84 = .ok (.iinc 5 1, 3) := by decide +kernel
theorem dX0_locksBy_87 : decode cX0_locksBy 87 = .ok (.goto (-64), 3) := by decide +kernel
theorem dX0_locksBy_90 : decode cX0_locksBy 90 = .ok (.iload 4, 2) := by decide +kernel
theorem dX0_locksBy_92 : decode cX0_locksBy 92 = .ok (.ireturn, 1) := by decide +kernel
theorem dX0_leastForLeft_0 : decode cX0_leastForLeft 0 = .ok (.aload_n 0, 1) := by decide +kernel
theorem dX0_leastForLeft_1 : decode cX0_leastForLeft 1 = .ok (.iload_n 1, 1) := by decide +kernel
theorem dX0_leastForLeft_2 : decode cX0_leastForLeft 2 = .ok (.invokevirtual 90, 3) := by decide +kernel
theorem dX0_leastForLeft_5 : decode cX0_leastForLeft 5 = .ok (.iconst 0, 1) := by decide +kernel
theorem dX0_leastForLeft_6 : decode cX0_leastForLeft 6 = .ok (.istore_n 2, 1) := by decide +kernel
theorem dX0_leastForLeft_7 : decode cX0_leastForLeft 7 = .ok (.iload_n 2, 1) := by decide +kernel
theorem dX0_leastForLeft_8 : decode cX0_leastForLeft 8 = .ok (.aload_n 0, 1) := by decide +kernel
theorem dX0_leastForLeft_9 : decode cX0_leastForLeft 9 = .ok (.getfield 9, 3) := by decide +kernel
theorem dX0_leastForLeft_12 : decode cX0_leastForLeft 12 = .ok (.if_icmp .gt 32, 3) := by decide +kernel
theorem dX0_leastForLeft_15 : decode cX0_leastForLeft 15 = .ok (.aload_n 0, 1) := by decide +kernel
theorem dX0_leastForLeft_16 : decode cX0_leastForLeft 16 = .ok (.iconst 0, 1) := by decide +kernel
theorem dX0_leastForLeft_17 : decode cX0_leastForLeft 17 = .ok (.iload_n 2, 1) := by decide +kernel
theorem dX0_leastForLeft_18 : decode cX0_leastForLeft 18 = .ok (.invokevirtual 94, 3) := by decide +kernel
theorem dX0_leastForLeft_21 : decode cX0_leastForLeft 21 = .ok (.ifCond .eq 17, 3) := by decide +kernel
theorem dX0_leastForLeft_24 : decode cX0_leastForLeft 24 = .ok (.aload_n 0, 1) := by decide +kernel
theorem dX0_leastForLeft_25 : decode cX0_leastForLeft 25 = .ok (.iload_n 2, 1) := by decide +kernel
theorem dX0_leastForLeft_26 : decode cX0_leastForLeft 26 = .ok (.aload_n 0, 1) := by decide +kernel
theorem dX0_leastForLeft_27 : decode cX0_leastForLeft 27 = .ok (.getfield 9, 3) := by decide +kernel
theorem dX0_leastForLeft_30 : decode cX0_leastForLeft 30 = .ok (.invokevirtual 94, 3) := by decide +kernel
theorem dX0_leastForLeft_33 : decode cX0_leastForLeft 33 = .ok (.ifCond .eq 5, 3) := by decide +kernel
theorem dX0_leastForLeft_36 : decode cX0_leastForLeft 36 = .ok (.iload_n 2, 1) := by decide +kernel
theorem dX0_leastForLeft_37 : decode cX0_leastForLeft 37 = .ok (.ireturn, 1) := by decide +kernel
theorem dX0_leastForLeft_38 : decode cX0_leastForLeft 38 = .ok (.iinc 2 1, 3) := by decide +kernel
theorem dX0_leastForLeft_41 : decode cX0_leastForLeft 41 = .ok (.goto (-34), 3) := by decide +kernel
theorem dX0_leastForLeft_44 : decode cX0_leastForLeft 44 = .ok (.iconst (-1), 1) := by decide +kernel
theorem dX0_leastForLeft_45 : decode cX0_leastForLeft 45 = .ok (.ireturn, 1) := by decide +kernel
theorem dX0_sortStrings_0 : decode cX0_sortStrings 0 = .ok (.iconst 0, 1) := by decide +kernel
theorem dX0_sortStrings_1 : decode cX0_sortStrings 1 = .ok (.istore_n 2, 1) := by decide +kernel
theorem dX0_sortStrings_2 : decode cX0_sortStrings 2 = .ok (.iload_n 2, 1) := by decide +kernel
theorem dX0_sortStrings_3 : decode cX0_sortStrings 3 = .ok (.aload_n 0, 1) := by decide +kernel
theorem dX0_sortStrings_4 : decode cX0_sortStrings 4 = .ok (.getfield 9, 3) := by decide +kernel
theorem dX0_sortStrings_7 : decode cX0_sortStrings 7 = .ok (.if_icmp .ge 96, 3) := by decide +kernel
theorem dX0_sortStrings_10 : decode cX0_sortStrings 10 = .ok (.aload_n 0, 1) := by decide +kernel
theorem dX0_sortStrings_11 : decode cX0_sortStrings 11 = .ok (.iload_n 2, 1) := by decide +kernel
theorem dX0_sortStrings_12 : decode cX0_sortStrings 12 = .ok (.iload_n 1, 1) := by decide +kernel
theorem dX0_sortStrings_13 : decode cX0_sortStrings 13 = .ok (.invokevirtual 87, 3) := by decide +kernel
theorem dX0_sortStrings_16 : decode cX0_sortStrings 16 = .ok (.istore_n 3, 1) := by decide +kernel
theorem dX0_sortStrings_17 : decode cX0_sortStrings 17 = .ok (.iload_n 2, 1) := by decide +kernel
theorem dX0_sortStrings_18 : decode cX0_sortStrings 18 = .ok (.istore 4, 2) := by decide +kernel
theorem dX0_sortStrings_20 : decode cX0_sortStrings 20 = .ok (.iload 4, 2) := by decide +kernel
theorem dX0_sortStrings_22 : decode cX0_sortStrings 22 = .ok (.ifCond .le 54, 3) := by decide +kernel
theorem dX0_sortStrings_25 : decode cX0_sortStrings 25 = .ok (.aload_n 0, 1) := by decide +kernel
theorem dX0_sortStrings_26 : decode cX0_sortStrings 26 = .ok (.getfield 40, 3) := by decide +kernel
theorem dX0_sortStrings_29 : decode cX0_sortStrings 29 = .ok (.iload 4, 2) := by decide +kernel
theorem dX0_sortStrings_31 : decode cX0_sortStrings 31 = .ok (.iconst 1, 1) := by decide +kernel
theorem dX0_sortStrings_32 : decode cX0_sortStrings 32 = .ok (.isub, 1) := by decide +kernel
theorem dX0_sortStrings_33 : decode cX0_sortStrings 33 = .ok (.iaload, 1) := by decide +kernel
theorem dX0_sortStrings_34 : decode cX0_sortStrings 34 = .ok (.iload_n 3, 1) := by decide +kernel
theorem dX0_sortStrings_35 : decode cX0_sortStrings 35 = .ok (.if_icmp .le 41, 3) := by decide +kernel
theorem dX0_sortStrings_38 : decode cX0_sortStrings 38 = .ok (.aload_n 0, 1) := by decide +kernel
theorem dX0_sortStrings_39 : decode cX0_sortStrings 39 = .ok (.getfield 40, 3) := by decide +kernel
theorem dX0_sortStrings_42 : decode cX0_sortStrings 42 = .ok (.iload 4, 2) := by decide +kernel
theorem dX0_sortStrings_44 : decode cX0_sortStrings 44 = .ok (.aload_n 0, 1) := by decide +kernel
theorem dX0_sortStrings_45 : decode cX0_sortStrings 45 = .ok (.getfield 40, 3) := by decide +kernel
theorem dX0_sortStrings_48 : decode cX0_sortStrings 48 = .ok (.iload 4, 2) := by decide +kernel
theorem dX0_sortStrings_50 : decode cX0_sortStrings 50 = .ok (.iconst 1, 1) := by decide +kernel
theorem dX0_sortStrings_51 : decode cX0_sortStrings 51 = .ok (.isub, 1) := by decide +kernel
theorem dX0_sortStrings_52 : decode cX0_sortStrings 52 = .ok (.iaload, 1) := by decide +kernel
theorem dX0_sortStrings_53 : decode cX0_sortStrings 53 = .ok (.iastore, 1) := by decide +kernel
theorem dX0_sortStrings_54 : decode cX0_sortStrings 54 = .ok (.aload_n 0, 1) := by decide +kernel
theorem dX0_sortStrings_55 : decode cX0_sortStrings 55 = .ok (.getfield 43, 3) := by decide +kernel
theorem dX0_sortStrings_58 : decode cX0_sortStrings 58 = .ok (.iload 4, 2) := by decide +kernel
theorem dX0_sortStrings_60 : decode cX0_sortStrings 60 = .ok (.aload_n 0, 1) := by decide +kernel
theorem dX0_sortStrings_61 : decode cX0_sortStrings 61 = .ok (.getfield 43, 3) := by decide +kernel
theorem dX0_sortStrings_64 : decode cX0_sortStrings 64 = .ok (.iload 4, 2) := by decide +kernel
theorem dX0_sortStrings_66 : decode cX0_sortStrings 66 = .ok (.iconst 1, 1) := by decide +kernel
theorem dX0_sortStrings_67 : decode cX0_sortStrings 67 = .ok (.isub, 1) := by decide +kernel
theorem dX0_sortStrings_68 : decode cX0_sortStrings 68 = .ok (.iaload, 1) := by decide +kernel
theorem dX0_sortStrings_69 : decode cX0_sortStrings 69 = .ok (.iastore, 1) := by decide +kernel
theorem dX0_sortStrings_70 : decode cX0_sortStrings 70 = .ok (.iinc 4 (-1), 3) := by decide +kernel
theorem dX0_sortStrings_73 : decode cX0_sortStrings 73 = .ok (.goto (-53), 3) := by decide +kernel
theorem dX0_sortStrings_76 : decode cX0_sortStrings 76 = .ok (.aload_n 0, 1) := by decide +kernel
theorem dX0_sortStrings_77 : decode cX0_sortStrings 77 = .ok (.getfield 40, 3) := by decide +kernel
theorem dX0_sortStrings_80 : decode cX0_sortStrings 80 = .ok (.iload 4, 2) := by decide +kernel
theorem dX0_sortStrings_82 : decode cX0_sortStrings 82 = .ok (.iload_n 3, 1) := by decide +kernel
theorem dX0_sortStrings_83 : decode cX0_sortStrings 83 = .ok (.iastore, 1) := by decide +kernel
theorem dX0_sortStrings_84 : decode cX0_sortStrings 84 = .ok (.aload_n 0, 1) := by decide +kernel
theorem dX0_sortStrings_85 : decode cX0_sortStrings 85 = .ok (.getfield 43, 3) := by decide +kernel
theorem dX0_sortStrings_88 : decode cX0_sortStrings 88 = .ok (.iload 4, 2) := by decide +kernel
theorem dX0_sortStrings_90 : decode cX0_sortStrings 90 = .ok (.aload_n 0, 1) := by decide +kernel
theorem dX0_sortStrings_91 : decode cX0_sortStrings 91 = .ok (.getfield 15, 3) := by decide +kernel
theorem dX0_sortStrings_94 : decode cX0_sortStrings 94 = .ok (.iload_n 2, 1) := by decide +kernel
theorem dX0_sortStrings_95 : decode cX0_sortStrings 95 = .ok (.iaload, 1) := by decide +kernel
theorem dX0_sortStrings_96 : decode cX0_sortStrings 96 = .ok (.iastore, 1) := by decide +kernel
theorem dX0_sortStrings_97 : decode cX0_sortStrings 97 = .ok (.iinc 2 1, 3) := by decide +kernel
theorem dX0_sortStrings_100 : decode cX0_sortStrings 100 = .ok (.goto (-98), 3) := by decide +kernel
theorem dX0_sortStrings_103 : decode cX0_sortStrings 103 = .ok (.return_, 1) := by decide +kernel
theorem dX0_handCan_0 : decode cX0_handCan 0 = .ok (.iload_n 1, 1) := by decide +kernel
theorem dX0_handCan_1 : decode cX0_handCan 1 = .ok (.iload_n 2, 1) := by decide +kernel
theorem dX0_handCan_2 : decode cX0_handCan 2 = .ok (.if_icmp .lt 5, 3) := by decide +kernel
theorem dX0_handCan_5 : decode cX0_handCan 5 = .ok (.iconst 1, 1) := by decide +kernel
theorem dX0_handCan_6 : decode cX0_handCan 6 = .ok (.ireturn, 1) := by decide +kernel
theorem dX0_handCan_7 : decode cX0_handCan 7 = .ok (.iconst 0, 1) := by decide +kernel
theorem dX0_handCan_8 : decode cX0_handCan 8 = .ok (.istore_n 3, 1) := by decide +kernel
theorem dX0_handCan_9 : decode cX0_handCan 9 = .ok (.iload_n 1, 1) := by decide +kernel
theorem dX0_handCan_10 : decode cX0_handCan 10 = .ok (.istore 4, 2) := by decide +kernel
theorem dX0_handCan_12 : decode cX0_handCan 12 = .ok (.iload 4, 2) := by decide +kernel
theorem dX0_handCan_14 : decode cX0_handCan 14 = .ok (.iload_n 2, 1) := by decide +kernel
theorem dX0_handCan_15 : decode cX0_handCan 15 = .ok (.if_icmp .ge 19, 3) := by decide +kernel
theorem dX0_handCan_18 : decode cX0_handCan 18 = .ok (.iload_n 3, 1) := by decide +kernel
theorem dX0_handCan_19 : decode cX0_handCan 19 = .ok (.aload_n 0, 1) := by decide +kernel
theorem dX0_handCan_20 : decode cX0_handCan 20 = .ok (.getfield 43, 3) := by decide +kernel
theorem dX0_handCan_23 : decode cX0_handCan 23 = .ok (.iload 4, 2) := by decide +kernel
theorem dX0_handCan_25 : decode cX0_handCan 25 = .ok (.iaload, 1) := by decide +kernel
theorem dX0_handCan_26 : decode cX0_handCan 26 = .ok (.iadd, 1) := by decide +kernel
theorem dX0_handCan_27 : decode cX0_handCan 27 = .ok (.istore_n 3, 1) := by decide +kernel
theorem dX0_handCan_28 : decode cX0_handCan 28 = .ok (.iinc 4 1, 3) := by decide +kernel
theorem dX0_handCan_31 : decode cX0_handCan 31 = .ok (.goto (-19), 3) := by decide +kernel
theorem dX0_handCan_34 : decode cX0_handCan 34 = .ok (.iload_n 3, 1) := by decide +kernel
theorem dX0_handCan_35 : decode cX0_handCan 35 = .ok (.iconst 4, 1) := by decide +kernel
theorem dX0_handCan_36 : decode cX0_handCan 36 = .ok (.if_icmp .gt 27, 3) := by decide +kernel
theorem dX0_handCan_39 : decode cX0_handCan 39 = .ok (.aload_n 0, 1) := by decide +kernel
theorem dX0_handCan_40 : decode cX0_handCan 40 = .ok (.getfield 40, 3) := by decide +kernel
theorem dX0_handCan_43 : decode cX0_handCan 43 = .ok (.iload_n 2, 1) := by decide +kernel
theorem dX0_handCan_44 : decode cX0_handCan 44 = .ok (.iconst 1, 1) := by decide +kernel
theorem dX0_handCan_45 : decode cX0_handCan 45 = .ok (.isub, 1) := by decide +kernel
theorem dX0_handCan_46 : decode cX0_handCan 46 = .ok (.iaload, 1) := by decide +kernel
theorem dX0_handCan_47 : decode cX0_handCan 47 = .ok (.aload_n 0, 1) := by decide +kernel
theorem dX0_handCan_48 : decode cX0_handCan 48 = .ok (.getfield 40, 3) := by decide +kernel
theorem dX0_handCan_51 : decode cX0_handCan 51 = .ok (.iload_n 1, 1) := by decide +kernel
theorem dX0_handCan_52 : decode cX0_handCan 52 = .ok (.iaload, 1) := by decide +kernel
theorem dX0_handCan_53 : decode cX0_handCan 53 = .ok (.isub, 1) := by decide +kernel
theorem dX0_handCan_54 : decode cX0_handCan 54 = .ok (.bipush 9, 2) := by decide +kernel
theorem dX0_handCan_56 : decode cX0_handCan 56 = .ok (.if_icmp .gt 7, 3) := by decide +kernel
theorem dX0_handCan_59 : decode cX0_handCan 59 = .ok (.iconst 1, 1) := by decide +kernel
theorem dX0_handCan_60 : decode cX0_handCan 60 = .ok (.goto 4, 3) := by decide +kernel
theorem dX0_handCan_63 : decode cX0_handCan 63 = .ok (.iconst 0, 1) := by decide +kernel
theorem dX0_handCan_64 : decode cX0_handCan 64 = .ok (.ireturn, 1) := by decide +kernel
