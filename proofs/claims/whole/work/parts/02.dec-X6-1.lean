theorem dX6_tune_13 : decode cX6_tune 13 = .ok (.ireturn, 1) := by decide +kernel
theorem dX6_tune_14 : decode cX6_tune 14 = .ok (.aload_n 0, 1) := by decide +kernel
theorem dX6_tune_15 : decode cX6_tune 15 = .ok (.getfield 49, 3) := by decide +kernel
theorem dX6_tune_18 : decode cX6_tune 18 = .ok (.iload_n 1, 1) := by decide +kernel
theorem dX6_tune_19 : decode cX6_tune 19 = .ok (.invokevirtual 218, 3) := by decide +kernel
theorem dX6_tune_22 : decode cX6_tune 22 = .ok (.ifCond .eq 10, 3) := by decide +kernel
theorem dX6_tune_25 : decode cX6_tune 25 = .ok (.aload_n 0, 1) := by decide +kernel
theorem dX6_tune_26 : decode cX6_tune 26 = .ok (.ldc 221, 2) := by decide +kernel
theorem dX6_tune_28 : decode cX6_tune 28 = .ok (.invokevirtual 58, 3) := by decide +kernel
theorem dX6_tune_31 : decode cX6_tune 31 = .ok (.ireturn, 1) := by decide +kernel
theorem dX6_tune_32 : decode cX6_tune 32 = .ok (.aload_n 0, 1) := by decide +kernel
theorem dX6_tune_33 : decode cX6_tune 33 = .ok (.getfield 49, 3) := by decide +kernel
theorem dX6_tune_36 : decode cX6_tune 36 = .ok (.getfield 222, 3) := by decide +kernel
theorem dX6_tune_39 : decode cX6_tune 39 = .ok (.iload_n 1, 1) := by decide +kernel
theorem dX6_tune_40 : decode cX6_tune 40 = .ok (.iaload, 1) := by decide +kernel
theorem dX6_tune_41 : decode cX6_tune 41 = .ok (.istore_n 2, 1) := by decide +kernel
theorem dX6_tune_42 : decode cX6_tune 42 = .ok (.iload_n 2, 1) := by decide +kernel
theorem dX6_tune_43 : decode cX6_tune 43 = .ok (.bipush 12, 2) := by decide +kernel
theorem dX6_tune_45 : decode cX6_tune 45 = .ok (.if_icmp .le 10, 3) := by decide +kernel
theorem dX6_tune_48 : decode cX6_tune 48 = .ok (.aload_n 0, 1) := by decide +kernel
theorem dX6_tune_49 : decode cX6_tune 49 = .ok (.ldc 117, 2) := by decide +kernel
theorem dX6_tune_51 : decode cX6_tune 51 = .ok (.invokevirtual 58, 3) := by decide +kernel
theorem dX6_tune_54 : decode cX6_tune 54 = .ok (.ireturn, 1) := by decide +kernel
theorem dX6_tune_55 : decode cX6_tune 55 = .ok (.aload_n 0, 1) := by decide +kernel
theorem dX6_tune_56 : decode cX6_tune 56 = .ok (.getfield 49, 3) := by decide +kernel
theorem dX6_tune_59 : decode cX6_tune 59 = .ok (.iload_n 1, 1) := by decide +kernel
theorem dX6_tune_60 : decode cX6_tune 60 = .ok (.bipush 100, 2) := by decide +kernel
theorem dX6_tune_62 : decode cX6_tune 62 = .ok (.invokevirtual 244, 3) := by decide +kernel
theorem dX6_tune_65 : decode cX6_tune 65 = .ok (.ifCond .eq 10, 3) := by decide +kernel
theorem dX6_tune_68 : decode cX6_tune 68 = .ok (.aload_n 0, 1) := by decide +kernel
theorem dX6_tune_69 : decode cX6_tune 69 = .ok (.ldc 57, 2) := by decide +kernel
theorem dX6_tune_71 : decode cX6_tune 71 = .ok (.invokevirtual 58, 3) := by decide +kernel
theorem dX6_tune_74 : decode cX6_tune 74 = .ok (.ireturn, 1) := by decide +kernel
theorem dX6_tune_75 : decode cX6_tune 75 = .ok (.aload_n 0, 1) := by decide +kernel
theorem dX6_tune_76 : decode cX6_tune 76 = .ok (.getfield 26, 3) := by decide +kernel
theorem dX6_tune_79 : decode cX6_tune 79 = .ok (.aload_n 0, 1) := by decide +kernel
theorem dX6_tune_80 : decode cX6_tune 80 = .ok (.getfield 19, 3) := by decide +kernel
theorem dX6_tune_83 : decode cX6_tune 83 = .ok (.invokevirtual 62, 3) := by decide +kernel
theorem dX6_tune_86 : decode cX6_tune 86 = .ok (.aload_n 0, 1) := by decide +kernel
theorem dX6_tune_87 : decode cX6_tune 87 = .ok (.getfield 19, 3) := by decide +kernel
theorem dX6_tune_90 : decode cX6_tune 90 = .ok (.aload_n 0, 1) := by decide +kernel
theorem dX6_tune_91 : decode cX6_tune 91 = .ok (.getfield 49, 3) := by decide +kernel
theorem dX6_tune_94 : decode cX6_tune 94 = .ok (.getfield 234, 3) := by decide +kernel
theorem dX6_tune_97 : decode cX6_tune 97 = .ok (.iload_n 1, 1) := by decide +kernel
theorem dX6_tune_98 : decode cX6_tune 98 = .ok (.aaload, 1) := by decide +kernel
theorem dX6_tune_99 : decode cX6_tune 99 = .ok (.iload_n 2, 1) := by decide +kernel
theorem dX6_tune_100 : decode cX6_tune 100 = .ok (.invokevirtual 247, 3) := by decide +kernel
theorem dX6_tune_103 : decode cX6_tune 103 = .ok (.istore_n 3, 1) := by decide +kernel
theorem dX6_tune_104 : decode cX6_tune 104 = .ok (.aload_n 0, 1) := by decide +kernel
theorem dX6_tune_105 : decode cX6_tune 105 = .ok (.getfield 42, 3) := by decide +kernel
theorem dX6_tune_108 : decode cX6_tune 108 = .ok (.iconst 0, 1) := by decide +kernel
theorem dX6_tune_109 : decode cX6_tune 109 = .ok (.iload_n 2, 1) := by decide +kernel
theorem dX6_tune_110 : decode cX6_tune 110 = .ok (.iconst 1, 1) := by decide +kernel
theorem dX6_tune_111 : decode cX6_tune 111 = .ok (.isub, 1) := by decide +kernel
theorem dX6_tune_112 : decode cX6_tune 112 = .ok (.invokevirtual 88, 3) := by decide +kernel
theorem dX6_tune_115 : decode cX6_tune 115 = .ok (.iload_n 3, 1) := by decide +kernel
theorem dX6_tune_116 : decode cX6_tune 116 = .ok (.ireturn, 1) := by decide +kernel
theorem dX6_undo_0 : decode cX6_undo 0 = .ok (.aload_n 0, 1) := by decide +kernel
theorem dX6_undo_1 : decode cX6_undo 1 = .ok (.getfield 26, 3) := by decide +kernel
theorem dX6_undo_4 : decode cX6_undo 4 = .ok (.getfield 251, 3) := by decide +kernel
theorem dX6_undo_7 : decode cX6_undo 7 = .ok (.ifCond .ne 10, 3) := by decide +kernel
theorem dX6_undo_10 : decode cX6_undo 10 = .ok (.aload_n 0, 1) := by decide +kernel
theorem dX6_undo_11 : decode cX6_undo 11 = .ok (.ldc 92, 2) := by decide +kernel
theorem dX6_undo_13 : decode cX6_undo 13 = .ok (.invokevirtual 58, 3) := by decide +kernel
theorem dX6_undo_16 : decode cX6_undo 16 = .ok (.ireturn, 1) := by decide +kernel
theorem dX6_undo_17 : decode cX6_undo 17 = .ok (.aload_n 0, 1) := by decide +kernel
theorem dX6_undo_18 : decode cX6_undo 18 = .ok (.getfield 26, 3) := by decide +kernel
theorem dX6_undo_21 : decode cX6_undo 21 = .ok (.aload_n 0, 1) := by decide +kernel
theorem dX6_undo_22 : decode cX6_undo 22 = .ok (.getfield 19, 3) := by decide +kernel
theorem dX6_undo_25 : decode cX6_undo 25 = .ok (.invokevirtual 254, 3) := by decide +kernel
theorem dX6_undo_28 : decode cX6_undo 28 = .ok (.aload_n 0, 1) := by decide +kernel
theorem dX6_undo_29 : decode cX6_undo 29 = .ok (.getfield 42, 3) := by decide +kernel
theorem dX6_undo_32 : decode cX6_undo 32 = .ok (.invokevirtual 257, 3) := by decide +kernel
theorem dX6_undo_35 : decode cX6_undo 35 = .ok (.aload_n 0, 1) := by decide +kernel
theorem dX6_undo_36 : decode cX6_undo 36 = .ok (.getfield 26, 3) := by decide +kernel
theorem dX6_undo_39 : decode cX6_undo 39 = .ok (.getfield 251, 3) := by decide +kernel
theorem dX6_undo_42 : decode cX6_undo 42 = .ok (.ireturn, 1) := by decide +kernel
theorem dX6_all_0 : decode cX6_all 0 = .ok (.iload_n 1, 1) := by decide +kernel
theorem dX6_all_1 : decode cX6_all 1 = .ok (.tableswitch 60 0 3 #[31, 39, 47, 55], 31) := by decide +kernel
theorem dX6_all_32 : decode cX6_all 32 = .ok (.aload_n 0, 1) := by decide +kernel
theorem dX6_all_33 : decode cX6_all 33 = .ok (.getfield 19, 3) := by decide +kernel
theorem dX6_all_36 : decode cX6_all 36 = .ok (.getfield 66, 3) := by decide +kernel
theorem dX6_all_39 : decode cX6_all 39 = .ok (.ireturn, 1) := by decide +kernel
theorem dX6_all_40 : decode cX6_all 40 = .ok (.aload_n 0, 1) := by decide +kernel
theorem dX6_all_41 : decode cX6_all 41 = .ok (.getfield 19, 3) := by decide +kernel
theorem dX6_all_44 : decode cX6_all 44 = .ok (.invokevirtual 122, 3) := by decide +kernel
theorem dX6_all_47 : decode cX6_all 47 = .ok (.ireturn, 1) := by decide +kernel
theorem dX6_all_48 : decode cX6_all 48 = .ok (.aload_n 0, 1) := by decide +kernel
theorem dX6_all_49 : decode cX6_all 49 = .ok (.getfield 19, 3) := by decide +kernel
theorem dX6_all_52 : decode cX6_all 52 = .ok (.invokevirtual 260, 3) := by decide +kernel
theorem dX6_all_55 : decode cX6_all 55 = .ok (.ireturn, 1) := by decide +kernel
theorem dX6_all_56 : decode cX6_all 56 = .ok (.aload_n 0, 1) := by decide +kernel
theorem dX6_all_57 : decode cX6_all 57 = .ok (.getfield 53, 3) := by decide +kernel
theorem dX6_all_60 : decode cX6_all 60 = .ok (.ireturn, 1) := by decide +kernel
theorem dX6_all_61 : decode cX6_all 61 = .ok (.aload_n 0, 1) := by decide +kernel
theorem dX6_all_62 : decode cX6_all 62 = .ok (.ldc 57, 2) := by decide +kernel
theorem dX6_all_64 : decode cX6_all 64 = .ok (.invokevirtual 58, 3) := by decide +kernel
theorem dX6_all_67 : decode cX6_all 67 = .ok (.ireturn, 1) := by decide +kernel
theorem dX6_finding_0 : decode cX6_finding 0 = .ok (.aload_n 0, 1) := by decide +kernel
theorem dX6_finding_1 : decode cX6_finding 1 = .ok (.dup, 1) := by decide +kernel
theorem dX6_finding_2 : decode cX6_finding 2 = .ok (.getfield 53, 3) := by decide +kernel
theorem dX6_finding_5 : decode cX6_finding 5 = .ok (.iconst 1, 1) := by decide +kernel
theorem dX6_finding_6 : decode cX6_finding 6 = .ok (.iadd, 1) := by decide +kernel
theorem dX6_finding_7 : decode cX6_finding 7 = .ok (.putfield 53, 3) := by decide +kernel
theorem dX6_finding_10 : decode cX6_finding 10 = .ok (.iload_n 1, 1) := by decide +kernel
theorem dX6_finding_11 : decode cX6_finding 11 = .ok (.ireturn, 1) := by decide +kernel
theorem dX6_isBeat_0 : decode cX6_isBeat 0 = .ok (.iload_n 0, 1) := by decide +kernel
theorem dX6_isBeat_1 : decode cX6_isBeat 1 = .ok (.ifCond .lt 13, 3) := by decide +kernel
theorem dX6_isBeat_4 : decode cX6_isBeat 4 = .ok (.iload_n 0, 1) := by decide +kernel
theorem dX6_isBeat_5 : decode cX6_isBeat 5 = .ok (.bipush 12, 2) := by decide +kernel
theorem dX6_isBeat_7 : decode cX6_isBeat 7 = .ok (.if_icmp .ge 7, 3) := by decide +kernel
theorem dX6_isBeat_10 : decode cX6_isBeat 10 = .ok (.iconst 1, 1) := by decide +kernel
theorem dX6_isBeat_11 : decode cX6_isBeat 11 = .ok (.goto 4, 3) := by decide +kernel
theorem dX6_isBeat_14 : decode cX6_isBeat 14 = .ok (.iconst 0, 1) := by decide +kernel
theorem dX6_isBeat_15 : decode cX6_isBeat 15 = .ok (.ireturn, 1) := by decide +kernel
theorem dX6_isPlayed_0 : decode cX6_isPlayed 0 = .ok (.iload_n 1, 1) := by decide +kernel
theorem dX6_isPlayed_1 : decode cX6_isPlayed 1 = .ok (.ifCond .lt 18, 3) := by decide +kernel
theorem dX6_isPlayed_4 : decode cX6_isPlayed 4 = .ok (.iload_n 1, 1) := by decide +kernel
theorem dX6_isPlayed_5 : decode cX6_isPlayed 5 = .ok (.aload_n 0, 1) := by decide +kernel
theorem dX6_isPlayed_6 : decode cX6_isPlayed 6 = .ok (.getfield 19, 3) := by decide +kernel
theorem dX6_isPlayed_9 : decode cX6_isPlayed 9 = .ok (.getfield 66, 3) := by decide +kernel
theorem dX6_isPlayed_12 : decode cX6_isPlayed 12 = .ok (.if_icmp .ge 7, 3) := by decide +kernel
theorem dX6_isPlayed_15 : decode cX6_isPlayed 15 = .ok (.iconst 1, 1) := by decide +kernel
theorem dX6_isPlayed_16 : decode cX6_isPlayed 16 = .ok (.goto 4, 3) := by decide +kernel
theorem dX6_isPlayed_19 : decode cX6_isPlayed 19 = .ok (.iconst 0, 1) := by decide +kernel
theorem dX6_isPlayed_20 : decode cX6_isPlayed 20 = .ok (.ireturn, 1) := by decide +kernel
theorem dX6_isNote_0 : decode cX6_isNote 0 = .ok (.iload_n 1, 1) := by decide +kernel
theorem dX6_isNote_1 : decode cX6_isNote 1 = .ok (.invokestatic 72, 3) := by decide +kernel
theorem dX6_isNote_4 : decode cX6_isNote 4 = .ok (.ifCond .eq 24, 3) := by decide +kernel
theorem dX6_isNote_7 : decode cX6_isNote 7 = .ok (.iload_n 2, 1) := by decide +kernel
theorem dX6_isNote_8 : decode cX6_isNote 8 = .ok (.ifCond .lt 20, 3) := by decide +kernel
theorem dX6_isNote_11 : decode cX6_isNote 11 = .ok (.iload_n 2, 1) := by decide +kernel
theorem dX6_isNote_12 : decode cX6_isNote 12 = .ok (.aload_n 0, 1) := by decide +kernel
theorem dX6_isNote_13 : decode cX6_isNote 13 = .ok (.getfield 19, 3) := by decide +kernel
theorem dX6_isNote_16 : decode cX6_isNote 16 = .ok (.getfield 79, 3) := by decide +kernel
theorem dX6_isNote_19 : decode cX6_isNote 19 = .ok (.iload_n 1, 1) := by decide +kernel
theorem dX6_isNote_20 : decode cX6_isNote 20 = .ok (.iaload, 1) := by decide +kernel
theorem dX6_isNote_21 : decode cX6_isNote 21 = .ok (.if_icmp .ge 7, 3) := by decide +kernel
theorem dX6_isNote_24 : decode cX6_isNote 24 = .ok (.iconst 1, 1) := by decide +kernel
theorem dX6_isNote_25 : decode cX6_isNote 25 = .ok (.goto 4, 3) := by decide +kernel
theorem dX6_isNote_28 : decode cX6_isNote 28 = .ok (.iconst 0, 1) := by decide +kernel
theorem dX6_isNote_29 : decode cX6_isNote 29 = .ok (.ireturn, 1) := by decide +kernel
theorem dX6_isKind_0 : decode cX6_isKind 0 = .ok (.iload_n 0, 1) := by decide +kernel
theorem dX6_isKind_1 : decode cX6_isKind 1 = .ok (.ifCond .lt 12, 3) := by decide +kernel
theorem dX6_isKind_4 : decode cX6_isKind 4 = .ok (.iload_n 0, 1) := by decide +kernel
theorem dX6_isKind_5 : decode cX6_isKind 5 = .ok (.iconst 4, 1) := by decide +kernel
theorem dX6_isKind_6 : decode cX6_isKind 6 = .ok (.if_icmp .ge 7, 3) := by decide +kernel
theorem dX6_isKind_9 : decode cX6_isKind 9 = .ok (.iconst 1, 1) := by decide +kernel
theorem dX6_isKind_10 : decode cX6_isKind 10 = .ok (.goto 4, 3) := by decide +kernel
theorem dX6_isKind_13 : decode cX6_isKind 13 = .ok (.iconst 0, 1) := by decide +kernel
theorem dX6_isKind_14 : decode cX6_isKind 14 = .ok (.ireturn, 1) := by decide +kernel
theorem dX6_isUnder_0 : decode cX6_isUnder 0 = .ok (.iload_n 0, 1) := by decide +kernel
theorem dX6_isUnder_1 : decode cX6_isUnder 1 = .ok (.istore_n 2, 1) := by decide +kernel
theorem dX6_isUnder_2 : decode cX6_isUnder 2 = .ok (.iconst 0, 1) := by decide +kernel
theorem dX6_isUnder_3 : decode cX6_isUnder 3 = .ok (.istore_n 3, 1) := by decide +kernel
theorem dX6_isUnder_4 : decode cX6_isUnder 4 = .ok (.iload_n 3, 1) := by decide +kernel
theorem dX6_isUnder_5 : decode cX6_isUnder 5 = .ok (.iconst 4, 1) := by decide +kernel
theorem dX6_isUnder_6 : decode cX6_isUnder 6 = .ok (.if_icmp .ge 29, 3) := by decide +kernel
theorem dX6_isUnder_9 : decode cX6_isUnder 9 = .ok (.iload_n 2, 1) := by decide +kernel
theorem dX6_isUnder_10 : decode cX6_isUnder 10 = .ok (.invokestatic 76, 3) := by decide +kernel
theorem dX6_isUnder_13 : decode cX6_isUnder 13 = .ok (.ifCond .eq 22, 3) := by decide +kernel
theorem dX6_isUnder_16 : decode cX6_isUnder 16 = .ok (.iload_n 2, 1) := by decide +kernel
theorem dX6_isUnder_17 : decode cX6_isUnder 17 = .ok (.iload_n 1, 1) := by decide +kernel
theorem dX6_isUnder_18 : decode cX6_isUnder 18 = .ok (.if_icmp .ne 5, 3) := by decide +kernel
theorem dX6_isUnder_21 : decode cX6_isUnder 21 = .ok (.iconst 1, 1) := by decide +kernel
theorem dX6_isUnder_22 : decode cX6_isUnder 22 = .ok (.ireturn, 1) := by decide +kernel
theorem dX6_isUnder_23 : decode cX6_isUnder 23 = .ok (.getstatic 263, 3) := by decide +kernel
theorem dX6_isUnder_26 : decode cX6_isUnder 26 = .ok (.iload_n 2, 1) := by decide +kernel
theorem dX6_isUnder_27 : decode cX6_isUnder 27 = .ok (.iaload, 1) := by decide +kernel
theorem dX6_isUnder_28 : decode cX6_isUnder 28 = .ok (.istore_n 2, 1) := by decide +kernel
theorem dX6_isUnder_29 : decode cX6_isUnder 29 = .ok (.iinc 3 1, 3) := by decide +kernel
theorem dX6_isUnder_32 : decode cX6_isUnder 32 = .ok (.goto (-28), 3) := by decide +kernel
theorem dX6_isUnder_35 : decode cX6_isUnder 35 = .ok (.iconst 0, 1) := by decide +kernel
theorem dX6_isUnder_36 : decode cX6_isUnder 36 = .ok (.ireturn, 1) := by decide +kernel
theorem dX6_isPedal_0 : decode cX6_isPedal 0 = .ok (.iload_n 0, 1) := by decide +kernel
theorem dX6_isPedal_1 : decode cX6_isPedal 1 = .ok (.ifCond .lt 13, 3) := by decide +kernel
theorem dX6_isPedal_4 : decode cX6_isPedal 4 = .ok (.iload_n 0, 1) := by decide +kernel
theorem dX6_isPedal_5 : decode cX6_isPedal 5 = .ok (.bipush 7, 2) := by decide +kernel
theorem dX6_isPedal_7 : decode cX6_isPedal 7 = .ok (.if_icmp .ge 7, 3) := by decide +kernel
theorem dX6_isPedal_10 : decode cX6_isPedal 10 = .ok (.iconst 1, 1) := by decide +kernel
theorem dX6_isPedal_11 : decode cX6_isPedal 11 = .ok (.goto 4, 3) := by decide +kernel
theorem dX6_isPedal_14 : decode cX6_isPedal 14 = .ok (.iconst 0, 1) := by decide +kernel
theorem dX6_isPedal_15 : decode cX6_isPedal 15 = .ok (.ireturn, 1) := by decide +kernel
theorem dX6_isStandOrNone_0 : decode cX6_isStandOrNone 0 = .ok (.iload_n 0, 1) := by decide +kernel
theorem dX6_isStandOrNone_1 : decode cX6_isStandOrNone 1 = .ok (.iconst (-1), 1) := by decide +kernel
theorem dX6_isStandOrNone_2 : decode cX6_isStandOrNone 2 = .ok (.if_icmp .lt 12, 3) := by decide +kernel
theorem dX6_isStandOrNone_5 : decode cX6_isStandOrNone 5 = .ok (.iload_n 0, 1) := by decide +kernel
theorem dX6_isStandOrNone_6 : decode cX6_isStandOrNone 6 = .ok (.iconst 3, 1) := by decide +kernel
theorem dX6_isStandOrNone_7 : decode cX6_isStandOrNone 7 = .ok (.if_icmp .ge 7, 3) := by decide +kernel
theorem dX6_isStandOrNone_10 : decode cX6_isStandOrNone 10 = .ok (.iconst 1, 1) := by decide +kernel
theorem dX6_isStandOrNone_11 : decode cX6_isStandOrNone 11 = .ok (.goto 4, 3) := by decide +kernel
theorem dX6_isStandOrNone_14 : decode cX6_isStandOrNone 14 = .ok (.iconst 0, 1) := by decide +kernel
theorem dX6_isStandOrNone_15 : decode cX6_isStandOrNone 15 = .ok (.ireturn, 1) := by decide +kernel
theorem dX6_isString_0 : decode cX6_isString 0 = .ok (.iload_n 0, 1) := by decide +kernel
theorem dX6_isString_1 : decode cX6_isString 1 = .ok (.ifCond .lt 13, 3) := by decide +kernel
theorem dX6_isString_4 : decode cX6_isString 4 = .ok (.iload_n 0, 1) := by decide +kernel
theorem dX6_isString_5 : decode cX6_isString 5 = .ok (.bipush 42, 2) := by decide +kernel
theorem dX6_isString_7 : decode cX6_isString 7 = .ok (.if_icmp .ge 7, 3) := by decide +kernel
theorem dX6_isString_10 : decode cX6_isString 10 = .ok (.iconst 1, 1) := by decide +kernel
theorem dX6_isString_11 : decode cX6_isString 11 = .ok (.goto 4, 3) := by decide +kernel
theorem dX6_isString_14 : decode cX6_isString 14 = .ok (.iconst 0, 1) := by decide +kernel
theorem dX6_isString_15 : decode cX6_isString 15 = .ok (.ireturn, 1) := by decide +kernel
theorem dX6_isDiagram_0 : decode cX6_isDiagram 0 = .ok (.iload_n 0, 1) := by decide +kernel
theorem dX6_isDiagram_1 : decode cX6_isDiagram 1 = .ok (.ifCond .lt 14, 3) := by decide +kernel
theorem dX6_isDiagram_4 : decode cX6_isDiagram 4 = .ok (.iload_n 0, 1) := by decide +kernel
theorem dX6_isDiagram_5 : decode cX6_isDiagram 5 = .ok (.sipush 2187, 3) := by decide +kernel
theorem dX6_isDiagram_8 : decode cX6_isDiagram 8 = .ok (.if_icmp .ge 7, 3) := by decide +kernel
theorem dX6_isDiagram_11 : decode cX6_isDiagram 11 = .ok (.iconst 1, 1) := by decide +kernel
theorem dX6_isDiagram_12 : decode cX6_isDiagram 12 = .ok (.goto 4, 3) := by decide +kernel
theorem dX6_isDiagram_15 : decode cX6_isDiagram 15 = .ok (.iconst 0, 1) := by decide +kernel
theorem dX6_isDiagram_16 : decode cX6_isDiagram 16 = .ok (.ireturn, 1) := by decide +kernel
