theorem dX3_init_0 : decode cX3_init 0 = .ok (.aload_n 0, 1) := by decide +kernel
theorem dX3_init_1 : decode cX3_init 1 = .ok (.invokespecial 3, 3) := by decide +kernel
theorem dX3_init_4 : decode cX3_init 4 = .ok (.aload_n 0, 1) := by decide +kernel
theorem dX3_init_5 : decode cX3_init 5 = .ok (.bipush 8, 2) := by decide +kernel
theorem dX3_init_7 : decode cX3_init 7 = .ok (.putfield 11, 3) := by decide +kernel
theorem dX3_init_10 : decode cX3_init 10 = .ok (.aload_n 0, 1) := by decide +kernel
theorem dX3_init_11 : decode cX3_init 11 = .ok (.bipush 12, 2) := by decide +kernel
theorem dX3_init_13 : decode cX3_init 13 = .ok (.newarray .int, 2) := by decide +kernel
theorem dX3_init_15 : decode cX3_init 15 = .ok (.putfield 15, 3) := by decide +kernel
theorem dX3_init_18 : decode cX3_init 18 = .ok (.aload_n 0, 1) := by decide +kernel
theorem dX3_init_19 : decode cX3_init 19 = .ok (.bipush 72, 2) := by decide +kernel
theorem dX3_init_21 : decode cX3_init 21 = .ok (.newarray .int, 2) := by decide +kernel
theorem dX3_init_23 : decode cX3_init 23 = .ok (.putfield 19, 3) := by decide +kernel
theorem dX3_init_26 : decode cX3_init 26 = .ok (.aload_n 0, 1) := by decide +kernel
theorem dX3_init_27 : decode cX3_init 27 = .ok (.bipush 72, 2) := by decide +kernel
theorem dX3_init_29 : decode cX3_init 29 = .ok (.newarray .int, 2) := by decide +kernel
theorem dX3_init_31 : decode cX3_init 31 = .ok (.putfield 22, 3) := by decide +kernel
theorem dX3_init_34 : decode cX3_init 34 = .ok (.aload_n 0, 1) := by decide +kernel
theorem dX3_init_35 : decode cX3_init 35 = .ok (.bipush 72, 2) := by decide +kernel
theorem dX3_init_37 : decode cX3_init 37 = .ok (.newarray .int, 2) := by decide +kernel
theorem dX3_init_39 : decode cX3_init 39 = .ok (.putfield 25, 3) := by decide +kernel
theorem dX3_init_42 : decode cX3_init 42 = .ok (.aload_n 0, 1) := by decide +kernel
theorem dX3_init_43 : decode cX3_init 43 = .ok (.bipush 84, 2) := by decide +kernel
theorem dX3_init_45 : decode cX3_init 45 = .ok (.newarray .int, 2) := by decide +kernel
theorem dX3_init_47 : decode cX3_init 47 = .ok (.putfield 28, 3) := by decide +kernel
theorem dX3_init_50 : decode cX3_init 50 = .ok (.aload_n 0, 1) := by decide +kernel
theorem dX3_init_51 : decode cX3_init 51 = .ok (.bipush 7, 2) := by decide +kernel
theorem dX3_init_53 : decode cX3_init 53 = .ok (.newarray .int, 2) := by decide +kernel
theorem dX3_init_55 : decode cX3_init 55 = .ok (.putfield 31, 3) := by decide +kernel
theorem dX3_init_58 : decode cX3_init 58 = .ok (.aload_n 0, 1) := by decide +kernel
theorem dX3_init_59 : decode cX3_init 59 = .ok (.getfield 28, 3) := by decide +kernel
theorem dX3_init_62 : decode cX3_init 62 = .ok (.iconst (-1), 1) := by decide +kernel
theorem dX3_init_63 : decode cX3_init 63 = .ok (.invokestatic 34, 3) := by decide +kernel
theorem dX3_init_66 : decode cX3_init 66 = .ok (.aload_n 0, 1) := by decide +kernel
theorem dX3_init_67 : decode cX3_init 67 = .ok (.getfield 31, 3) := by decide +kernel
theorem dX3_init_70 : decode cX3_init 70 = .ok (.iconst (-1), 1) := by decide +kernel
theorem dX3_init_71 : decode cX3_init 71 = .ok (.invokestatic 34, 3) := by decide +kernel
theorem dX3_init_74 : decode cX3_init 74 = .ok (.return_, 1) := by decide +kernel
theorem dX3_place_0 : decode cX3_place 0 = .ok (.iload_n 0, 1) := by decide +kernel
theorem dX3_place_1 : decode cX3_place 1 = .ok (.bipush 6, 2) := by decide +kernel
theorem dX3_place_3 : decode cX3_place 3 = .ok (.imul, 1) := by decide +kernel
theorem dX3_place_4 : decode cX3_place 4 = .ok (.iload_n 1, 1) := by decide +kernel
theorem dX3_place_5 : decode cX3_place 5 = .ok (.iadd, 1) := by decide +kernel
theorem dX3_place_6 : decode cX3_place 6 = .ok (.ireturn, 1) := by decide +kernel
theorem dX3_add_0 : decode cX3_add 0 = .ok (.aload_n 0, 1) := by decide +kernel
theorem dX3_add_1 : decode cX3_add 1 = .ok (.getfield 15, 3) := by decide +kernel
theorem dX3_add_4 : decode cX3_add 4 = .ok (.iload_n 1, 1) := by decide +kernel
theorem dX3_add_5 : decode cX3_add 5 = .ok (.iaload, 1) := by decide +kernel
theorem dX3_add_6 : decode cX3_add 6 = .ok (.istore 5, 2) := by decide +kernel
theorem dX3_add_8 : decode cX3_add 8 = .ok (.iload_n 1, 1) := by decide +kernel
theorem dX3_add_9 : decode cX3_add 9 = .ok (.iload 5, 2) := by decide +kernel
theorem dX3_add_11 : decode cX3_add 11 = .ok (.invokestatic 40, 3) := by decide +kernel
theorem dX3_add_14 : decode cX3_add 14 = .ok (.istore 6, 2) := by decide +kernel
theorem dX3_add_16 : decode cX3_add 16 = .ok (.aload_n 0, 1) := by decide +kernel
theorem dX3_add_17 : decode cX3_add 17 = .ok (.getfield 19, 3) := by decide +kernel
theorem dX3_add_20 : decode cX3_add 20 = .ok (.iload 6, 2) := by decide +kernel
theorem dX3_add_22 : decode cX3_add 22 = .ok (.iload_n 2, 1) := by decide +kernel
theorem dX3_add_23 : decode cX3_add 23 = .ok (.iastore, 1) := by decide +kernel
theorem dX3_add_24 : decode cX3_add 24 = .ok (.aload_n 0, 1) := by decide +kernel
theorem dX3_add_25 : decode cX3_add 25 = .ok (.getfield 22, 3) := by decide +kernel
theorem dX3_add_28 : decode cX3_add 28 = .ok (.iload 6, 2) := by decide +kernel
theorem dX3_add_30 : decode cX3_add 30 = .ok (.iload_n 3, 1) := by decide +kernel
theorem dX3_add_31 : decode cX3_add 31 = .ok (.iastore, 1) := by decide +kernel
theorem dX3_add_32 : decode cX3_add 32 = .ok (.aload_n 0, 1) := by decide +kernel
theorem dX3_add_33 : decode cX3_add 33 = .ok (.getfield 25, 3) := by decide +kernel
theorem dX3_add_36 : decode cX3_add 36 = .ok (.iload 6, 2) := by decide +kernel
theorem dX3_add_38 : decode cX3_add 38 = .ok (.iload 4, 2) := by decide +kernel
theorem dX3_add_40 : decode cX3_add 40 = .ok (.ifCond .eq 12, 3) := by decide +kernel
theorem dX3_add_43 : decode cX3_add 43 = .ok (.iload_n 2, 1) := by decide +kernel
theorem dX3_add_44 : decode cX3_add 44 = .ok (.iconst 2, 1) := by decide +kernel
theorem dX3_add_45 : decode cX3_add 45 = .ok (.if_icmp .eq 7, 3) := by decide +kernel
theorem dX3_add_48 : decode cX3_add 48 = .ok (.iconst 1, 1) := by decide +kernel
theorem dX3_add_49 : decode cX3_add 49 = .ok (.goto 4, 3) := by decide +kernel
theorem dX3_add_52 : decode cX3_add 52 = .ok (.iconst 0, 1) := by decide +kernel
theorem dX3_add_53 : decode cX3_add 53 = .ok (.iastore, 1) := by decide +kernel
theorem dX3_add_54 : decode cX3_add 54 = .ok (.aload_n 0, 1) := by decide +kernel
theorem dX3_add_55 : decode cX3_add 55 = .ok (.getfield 15, 3) := by decide +kernel
theorem dX3_add_58 : decode cX3_add 58 = .ok (.iload_n 1, 1) := by decide +kernel
theorem dX3_add_59 : decode cX3_add 59 = .ok (.iload 5, 2) := by decide +kernel
theorem dX3_add_61 : decode cX3_add 61 = .ok (.iconst 1, 1) := by decide +kernel
theorem dX3_add_62 : decode cX3_add 62 = .ok (.iadd, 1) := by decide +kernel
theorem dX3_add_63 : decode cX3_add 63 = .ok (.iastore, 1) := by decide +kernel
theorem dX3_add_64 : decode cX3_add 64 = .ok (.iload 5, 2) := by decide +kernel
theorem dX3_add_66 : decode cX3_add 66 = .ok (.ireturn, 1) := by decide +kernel
theorem dX3_canRise_0 : decode cX3_canRise 0 = .ok (.iconst 0, 1) := by decide +kernel
theorem dX3_canRise_1 : decode cX3_canRise 1 = .ok (.istore_n 2, 1) := by decide +kernel
theorem dX3_canRise_2 : decode cX3_canRise 2 = .ok (.iload_n 2, 1) := by decide +kernel
theorem dX3_canRise_3 : decode cX3_canRise 3 = .ok (.bipush 12, 2) := by decide +kernel
theorem dX3_canRise_5 : decode cX3_canRise 5 = .ok (.if_icmp .ge 56, 3) := by decide +kernel
theorem dX3_canRise_8 : decode cX3_canRise 8 = .ok (.iconst 0, 1) := by decide +kernel
theorem dX3_canRise_9 : decode cX3_canRise 9 = .ok (.istore_n 3, 1) := by decide +kernel
theorem dX3_canRise_10 : decode cX3_canRise 10 = .ok (.iload_n 3, 1) := by decide +kernel
theorem dX3_canRise_11 : decode cX3_canRise 11 = .ok (.aload_n 0, 1) := by decide +kernel
theorem dX3_canRise_12 : decode cX3_canRise 12 = .ok (.getfield 15, 3) := by decide +kernel
theorem dX3_canRise_15 : decode cX3_canRise 15 = .ok (.iload_n 2, 1) := by decide +kernel
theorem dX3_canRise_16 : decode cX3_canRise 16 = .ok (.iaload, 1) := by decide +kernel
theorem dX3_canRise_17 : decode cX3_canRise 17 = .ok (.if_icmp .ge 38, 3) := by decide +kernel
theorem dX3_canRise_20 : decode cX3_canRise 20 = .ok (.aload_n 0, 1) := by decide +kernel
theorem dX3_canRise_21 : decode cX3_canRise 21 = .ok (.getfield 22, 3) := by decide +kernel
theorem dX3_canRise_24 : decode cX3_canRise 24 = .ok (.iload_n 2, 1) := by decide +kernel
theorem dX3_canRise_25 : decode cX3_canRise 25 = .ok (.iload_n 3, 1) := by decide +kernel
theorem dX3_canRise_26 : decode cX3_canRise 26 = .ok (.invokestatic 40, 3) := by decide +kernel
theorem dX3_canRise_29 : decode cX3_canRise 29 = .ok (.iaload, 1) := by decide +kernel
theorem dX3_canRise_30 : decode cX3_canRise 30 = .ok (.iload_n 1, 1) := by decide +kernel
theorem dX3_canRise_31 : decode cX3_canRise 31 = .ok (.iadd, 1) := by decide +kernel
theorem dX3_canRise_32 : decode cX3_canRise 32 = .ok (.istore 4, 2) := by decide +kernel
theorem dX3_canRise_34 : decode cX3_canRise 34 = .ok (.iload 4, 2) := by decide +kernel
theorem dX3_canRise_36 : decode cX3_canRise 36 = .ok (.iconst (-1), 1) := by decide +kernel
theorem dX3_canRise_37 : decode cX3_canRise 37 = .ok (.if_icmp .lt 10, 3) := by decide +kernel
theorem dX3_canRise_40 : decode cX3_canRise 40 = .ok (.iload 4, 2) := by decide +kernel
theorem dX3_canRise_42 : decode cX3_canRise 42 = .ok (.bipush 100, 2) := by decide +kernel
theorem dX3_canRise_44 : decode cX3_canRise 44 = .ok (.if_icmp .le 5, 3) := by decide +kernel
theorem dX3_canRise_47 : decode cX3_canRise 47 = .ok (.iconst 0, 1) := by decide +kernel
theorem dX3_canRise_48 : decode cX3_canRise 48 = .ok (.ireturn, 1) := by decide +kernel
theorem dX3_canRise_49 : decode cX3_canRise 49 = .ok (.iinc 3 1, 3) := by decide +kernel
theorem dX3_canRise_52 : decode cX3_canRise 52 = .ok (.goto (-42), 3) := by decide +kernel
theorem dX3_canRise_55 : decode cX3_canRise 55 = .ok (.iinc 2 1, 3) := by decide +kernel
theorem dX3_canRise_58 : decode cX3_canRise 58 = .ok (.goto (-56), 3) := by decide +kernel
theorem dX3_canRise_61 : decode cX3_canRise 61 = .ok (.iconst 1, 1) := by decide +kernel
theorem dX3_canRise_62 : decode cX3_canRise 62 = .ok (.ireturn, 1) := by decide +kernel
theorem dX3_rise_0 : decode cX3_rise 0 = .ok (.iconst 0, 1) := by decide +kernel
theorem dX3_rise_1 : decode cX3_rise 1 = .ok (.istore_n 2, 1) := by decide +kernel
theorem dX3_rise_2 : decode cX3_rise 2 = .ok (.iload_n 2, 1) := by decide +kernel
theorem dX3_rise_3 : decode cX3_rise 3 = .ok (.bipush 12, 2) := by decide +kernel
theorem dX3_rise_5 : decode cX3_rise 5 = .ok (.if_icmp .ge 41, 3) := by decide +kernel
theorem dX3_rise_8 : decode cX3_rise 8 = .ok (.iconst 0, 1) := by decide +kernel
theorem dX3_rise_9 : decode cX3_rise 9 = .ok (.istore_n 3, 1) := by decide +kernel
theorem dX3_rise_10 : decode cX3_rise 10 = .ok (.iload_n 3, 1) := by decide +kernel
theorem dX3_rise_11 : decode cX3_rise 11 = .ok (.aload_n 0, 1) := by decide +kernel
theorem dX3_rise_12 : decode cX3_rise 12 = .ok (.getfield 15, 3) := by decide +kernel
theorem dX3_rise_15 : decode cX3_rise 15 = .ok (.iload_n 2, 1) := by decide +kernel
theorem dX3_rise_16 : decode cX3_rise 16 = .ok (.iaload, 1) := by decide +kernel
theorem dX3_rise_17 : decode cX3_rise 17 = .ok (.if_icmp .ge 23, 3) := by decide +kernel
theorem dX3_rise_20 : decode cX3_rise 20 = .ok (.aload_n 0, 1) := by decide +kernel
theorem dX3_rise_21 : decode cX3_rise 21 = .ok (.getfield 22, 3) := by decide +kernel
theorem dX3_rise_24 : decode cX3_rise 24 = .ok (.iload_n 2, 1) := by decide +kernel
theorem dX3_rise_25 : decode cX3_rise 25 = .ok (.iload_n 3, 1) := by decide +kernel
theorem dX3_rise_26 : decode cX3_rise 26 = .ok (.invokestatic 40, 3) := by decide +kernel
theorem dX3_rise_29 : decode cX3_rise 29 = .ok (.dup2, 1) := by decide +kernel
theorem dX3_rise_30 : decode cX3_rise 30 = .ok (.iaload, 1) := by decide +kernel
theorem dX3_rise_31 : decode cX3_rise 31 = .ok (.iload_n 1, 1) := by decide +kernel
theorem dX3_rise_32 : decode cX3_rise 32 = .ok (.iadd, 1) := by decide +kernel
theorem dX3_rise_33 : decode cX3_rise 33 = .ok (.iastore, 1) := by decide +kernel
theorem dX3_rise_34 : decode cX3_rise 34 = .ok (.iinc 3 1, 3) := by decide +kernel
theorem dX3_rise_37 : decode cX3_rise 37 = .ok (.goto (-27), 3) := by decide +kernel
theorem dX3_rise_40 : decode cX3_rise 40 = .ok (.iinc 2 1, 3) := by decide +kernel
theorem dX3_rise_43 : decode cX3_rise 43 = .ok (.goto (-41), 3) := by decide +kernel
theorem dX3_rise_46 : decode cX3_rise 46 = .ok (.return_, 1) := by decide +kernel
theorem dX3_takeTune_0 : decode cX3_takeTune 0 = .ok (.iconst 0, 1) := by decide +kernel
theorem dX3_takeTune_1 : decode cX3_takeTune 1 = .ok (.istore_n 3, 1) := by decide +kernel
theorem dX3_takeTune_2 : decode cX3_takeTune 2 = .ok (.iconst 0, 1) := by decide +kernel
theorem dX3_takeTune_3 : decode cX3_takeTune 3 = .ok (.istore 4, 2) := by decide +kernel
theorem dX3_takeTune_5 : decode cX3_takeTune 5 = .ok (.iload 4, 2) := by decide +kernel
theorem dX3_takeTune_7 : decode cX3_takeTune 7 = .ok (.iload_n 2, 1) := by decide +kernel
theorem dX3_takeTune_8 : decode cX3_takeTune 8 = .ok (.if_icmp .ge 41, 3) := by decide +kernel
theorem dX3_takeTune_11 : decode cX3_takeTune 11 = .ok (.aload_n 0, 1) := by decide +kernel
theorem dX3_takeTune_12 : decode cX3_takeTune 12 = .ok (.getfield 15, 3) := by decide +kernel
theorem dX3_takeTune_15 : decode cX3_takeTune 15 = .ok (.iload 4, 2) := by decide +kernel
theorem dX3_takeTune_17 : decode cX3_takeTune 17 = .ok (.iconst 0, 1) := by decide +kernel
theorem dX3_takeTune_18 : decode cX3_takeTune 18 = .ok (.iastore, 1) := by decide +kernel
theorem dX3_takeTune_19 : decode cX3_takeTune 19 = .ok (.aload_n 1, 1) := by decide +kernel
theorem dX3_takeTune_20 : decode cX3_takeTune 20 = .ok (.iload 4, 2) := by decide +kernel
theorem dX3_takeTune_22 : decode cX3_takeTune 22 = .ok (.iaload, 1) := by decide +kernel
theorem dX3_takeTune_23 : decode cX3_takeTune 23 = .ok (.iconst (-1), 1) := by decide +kernel
theorem dX3_takeTune_24 : decode cX3_takeTune 24 = .ok (.if_icmp .lt 19, 3) := by decide +kernel
theorem dX3_takeTune_27 : decode cX3_takeTune 27 = .ok (.aload_n 0, 1) := by decide +kernel
theorem dX3_takeTune_28 : decode cX3_takeTune 28 = .ok (.iload 4, 2) := by decide +kernel
theorem dX3_takeTune_30 : decode cX3_takeTune 30 = .ok (.iconst 0, 1) := by decide +kernel
theorem dX3_takeTune_31 : decode cX3_takeTune 31 = .ok (.aload_n 1, 1) := by decide +kernel
theorem dX3_takeTune_32 : decode cX3_takeTune 32 = .ok (.iload 4, 2) := by decide +kernel
theorem dX3_takeTune_34 : decode cX3_takeTune 34 = .ok (.iaload, 1) := by decide +kernel
theorem dX3_takeTune_35 : decode cX3_takeTune 35 = .ok (.iconst 0, 1) := by decide +kernel
theorem dX3_takeTune_36 : decode cX3_takeTune 36 = .ok (.invokevirtual 44, 3) := by decide +kernel
theorem dX3_takeTune_39 : decode cX3_takeTune 39 = .ok (.pop, 1) := by decide +kernel
theorem dX3_takeTune_40 : decode cX3_takeTune 40 = .ok (.iinc 3 1, 3) := by decide +kernel
theorem dX3_takeTune_43 : decode cX3_takeTune 43 = .ok (.iinc 4 1, 3) := by decide +kernel
theorem dX3_takeTune_46 : decode cX3_takeTune 46 = .ok (.goto (-41), 3) := by decide +kernel
theorem dX3_takeTune_49 : decode cX3_takeTune 49 = .ok (.iload_n 3, 1) := by decide +kernel
theorem dX3_takeTune_50 : decode cX3_takeTune 50 = .ok (.ireturn, 1) := by decide +kernel
theorem dX3_countNotes_0 : decode cX3_countNotes 0 = .ok (.iconst 0, 1) := by decide +kernel
theorem dX3_countNotes_1 : decode cX3_countNotes 1 = .ok (.istore_n 1, 1) := by decide +kernel
theorem dX3_countNotes_2 : decode cX3_countNotes 2 = .ok (.iconst 0, 1) := by decide +kernel
theorem dX3_countNotes_3 : decode cX3_countNotes 3 = .ok (.istore_n 2, 1) := by decide +kernel
theorem dX3_countNotes_4 : decode cX3_countNotes 4 = .ok (.iload_n 2, 1) := by decide +kernel
theorem dX3_countNotes_5 : decode cX3_countNotes 5 = .ok (.bipush 12, 2) := by decide +kernel
theorem dX3_countNotes_7 : decode cX3_countNotes 7 = .ok (.if_icmp .ge 18, 3) := by decide +kernel
theorem dX3_countNotes_10 : decode cX3_countNotes 10 = .ok (.iload_n 1, 1) := by decide +kernel
theorem dX3_countNotes_11 : decode cX3_countNotes 11 = .ok (.aload_n 0, 1) := by decide +kernel
theorem dX3_countNotes_12 : decode cX3_countNotes 12 = .ok (.getfield 15, 3) := by decide +kernel
theorem dX3_countNotes_15 : decode cX3_countNotes 15 = .ok (.iload_n 2, 1) := by decide +kernel
theorem dX3_countNotes_16 : decode cX3_countNotes 16 = .ok (.iaload, 1) := by decide +kernel
theorem dX3_countNotes_17 : decode cX3_countNotes 17 = .ok (.iadd, 1) := by decide +kernel
theorem dX3_countNotes_18 : decode cX3_countNotes 18 = .ok (.istore_n 1, 1) := by decide +kernel
theorem dX3_countNotes_19 : decode cX3_countNotes 19 = .ok (.iinc 2 1, 3) := by decide +kernel
theorem dX3_countNotes_22 : decode cX3_countNotes 22 = .ok (.goto (-18), 3) := by decide +kernel
theorem dX3_countNotes_25 : decode cX3_countNotes 25 = .ok (.iload_n 1, 1) := by decide +kernel
theorem dX3_countNotes_26 : decode cX3_countNotes 26 = .ok (.ireturn, 1) := by decide +kernel
theorem dX3_countMarks_0 : decode cX3_countMarks 0 = .ok (.iconst 0, 1) := by decide +kernel
theorem dX3_countMarks_1 : decode cX3_countMarks 1 = .ok (.istore_n 1, 1) := by decide +kernel
theorem dX3_countMarks_2 : decode cX3_countMarks 2 = .ok (.iconst 0, 1) := by decide +kernel
theorem dX3_countMarks_3 : decode cX3_countMarks 3 = .ok (.istore_n 2, 1) := by decide +kernel
theorem dX3_countMarks_4 : decode cX3_countMarks 4 = .ok (.iload_n 2, 1) := by decide +kernel
theorem dX3_countMarks_5 : decode cX3_countMarks 5 = .ok (.bipush 84, 2) := by decide +kernel
theorem dX3_countMarks_7 : decode cX3_countMarks 7 = .ok (.if_icmp .ge 21, 3) := by decide +kernel
theorem dX3_countMarks_10 : decode cX3_countMarks 10 = .ok (.aload_n 0, 1) := by decide +kernel
theorem dX3_countMarks_11 : decode cX3_countMarks 11 = .ok (.getfield 28, 3) := by decide +kernel
theorem dX3_countMarks_14 : decode cX3_countMarks 14 = .ok (.iload_n 2, 1) := by decide +kernel
theorem dX3_countMarks_15 : decode cX3_countMarks 15 = .ok (.iaload, 1) := by decide +kernel
theorem dX3_countMarks_16 : decode cX3_countMarks 16 = .ok (.ifCond .lt 6, 3) := by decide +kernel
theorem dX3_countMarks_19 : decode cX3_countMarks 19 = .ok (.iinc 1 1, 3) := by decide +kernel
theorem dX3_countMarks_22 : decode cX3_countMarks 22 = .ok (.iinc 2 1, 3) := by decide +kernel
theorem dX3_countMarks_25 : decode cX3_countMarks 25 = .ok (.goto (-21), 3) := by decide +kernel
theorem dX3_countMarks_28 : decode cX3_countMarks 28 = .ok (.iload_n 1, 1) := by decide +kernel
theorem dX3_countMarks_29 : decode cX3_countMarks 29 = .ok (.ireturn, 1) := by decide +kernel
theorem dX3_become_0 : decode cX3_become 0 = .ok (.aload_n 0, 1) := by decide +kernel
theorem dX3_become_1 : decode cX3_become 1 = .ok (.aload_n 1, 1) := by decide +kernel
theorem dX3_become_2 : decode cX3_become 2 = .ok (.getfield 11, 3) := by decide +kernel
theorem dX3_become_5 : decode cX3_become 5 = .ok (.putfield 11, 3) := by decide +kernel
theorem dX3_become_8 : decode cX3_become 8 = .ok (.aload_n 1, 1) := by decide +kernel
theorem dX3_become_9 : decode cX3_become 9 = .ok (.getfield 15, 3) := by decide +kernel
theorem dX3_become_12 : decode cX3_become 12 = .ok (.iconst 0, 1) := by decide +kernel
theorem dX3_become_13 : decode cX3_become 13 = .ok (.aload_n 0, 1) := by decide +kernel
theorem dX3_become_14 : decode cX3_become 14 = .ok (.getfield 15, 3) := by decide +kernel
theorem dX3_become_17 : decode cX3_become 17 = .ok (.iconst 0, 1) := by decide +kernel
theorem dX3_become_18 : decode cX3_become 18 = .ok (.bipush 12, 2) := by decide +kernel
theorem dX3_become_20 : decode cX3_become 20 = .ok (.invokestatic 48, 3) := by decide +kernel
theorem dX3_become_23 : decode cX3_become 23 = .ok (.aload_n 1, 1) := by decide +kernel
theorem dX3_become_24 : decode cX3_become 24 = .ok (.getfield 19, 3) := by decide +kernel
theorem dX3_become_27 : decode cX3_become 27 = .ok (.iconst 0, 1) := by decide +kernel
theorem dX3_become_28 : decode cX3_become 28 = .ok (.aload_n 0, 1) := by decide +kernel
theorem dX3_become_29 : decode cX3_become 29 = .ok (.getfield 19, 3) := by decide +kernel
theorem dX3_become_32 : decode cX3_become 32 = .ok (.iconst 0, 1) := by decide +kernel
theorem dX3_become_33 : decode cX3_become 33 = .ok (.bipush 72, 2) := by decide +kernel
theorem dX3_become_35 : decode cX3_become 35 = .ok (.invokestatic 48, 3) := by decide +kernel
theorem dX3_become_38 : decode cX3_become 38 = .ok (.aload_n 1, 1) := by decide +kernel
theorem dX3_become_39 : decode cX3_become 39 = .ok (.getfield 22, 3) := by decide +kernel
theorem dX3_become_42 : decode cX3_become 42 = .ok (.iconst 0, 1) := by decide +kernel
theorem dX3_become_43 : decode cX3_become 43 = .ok (.aload_n 0, 1) := by decide +kernel
theorem dX3_become_44 : decode cX3_become 44 = .ok (.getfield 22, 3) := by decide +kernel
theorem dX3_become_47 : decode cX3_become 47 = .ok (.iconst 0, 1) := by decide +kernel
theorem dX3_become_48 : decode cX3_become 48 = .ok (.bipush 72, 2) := by decide +kernel
theorem dX3_become_50 : decode cX3_become 50 = .ok (.invokestatic 48, 3) := by decide +kernel
theorem dX3_become_53 : decode cX3_become 53 = .ok (.aload_n 1, 1) := by decide +kernel
theorem dX3_become_54 : decode cX3_become 54 = .ok (.getfield 25, 3) := by decide +kernel
theorem dX3_become_57 : decode cX3_become 57 = .ok (.iconst 0, 1) := by decide +kernel
theorem dX3_become_58 : decode cX3_become 58 = .ok (.aload_n 0, 1) := by decide +kernel
theorem dX3_become_59 : decode cX3_become 59 = .ok (.getfield 25, 3) := by decide +kernel
theorem dX3_become_62 : decode cX3_become 62 = .ok (.iconst 0, 1) := by decide +kernel
theorem dX3_become_63 : decode cX3_become 63 = .ok (.bipush 72, 2) := by decide +kernel
theorem dX3_become_65 : decode cX3_become 65 = .ok (.invokestatic 48, 3) := by decide +kernel
theorem dX3_become_68 : decode cX3_become 68 = .ok (.aload_n 1, 1) := by decide +kernel
theorem dX3_become_69 : decode cX3_become 69 = .ok (.getfield 28, 3) := by decide +kernel
theorem dX3_become_72 : decode cX3_become 72 = .ok (.iconst 0, 1) := by decide +kernel
theorem dX3_become_73 : decode cX3_become 73 = .ok (.aload_n 0, 1) := by decide +kernel
theorem dX3_become_74 : decode cX3_become 74 = .ok (.getfield 28, 3) := by decide +kernel
theorem dX3_become_77 : decode cX3_become 77 = .ok (.iconst 0, 1) := by decide +kernel
theorem dX3_become_78 : decode cX3_become 78 = .ok (.bipush 84, 2) := by decide +kernel
theorem dX3_become_80 : decode cX3_become 80 = .ok (.invokestatic 48, 3) := by decide +kernel
theorem dX3_become_83 : decode cX3_become 83 = .ok (.aload_n 1, 1) := by decide +kernel
theorem dX3_become_84 : decode cX3_become 84 = .ok (.getfield 31, 3) := by decide +kernel
theorem dX3_become_87 : decode cX3_become 87 = .ok (.iconst 0, 1) := by decide +kernel
theorem dX3_become_88 : decode cX3_become 88 = .ok (.aload_n 0, 1) := by decide +kernel
theorem dX3_become_89 : decode cX3_become 89 = .ok (.getfield 31, 3) := by decide +kernel
theorem dX3_become_92 : decode cX3_become 92 = .ok (.iconst 0, 1) := by decide +kernel
theorem dX3_become_93 : decode cX3_become 93 = .ok (.bipush 7, 2) := by decide +kernel
theorem dX3_become_95 : decode cX3_become 95 = .ok (.invokestatic 48, 3) := by decide +kernel
theorem dX3_become_98 : decode cX3_become 98 = .ok (.return_, 1) := by decide +kernel
