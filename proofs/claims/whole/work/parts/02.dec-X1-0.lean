theorem dX1_init_0 : decode cX1_init 0 = .ok (.aload_n 0, 1) := by decide +kernel
theorem dX1_init_1 : decode cX1_init 1 = .ok (.invokespecial 3, 3) := by decide +kernel
theorem dX1_init_4 : decode cX1_init 4 = .ok (.aload_n 0, 1) := by decide +kernel
theorem dX1_init_5 : decode cX1_init 5 = .ok (.sipush 2187, 3) := by decide +kernel
theorem dX1_init_8 : decode cX1_init 8 = .ok (.newarray .int, 2) := by decide +kernel
theorem dX1_init_10 : decode cX1_init 10 = .ok (.putfield 9, 3) := by decide +kernel
theorem dX1_init_13 : decode cX1_init 13 = .ok (.iconst 0, 1) := by decide +kernel
theorem dX1_init_14 : decode cX1_init 14 = .ok (.istore_n 1, 1) := by decide +kernel
theorem dX1_init_15 : decode cX1_init 15 = .ok (.iload_n 1, 1) := by decide +kernel
theorem dX1_init_16 : decode cX1_init 16 = .ok (.sipush 2187, 3) := by decide +kernel
theorem dX1_init_19 : decode cX1_init 19 = .ok (.if_icmp .ge 29, 3) := by decide +kernel
theorem dX1_init_22 : decode cX1_init 22 = .ok (.aload_n 0, 1) := by decide +kernel
theorem dX1_init_23 : decode cX1_init 23 = .ok (.getfield 9, 3) := by decide +kernel
theorem dX1_init_26 : decode cX1_init 26 = .ok (.iload_n 1, 1) := by decide +kernel
theorem dX1_init_27 : decode cX1_init 27 = .ok (.aload_n 0, 1) := by decide +kernel
theorem dX1_init_28 : decode cX1_init 28 = .ok (.getfield 9, 3) := by decide +kernel
theorem dX1_init_31 : decode cX1_init 31 = .ok (.iload_n 1, 1) := by decide +kernel
theorem dX1_init_32 : decode cX1_init 32 = .ok (.iconst 3, 1) := by decide +kernel
theorem dX1_init_33 : decode cX1_init 33 = .ok (.idiv, 1) := by decide +kernel
theorem dX1_init_34 : decode cX1_init 34 = .ok (.iaload, 1) := by decide +kernel
theorem dX1_init_35 : decode cX1_init 35 = .ok (.iconst 2, 1) := by decide +kernel
theorem dX1_init_36 : decode cX1_init 36 = .ok (.ishl, 1) := by decide +kernel
theorem dX1_init_37 : decode cX1_init 37 = .ok (.iload_n 1, 1) := by decide +kernel
theorem dX1_init_38 : decode cX1_init 38 = .ok (.iconst 3, 1) := by decide +kernel
theorem dX1_init_39 : decode cX1_init 39 = .ok (.irem, 1) := by decide +kernel
theorem dX1_init_40 : decode cX1_init 40 = .ok (.ior, 1) := by decide +kernel
theorem dX1_init_41 : decode cX1_init 41 = .ok (.iastore, 1) := by decide +kernel
theorem dX1_init_42 : decode cX1_init 42 = .ok (.iinc 1 1, 3) := by decide +kernel
theorem dX1_init_45 : decode cX1_init 45 = .ok (.goto (-30), 3) := by decide +kernel
theorem dX1_init_48 : decode cX1_init 48 = .ok (.return_, 1) := by decide +kernel
theorem dX1_standIn_0 : decode cX1_standIn 0 = .ok (.iload_n 0, 1) := by decide +kernel
theorem dX1_standIn_1 : decode cX1_standIn 1 = .ok (.iconst 2, 1) := by decide +kernel
theorem dX1_standIn_2 : decode cX1_standIn 2 = .ok (.iload_n 1, 1) := by decide +kernel
theorem dX1_standIn_3 : decode cX1_standIn 3 = .ok (.imul, 1) := by decide +kernel
theorem dX1_standIn_4 : decode cX1_standIn 4 = .ok (.ishr, 1) := by decide +kernel
theorem dX1_standIn_5 : decode cX1_standIn 5 = .ok (.iconst 3, 1) := by decide +kernel
theorem dX1_standIn_6 : decode cX1_standIn 6 = .ok (.iand, 1) := by decide +kernel
theorem dX1_standIn_7 : decode cX1_standIn 7 = .ok (.ireturn, 1) := by decide +kernel
theorem dX1_bitsOf_0 : decode cX1_bitsOf 0 = .ok (.iconst 3, 1) := by decide +kernel
theorem dX1_bitsOf_1 : decode cX1_bitsOf 1 = .ok (.iconst 2, 1) := by decide +kernel
theorem dX1_bitsOf_2 : decode cX1_bitsOf 2 = .ok (.iload_n 0, 1) := by decide +kernel
theorem dX1_bitsOf_3 : decode cX1_bitsOf 3 = .ok (.imul, 1) := by decide +kernel
theorem dX1_bitsOf_4 : decode cX1_bitsOf 4 = .ok (.ishl, 1) := by decide +kernel
theorem dX1_bitsOf_5 : decode cX1_bitsOf 5 = .ok (.ireturn, 1) := by decide +kernel
theorem dX1_natural_0 : decode cX1_natural 0 = .ok (.bipush 12, 2) := by decide +kernel
theorem dX1_natural_2 : decode cX1_natural 2 = .ok (.iload_n 0, 1) := by decide +kernel
theorem dX1_natural_3 : decode cX1_natural 3 = .ok (.bipush 7, 2) := by decide +kernel
theorem dX1_natural_5 : decode cX1_natural 5 = .ok (.idiv, 1) := by decide +kernel
theorem dX1_natural_6 : decode cX1_natural 6 = .ok (.imul, 1) := by decide +kernel
theorem dX1_natural_7 : decode cX1_natural 7 = .ok (.getstatic 15, 3) := by decide +kernel
theorem dX1_natural_10 : decode cX1_natural 10 = .ok (.iload_n 0, 1) := by decide +kernel
theorem dX1_natural_11 : decode cX1_natural 11 = .ok (.bipush 7, 2) := by decide +kernel
theorem dX1_natural_13 : decode cX1_natural 13 = .ok (.irem, 1) := by decide +kernel
theorem dX1_natural_14 : decode cX1_natural 14 = .ok (.iaload, 1) := by decide +kernel
theorem dX1_natural_15 : decode cX1_natural 15 = .ok (.iadd, 1) := by decide +kernel
theorem dX1_natural_16 : decode cX1_natural 16 = .ok (.ireturn, 1) := by decide +kernel
theorem dX1_pitchOf_0 : decode cX1_pitchOf 0 = .ok (.iload_n 1, 1) := by decide +kernel
theorem dX1_pitchOf_1 : decode cX1_pitchOf 1 = .ok (.invokestatic 18, 3) := by decide +kernel
theorem dX1_pitchOf_4 : decode cX1_pitchOf 4 = .ok (.aload_n 0, 1) := by decide +kernel
theorem dX1_pitchOf_5 : decode cX1_pitchOf 5 = .ok (.getfield 9, 3) := by decide +kernel
theorem dX1_pitchOf_8 : decode cX1_pitchOf 8 = .ok (.iload_n 2, 1) := by decide +kernel
theorem dX1_pitchOf_9 : decode cX1_pitchOf 9 = .ok (.iaload, 1) := by decide +kernel
theorem dX1_pitchOf_10 : decode cX1_pitchOf 10 = .ok (.iload_n 1, 1) := by decide +kernel
theorem dX1_pitchOf_11 : decode cX1_pitchOf 11 = .ok (.bipush 7, 2) := by decide +kernel
theorem dX1_pitchOf_13 : decode cX1_pitchOf 13 = .ok (.irem, 1) := by decide +kernel
theorem dX1_pitchOf_14 : decode cX1_pitchOf 14 = .ok (.invokestatic 22, 3) := by decide +kernel
theorem dX1_pitchOf_17 : decode cX1_pitchOf 17 = .ok (.iadd, 1) := by decide +kernel
theorem dX1_pitchOf_18 : decode cX1_pitchOf 18 = .ok (.iconst 1, 1) := by decide +kernel
theorem dX1_pitchOf_19 : decode cX1_pitchOf 19 = .ok (.isub, 1) := by decide +kernel
theorem dX1_pitchOf_20 : decode cX1_pitchOf 20 = .ok (.ireturn, 1) := by decide +kernel
theorem dX1_differentPitches_0 : decode cX1_differentPitches 0 = .ok (.iconst 0, 1) := by decide +kernel
theorem dX1_differentPitches_1 : decode cX1_differentPitches 1 = .ok (.istore 4, 2) := by decide +kernel
theorem dX1_differentPitches_3 : decode cX1_differentPitches 3 = .ok (.iload_n 1, 1) := by decide +kernel
theorem dX1_differentPitches_4 : decode cX1_differentPitches 4 = .ok (.istore 5, 2) := by decide +kernel
theorem dX1_differentPitches_6 : decode cX1_differentPitches 6 = .ok (.iload 5, 2) := by decide +kernel
theorem dX1_differentPitches_8 : decode cX1_differentPitches 8 = .ok (.iload_n 2, 1) := by decide +kernel
theorem dX1_differentPitches_9 : decode cX1_differentPitches 9 = .ok (.if_icmp .gt 65, 3) := by decide +kernel
theorem dX1_differentPitches_12 : decode cX1_differentPitches 12 = .ok (.iconst 0, 1) := by decide +kernel
theorem dX1_differentPitches_13 : decode cX1_differentPitches 13 = .ok (.istore 6, 2) := by decide +kernel
theorem dX1_differentPitches_15 : decode cX1_differentPitches 15 = .ok (.iload_n 1, 1) := by decide +kernel
theorem dX1_differentPitches_16 : decode cX1_differentPitches 16 = .ok (.istore 7, 2) := by decide +kernel
theorem dX1_differentPitches_18 : decode cX1_differentPitches 18 = .ok (.iload 7, 2) := by decide +kernel
theorem dX1_differentPitches_20 : decode cX1_differentPitches 20 = .ok (.iload 5, 2) := by decide +kernel
theorem dX1_differentPitches_22 : decode cX1_differentPitches 22 = .ok (.if_icmp .ge 38, 3) := by decide +kernel
theorem dX1_differentPitches_25 : decode cX1_differentPitches 25 = .ok (.iload 6, 2) := by decide +kernel
theorem dX1_differentPitches_27 : decode cX1_differentPitches 27 = .ok (.ifCond .ne 20, 3) := by decide +kernel
theorem dX1_differentPitches_30 : decode cX1_differentPitches 30 = .ok (.aload_n 0, 1) := by decide +kernel
theorem dX1_differentPitches_31 : decode cX1_differentPitches 31 = .ok (.iload 7, 2) := by decide +kernel
theorem dX1_differentPitches_33 : decode cX1_differentPitches 33 = .ok (.iload_n 3, 1) := by decide +kernel
theorem dX1_differentPitches_34 : decode cX1_differentPitches 34 = .ok (.invokevirtual 26, 3) := by decide +kernel
theorem dX1_differentPitches_37 : decode cX1_differentPitches 37 = .ok (.aload_n 0, 1) := by decide +kernel
theorem dX1_differentPitches_38 : decode cX1_differentPitches 38 = .ok (.iload 5, 2) := by decide +kernel
theorem dX1_differentPitches_40 : decode cX1_differentPitches 40 = .ok (.iload_n 3, 1) := by decide +kernel
theorem dX1_differentPitches_41 : decode cX1_differentPitches 41 = .ok (.invokevirtual 26, 3) := by decide +kernel
theorem dX1_differentPitches_44 : decode cX1_differentPitches 44 = .ok (.if_icmp .ne 7, 3) := by decide +kernel
theorem dX1_differentPitches_47 : decode cX1_differentPitches 47 = .ok (.iconst 1, 1) := by decide +kernel
theorem dX1_differentPitches_48 : decode cX1_differentPitches 48 = .ok (.goto 4, 3) := by decide +kernel
theorem dX1_differentPitches_51 : decode cX1_differentPitches 51 = .ok (.iconst 0, 1) := by decide +kernel
theorem dX1_differentPitches_52 : decode cX1_differentPitches 52 = .ok (.istore 6, 2) := by decide +kernel
theorem dX1_differentPitches_54 : decode cX1_differentPitches 54 = .ok (.iinc 7 1, 3) := by decide +kernel
theorem dX1_differentPitches_57 : decode cX1_differentPitches 57 = .ok (.goto (-39), 3) := by decide +kernel
theorem dX1_differentPitches_60 : decode cX1_differentPitches 60 = .ok (.iload 6, 2) := by decide +kernel
theorem dX1_differentPitches_62 : decode cX1_differentPitches 62 = .ok (.ifCond .ne 6, 3) := by decide +kernel
theorem dX1_differentPitches_65 : decode cX1_differentPitches 65 = .ok (.iinc 4 1, 3) := by decide +kernel
theorem dX1_differentPitches_68 : decode cX1_differentPitches 68 = .ok (.iinc 5 1, 3) := by decide +kernel
theorem dX1_differentPitches_71 : decode cX1_differentPitches 71 = .ok (.goto (-65), 3) := by decide +kernel
theorem dX1_differentPitches_74 : decode cX1_differentPitches 74 = .ok (.iload 4, 2) := by decide +kernel
theorem dX1_differentPitches_76 : decode cX1_differentPitches 76 = .ok (.ireturn, 1) := by decide +kernel
