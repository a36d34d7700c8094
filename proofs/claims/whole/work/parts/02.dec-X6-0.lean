theorem dX6_init_0 : decode cX6_init 0 = .ok (.aload_n 0, 1) := by decide +kernel
theorem dX6_init_1 : decode cX6_init 1 = .ok (.invokespecial 1, 3) := by decide +kernel
theorem dX6_init_4 : decode cX6_init 4 = .ok (.aload_n 0, 1) := by decide +kernel
theorem dX6_init_5 : decode cX6_init 5 = .ok (.new 7, 3) := by decide +kernel
theorem dX6_init_8 : decode cX6_init 8 = .ok (.dup, 1) := by decide +kernel
theorem dX6_init_9 : decode cX6_init 9 = .ok (.invokespecial 9, 3) := by decide +kernel
theorem dX6_init_12 : decode cX6_init 12 = .ok (.putfield 10, 3) := by decide +kernel
theorem dX6_init_15 : decode cX6_init 15 = .ok (.aload_n 0, 1) := by decide +kernel
theorem dX6_init_16 : decode cX6_init 16 = .ok (.new 16, 3) := by decide +kernel
theorem dX6_init_19 : decode cX6_init 19 = .ok (.dup, 1) := by decide +kernel
theorem dX6_init_20 : decode cX6_init 20 = .ok (.invokespecial 18, 3) := by decide +kernel
theorem dX6_init_23 : decode cX6_init 23 = .ok (.putfield 19, 3) := by decide +kernel
theorem dX6_init_26 : decode cX6_init 26 = .ok (.aload_n 0, 1) := by decide +kernel
theorem dX6_init_27 : decode cX6_init 27 = .ok (.new 23, 3) := by decide +kernel
theorem dX6_init_30 : decode cX6_init 30 = .ok (.dup, 1) := by decide +kernel
theorem dX6_init_31 : decode cX6_init 31 = .ok (.invokespecial 25, 3) := by decide +kernel
theorem dX6_init_34 : decode cX6_init 34 = .ok (.putfield 26, 3) := by decide +kernel
theorem dX6_init_37 : decode cX6_init 37 = .ok (.aload_n 0, 1) := by decide +kernel
theorem dX6_init_38 : decode cX6_init 38 = .ok (.new 30, 3) := by decide +kernel
theorem dX6_init_41 : decode cX6_init 41 = .ok (.dup, 1) := by decide +kernel
theorem dX6_init_42 : decode cX6_init 42 = .ok (.invokespecial 32, 3) := by decide +kernel
theorem dX6_init_45 : decode cX6_init 45 = .ok (.putfield 33, 3) := by decide +kernel
theorem dX6_init_48 : decode cX6_init 48 = .ok (.aload_n 0, 1) := by decide +kernel
theorem dX6_init_49 : decode cX6_init 49 = .ok (.new 37, 3) := by decide +kernel
theorem dX6_init_52 : decode cX6_init 52 = .ok (.dup, 1) := by decide +kernel
theorem dX6_init_53 : decode cX6_init 53 = .ok (.aload_n 0, 1) := by decide +kernel
theorem dX6_init_54 : decode cX6_init 54 = .ok (.getfield 10, 3) := by decide +kernel
theorem dX6_init_57 : decode cX6_init 57 = .ok (.aload_n 0, 1) := by decide +kernel
theorem dX6_init_58 : decode cX6_init 58 = .ok (.getfield 19, 3) := by decide +kernel
theorem dX6_init_61 : decode cX6_init 61 = .ok (.invokespecial 39, 3) := by decide +kernel
theorem dX6_init_64 : decode cX6_init 64 = .ok (.putfield 42, 3) := by decide +kernel
theorem dX6_init_67 : decode cX6_init 67 = .ok (.aload_n 0, 1) := by decide +kernel
theorem dX6_init_68 : decode cX6_init 68 = .ok (.new 46, 3) := by decide +kernel
theorem dX6_init_71 : decode cX6_init 71 = .ok (.dup, 1) := by decide +kernel
theorem dX6_init_72 : decode cX6_init 72 = .ok (.invokespecial 48, 3) := by decide +kernel
theorem dX6_init_75 : decode cX6_init 75 = .ok (.putfield 49, 3) := by decide +kernel
theorem dX6_init_78 : decode cX6_init 78 = .ok (.aload_n 0, 1) := by decide +kernel
theorem dX6_init_79 : decode cX6_init 79 = .ok (.iconst 0, 1) := by decide +kernel
theorem dX6_init_80 : decode cX6_init 80 = .ok (.putfield 53, 3) := by decide +kernel
theorem dX6_init_83 : decode cX6_init 83 = .ok (.return_, 1) := by decide +kernel
theorem dX6_beats_0 : decode cX6_beats 0 = .ok (.iload_n 1, 1) := by decide +kernel
theorem dX6_beats_1 : decode cX6_beats 1 = .ok (.iconst 1, 1) := by decide +kernel
theorem dX6_beats_2 : decode cX6_beats 2 = .ok (.if_icmp .lt 9, 3) := by decide +kernel
theorem dX6_beats_5 : decode cX6_beats 5 = .ok (.iload_n 1, 1) := by decide +kernel
theorem dX6_beats_6 : decode cX6_beats 6 = .ok (.bipush 12, 2) := by decide +kernel
theorem dX6_beats_8 : decode cX6_beats 8 = .ok (.if_icmp .le 10, 3) := by decide +kernel
theorem dX6_beats_11 : decode cX6_beats 11 = .ok (.aload_n 0, 1) := by decide +kernel
theorem dX6_beats_12 : decode cX6_beats 12 = .ok (.ldc 57, 2) := by decide +kernel
theorem dX6_beats_14 : decode cX6_beats 14 = .ok (.invokevirtual 58, 3) := by decide +kernel
theorem dX6_beats_17 : decode cX6_beats 17 = .ok (.ireturn, 1) := by decide +kernel
theorem dX6_beats_18 : decode cX6_beats 18 = .ok (.aload_n 0, 1) := by decide +kernel
theorem dX6_beats_19 : decode cX6_beats 19 = .ok (.getfield 26, 3) := by decide +kernel
theorem dX6_beats_22 : decode cX6_beats 22 = .ok (.aload_n 0, 1) := by decide +kernel
theorem dX6_beats_23 : decode cX6_beats 23 = .ok (.getfield 19, 3) := by decide +kernel
theorem dX6_beats_26 : decode cX6_beats 26 = .ok (.invokevirtual 62, 3) := by decide +kernel
theorem dX6_beats_29 : decode cX6_beats 29 = .ok (.aload_n 0, 1) := by decide +kernel
theorem dX6_beats_30 : decode cX6_beats 30 = .ok (.getfield 19, 3) := by decide +kernel
theorem dX6_beats_33 : decode cX6_beats 33 = .ok (.getfield 66, 3) := by decide +kernel
theorem dX6_beats_36 : decode cX6_beats 36 = .ok (.istore_n 2, 1) := by decide +kernel
theorem dX6_beats_37 : decode cX6_beats 37 = .ok (.aload_n 0, 1) := by decide +kernel
theorem dX6_beats_38 : decode cX6_beats 38 = .ok (.getfield 19, 3) := by decide +kernel
theorem dX6_beats_41 : decode cX6_beats 41 = .ok (.iload_n 1, 1) := by decide +kernel
theorem dX6_beats_42 : decode cX6_beats 42 = .ok (.putfield 66, 3) := by decide +kernel
theorem dX6_beats_45 : decode cX6_beats 45 = .ok (.aload_n 0, 1) := by decide +kernel
theorem dX6_beats_46 : decode cX6_beats 46 = .ok (.getfield 42, 3) := by decide +kernel
theorem dX6_beats_49 : decode cX6_beats 49 = .ok (.invokevirtual 69, 3) := by decide +kernel
theorem dX6_beats_52 : decode cX6_beats 52 = .ok (.iload_n 2, 1) := by decide +kernel
theorem dX6_beats_53 : decode cX6_beats 53 = .ok (.ireturn, 1) := by decide +kernel
theorem dX6_note_0 : decode cX6_note 0 = .ok (.iload_n 1, 1) := by decide +kernel
theorem dX6_note_1 : decode cX6_note 1 = .ok (.invokestatic 72, 3) := by decide +kernel
theorem dX6_note_4 : decode cX6_note 4 = .ok (.ifCond .eq 21, 3) := by decide +kernel
theorem dX6_note_7 : decode cX6_note 7 = .ok (.iload_n 2, 1) := by decide +kernel
theorem dX6_note_8 : decode cX6_note 8 = .ok (.invokestatic 76, 3) := by decide +kernel
theorem dX6_note_11 : decode cX6_note 11 = .ok (.ifCond .eq 14, 3) := by decide +kernel
theorem dX6_note_14 : decode cX6_note 14 = .ok (.iload_n 3, 1) := by decide +kernel
theorem dX6_note_15 : decode cX6_note 15 = .ok (.iconst (-1), 1) := by decide +kernel
theorem dX6_note_16 : decode cX6_note 16 = .ok (.if_icmp .lt 9, 3) := by decide +kernel
theorem dX6_note_19 : decode cX6_note 19 = .ok (.iload_n 3, 1) := by decide +kernel
theorem dX6_note_20 : decode cX6_note 20 = .ok (.bipush 100, 2) := by decide +kernel
theorem dX6_note_22 : decode cX6_note 22 = .ok (.if_icmp .le 10, 3) := by decide +kernel
theorem dX6_note_25 : decode cX6_note 25 = .ok (.aload_n 0, 1) := by decide +kernel
theorem dX6_note_26 : decode cX6_note 26 = .ok (.ldc 57, 2) := by decide +kernel
theorem dX6_note_28 : decode cX6_note 28 = .ok (.invokevirtual 58, 3) := by decide +kernel
theorem dX6_note_31 : decode cX6_note 31 = .ok (.ireturn, 1) := by decide +kernel
theorem dX6_note_32 : decode cX6_note 32 = .ok (.aload_n 0, 1) := by decide +kernel
theorem dX6_note_33 : decode cX6_note 33 = .ok (.getfield 19, 3) := by decide +kernel
theorem dX6_note_36 : decode cX6_note 36 = .ok (.getfield 79, 3) := by decide +kernel
theorem dX6_note_39 : decode cX6_note 39 = .ok (.iload_n 1, 1) := by decide +kernel
theorem dX6_note_40 : decode cX6_note 40 = .ok (.iaload, 1) := by decide +kernel
theorem dX6_note_41 : decode cX6_note 41 = .ok (.bipush 6, 2) := by decide +kernel
theorem dX6_note_43 : decode cX6_note 43 = .ok (.if_icmp .lt 10, 3) := by decide +kernel
theorem dX6_note_46 : decode cX6_note 46 = .ok (.aload_n 0, 1) := by decide +kernel
theorem dX6_note_47 : decode cX6_note 47 = .ok (.ldc 83, 2) := by decide +kernel
theorem dX6_note_49 : decode cX6_note 49 = .ok (.invokevirtual 58, 3) := by decide +kernel
theorem dX6_note_52 : decode cX6_note 52 = .ok (.ireturn, 1) := by decide +kernel
theorem dX6_note_53 : decode cX6_note 53 = .ok (.aload_n 0, 1) := by decide +kernel
theorem dX6_note_54 : decode cX6_note 54 = .ok (.getfield 26, 3) := by decide +kernel
theorem dX6_note_57 : decode cX6_note 57 = .ok (.aload_n 0, 1) := by decide +kernel
theorem dX6_note_58 : decode cX6_note 58 = .ok (.getfield 19, 3) := by decide +kernel
theorem dX6_note_61 : decode cX6_note 61 = .ok (.invokevirtual 62, 3) := by decide +kernel
theorem dX6_note_64 : decode cX6_note 64 = .ok (.aload_n 0, 1) := by decide +kernel
theorem dX6_note_65 : decode cX6_note 65 = .ok (.getfield 19, 3) := by decide +kernel
theorem dX6_note_68 : decode cX6_note 68 = .ok (.iload_n 1, 1) := by decide +kernel
theorem dX6_note_69 : decode cX6_note 69 = .ok (.iload_n 2, 1) := by decide +kernel
theorem dX6_note_70 : decode cX6_note 70 = .ok (.iload_n 3, 1) := by decide +kernel
theorem dX6_note_71 : decode cX6_note 71 = .ok (.iload 4, 2) := by decide +kernel
theorem dX6_note_73 : decode cX6_note 73 = .ok (.invokevirtual 84, 3) := by decide +kernel
theorem dX6_note_76 : decode cX6_note 76 = .ok (.istore 5, 2) := by decide +kernel
theorem dX6_note_78 : decode cX6_note 78 = .ok (.aload_n 0, 1) := by decide +kernel
theorem dX6_note_79 : decode cX6_note 79 = .ok (.getfield 42, 3) := by decide +kernel
theorem dX6_note_82 : decode cX6_note 82 = .ok (.iload_n 1, 1) := by decide +kernel
theorem dX6_note_83 : decode cX6_note 83 = .ok (.iload_n 1, 1) := by decide +kernel
theorem dX6_note_84 : decode cX6_note 84 = .ok (.invokevirtual 88, 3) := by decide +kernel
theorem dX6_note_87 : decode cX6_note 87 = .ok (.iload 5, 2) := by decide +kernel
theorem dX6_note_89 : decode cX6_note 89 = .ok (.ireturn, 1) := by decide +kernel
theorem dX6_drop_0 : decode cX6_drop 0 = .ok (.iload_n 1, 1) := by decide +kernel
theorem dX6_drop_1 : decode cX6_drop 1 = .ok (.invokestatic 72, 3) := by decide +kernel
theorem dX6_drop_4 : decode cX6_drop 4 = .ok (.ifCond .ne 10, 3) := by decide +kernel
theorem dX6_drop_7 : decode cX6_drop 7 = .ok (.aload_n 0, 1) := by decide +kernel
theorem dX6_drop_8 : decode cX6_drop 8 = .ok (.ldc 57, 2) := by decide +kernel
theorem dX6_drop_10 : decode cX6_drop 10 = .ok (.invokevirtual 58, 3) := by decide +kernel
theorem dX6_drop_13 : decode cX6_drop 13 = .ok (.ireturn, 1) := by decide +kernel
theorem dX6_drop_14 : decode cX6_drop 14 = .ok (.aload_n 0, 1) := by decide +kernel
theorem dX6_drop_15 : decode cX6_drop 15 = .ok (.getfield 19, 3) := by decide +kernel
theorem dX6_drop_18 : decode cX6_drop 18 = .ok (.getfield 79, 3) := by decide +kernel
theorem dX6_drop_21 : decode cX6_drop 21 = .ok (.iload_n 1, 1) := by decide +kernel
theorem dX6_drop_22 : decode cX6_drop 22 = .ok (.iaload, 1) := by decide +kernel
theorem dX6_drop_23 : decode cX6_drop 23 = .ok (.ifCond .ne 10, 3) := by decide +kernel
theorem dX6_drop_26 : decode cX6_drop 26 = .ok (.aload_n 0, 1) := by decide +kernel
theorem dX6_drop_27 : decode cX6_drop 27 = .ok (.ldc 92, 2) := by decide +kernel
theorem dX6_drop_29 : decode cX6_drop 29 = .ok (.invokevirtual 58, 3) := by decide +kernel
theorem dX6_drop_32 : decode cX6_drop 32 = .ok (.ireturn, 1) := by decide +kernel
theorem dX6_drop_33 : decode cX6_drop 33 = .ok (.aload_n 0, 1) := by decide +kernel
theorem dX6_drop_34 : decode cX6_drop 34 = .ok (.getfield 26, 3) := by decide +kernel
theorem dX6_drop_37 : decode cX6_drop 37 = .ok (.aload_n 0, 1) := by decide +kernel
theorem dX6_drop_38 : decode cX6_drop 38 = .ok (.getfield 19, 3) := by decide +kernel
theorem dX6_drop_41 : decode cX6_drop 41 = .ok (.invokevirtual 62, 3) := by decide +kernel
theorem dX6_drop_44 : decode cX6_drop 44 = .ok (.aload_n 0, 1) := by decide +kernel
theorem dX6_drop_45 : decode cX6_drop 45 = .ok (.getfield 19, 3) := by decide +kernel
theorem dX6_drop_48 : decode cX6_drop 48 = .ok (.getfield 79, 3) := by decide +kernel
theorem dX6_drop_51 : decode cX6_drop 51 = .ok (.iload_n 1, 1) := by decide +kernel
theorem dX6_drop_52 : decode cX6_drop 52 = .ok (.dup2, 1) := by decide +kernel
theorem dX6_drop_53 : decode cX6_drop 53 = .ok (.iaload, 1) := by decide +kernel
theorem dX6_drop_54 : decode cX6_drop 54 = .ok (.iconst 1, 1) := by decide +kernel
theorem dX6_drop_55 : decode cX6_drop 55 = .ok (.isub, 1) := by decide +kernel
theorem dX6_drop_56 : decode cX6_drop 56 = .ok (.iastore, 1) := by decide +kernel
theorem dX6_drop_57 : decode cX6_drop 57 = .ok (.aload_n 0, 1) := by decide +kernel
theorem dX6_drop_58 : decode cX6_drop 58 = .ok (.getfield 42, 3) := by decide +kernel
theorem dX6_drop_61 : decode cX6_drop 61 = .ok (.iload_n 1, 1) := by decide +kernel
theorem dX6_drop_62 : decode cX6_drop 62 = .ok (.iload_n 1, 1) := by decide +kernel
theorem dX6_drop_63 : decode cX6_drop 63 = .ok (.invokevirtual 88, 3) := by decide +kernel
theorem dX6_drop_66 : decode cX6_drop 66 = .ok (.aload_n 0, 1) := by decide +kernel
theorem dX6_drop_67 : decode cX6_drop 67 = .ok (.getfield 19, 3) := by decide +kernel
theorem dX6_drop_70 : decode cX6_drop 70 = .ok (.getfield 79, 3) := by decide +kernel
theorem dX6_drop_73 : decode cX6_drop 73 = .ok (.iload_n 1, 1) := by decide +kernel
theorem dX6_drop_74 : decode cX6_drop 74 = .ok (.iaload, 1) := by decide +kernel
theorem dX6_drop_75 : decode cX6_drop 75 = .ok (.ireturn, 1) := by decide +kernel
theorem dX6_as_0 : decode cX6_as 0 = .ok (.aload_n 0, 1) := by decide +kernel
theorem dX6_as_1 : decode cX6_as 1 = .ok (.iload_n 1, 1) := by decide +kernel
theorem dX6_as_2 : decode cX6_as 2 = .ok (.iload_n 2, 1) := by decide +kernel
theorem dX6_as_3 : decode cX6_as 3 = .ok (.invokevirtual 93, 3) := by decide +kernel
theorem dX6_as_6 : decode cX6_as 6 = .ok (.ifCond .eq 10, 3) := by decide +kernel
theorem dX6_as_9 : decode cX6_as 9 = .ok (.iload_n 3, 1) := by decide +kernel
theorem dX6_as_10 : decode cX6_as 10 = .ok (.invokestatic 76, 3) := by decide +kernel
theorem dX6_as_13 : decode cX6_as 13 = .ok (.ifCond .ne 10, 3) := by decide +kernel
theorem dX6_as_16 : decode cX6_as 16 = .ok (.aload_n 0, 1) := by decide +kernel
theorem dX6_as_17 : decode cX6_as 17 = .ok (.ldc 57, 2) := by decide +kernel
theorem dX6_as_19 : decode cX6_as 19 = .ok (.invokevirtual 58, 3) := by decide +kernel
theorem dX6_as_22 : decode cX6_as 22 = .ok (.ireturn, 1) := by decide +kernel
theorem dX6_as_23 : decode cX6_as 23 = .ok (.iload_n 1, 1) := by decide +kernel
theorem dX6_as_24 : decode cX6_as 24 = .ok (.iload_n 2, 1) := by decide +kernel
theorem dX6_as_25 : decode cX6_as 25 = .ok (.invokestatic 97, 3) := by decide +kernel
theorem dX6_as_28 : decode cX6_as 28 = .ok (.istore 4, 2) := by decide +kernel
theorem dX6_as_30 : decode cX6_as 30 = .ok (.aload_n 0, 1) := by decide +kernel
theorem dX6_as_31 : decode cX6_as 31 = .ok (.getfield 19, 3) := by decide +kernel
theorem dX6_as_34 : decode cX6_as 34 = .ok (.getfield 101, 3) := by decide +kernel
theorem dX6_as_37 : decode cX6_as 37 = .ok (.iload 4, 2) := by decide +kernel
theorem dX6_as_39 : decode cX6_as 39 = .ok (.iaload, 1) := by decide +kernel
theorem dX6_as_40 : decode cX6_as 40 = .ok (.iload_n 3, 1) := by decide +kernel
theorem dX6_as_41 : decode cX6_as 41 = .ok (.invokestatic 104, 3) := by decide +kernel
theorem dX6_as_44 : decode cX6_as 44 = .ok (.ifCond .ne 10, 3) := by decide +kernel
theorem dX6_as_47 : decode cX6_as 47 = .ok (.aload_n 0, 1) := by decide +kernel
theorem dX6_as_48 : decode cX6_as 48 = .ok (.ldc 107, 2) := by decide +kernel
theorem dX6_as_50 : decode cX6_as 50 = .ok (.invokevirtual 58, 3) := by decide +kernel
theorem dX6_as_53 : decode cX6_as 53 = .ok (.ireturn, 1) := by decide +kernel
theorem dX6_as_54 : decode cX6_as 54 = .ok (.aload_n 0, 1) := by decide +kernel
theorem dX6_as_55 : decode cX6_as 55 = .ok (.getfield 19, 3) := by decide +kernel
theorem dX6_as_58 : decode cX6_as 58 = .ok (.getfield 108, 3) := by decide +kernel
theorem dX6_as_61 : decode cX6_as 61 = .ok (.iload 4, 2) := by decide +kernel
theorem dX6_as_63 : decode cX6_as 63 = .ok (.iaload, 1) := by decide +kernel
theorem dX6_as_64 : decode cX6_as 64 = .ok (.ireturn, 1) := by decide +kernel
theorem dX6_of_0 : decode cX6_of 0 = .ok (.aload_n 0, 1) := by decide +kernel
theorem dX6_of_1 : decode cX6_of 1 = .ok (.iload_n 1, 1) := by decide +kernel
theorem dX6_of_2 : decode cX6_of 2 = .ok (.iload_n 2, 1) := by decide +kernel
theorem dX6_of_3 : decode cX6_of 3 = .ok (.invokevirtual 93, 3) := by decide +kernel
theorem dX6_of_6 : decode cX6_of 6 = .ok (.ifCond .ne 10, 3) := by decide +kernel
theorem dX6_of_9 : decode cX6_of 9 = .ok (.aload_n 0, 1) := by decide +kernel
theorem dX6_of_10 : decode cX6_of 10 = .ok (.ldc 57, 2) := by decide +kernel
theorem dX6_of_12 : decode cX6_of 12 = .ok (.invokevirtual 58, 3) := by decide +kernel
theorem dX6_of_15 : decode cX6_of 15 = .ok (.ireturn, 1) := by decide +kernel
theorem dX6_of_16 : decode cX6_of 16 = .ok (.iload_n 1, 1) := by decide +kernel
theorem dX6_of_17 : decode cX6_of 17 = .ok (.iload_n 2, 1) := by decide +kernel
theorem dX6_of_18 : decode cX6_of 18 = .ok (.invokestatic 97, 3) := by decide +kernel
theorem dX6_of_21 : decode cX6_of 21 = .ok (.istore 4, 2) := by decide +kernel
theorem dX6_of_23 : decode cX6_of 23 = .ok (.iload_n 3, 1) := by decide +kernel
theorem dX6_of_24 : decode cX6_of 24 = .ok (.tableswitch 61 0 2 #[28, 39, 50], 28) := by decide +kernel
theorem dX6_of_52 : decode cX6_of 52 = .ok (.aload_n 0, 1) := by decide +kernel
theorem dX6_of_53 : decode cX6_of 53 = .ok (.getfield 19, 3) := by decide +kernel
theorem dX6_of_56 : decode cX6_of 56 = .ok (.getfield 101, 3) := by decide +kernel
theorem dX6_of_59 : decode cX6_of 59 = .ok (.iload 4, 2) := by decide +kernel
theorem dX6_of_61 : decode cX6_of 61 = .ok (.iaload, 1) := by decide +kernel
theorem dX6_of_62 : decode cX6_of 62 = .ok (.ireturn, 1) := by decide +kernel
theorem dX6_of_63 : decode cX6_of 63 = .ok (.aload_n 0, 1) := by decide +kernel
theorem dX6_of_64 : decode cX6_of 64 = .ok (.getfield 19, 3) := by decide +kernel
theorem dX6_of_67 : decode cX6_of 67 = .ok (.getfield 108, 3) := by decide +kernel
theorem dX6_of_70 : decode cX6_of 70 = .ok (.iload 4, 2) := by decide +kernel
theorem dX6_of_72 : decode cX6_of 72 = .ok (.iaload, 1) := by decide +kernel
theorem dX6_of_73 : decode cX6_of 73 = .ok (.ireturn, 1) := by decide +kernel
theorem dX6_of_74 : decode cX6_of 74 = .ok (.aload_n 0, 1) := by decide +kernel
theorem dX6_of_75 : decode cX6_of 75 = .ok (.getfield 19, 3) := by decide +kernel
theorem dX6_of_78 : decode cX6_of 78 = .ok (.getfield 111, 3) := by decide +kernel
theorem dX6_of_81 : decode cX6_of 81 = .ok (.iload 4, 2) := by decide +kernel
theorem dX6_of_83 : decode cX6_of 83 = .ok (.iaload, 1) := by decide +kernel
theorem dX6_of_84 : decode cX6_of 84 = .ok (.ireturn, 1) := by decide +kernel
theorem dX6_of_85 : decode cX6_of 85 = .ok (.aload_n 0, 1) := by decide +kernel
theorem dX6_of_86 : decode cX6_of 86 = .ok (.ldc 57, 2) := by decide +kernel
theorem dX6_of_88 : decode cX6_of 88 = .ok (.invokevirtual 58, 3) := by decide +kernel
theorem dX6_of_91 : decode cX6_of 91 = .ok (.ireturn, 1) := by decide +kernel
theorem dX6_shift_0 : decode cX6_shift 0 = .ok (.iload_n 1, 1) := by decide +kernel
theorem dX6_shift_1 : decode cX6_shift 1 = .ok (.bipush (-12), 2) := by decide +kernel
theorem dX6_shift_3 : decode cX6_shift 3 = .ok (.if_icmp .lt 9, 3) := by decide +kernel
theorem dX6_shift_6 : decode cX6_shift 6 = .ok (.iload_n 1, 1) := by decide +kernel
theorem dX6_shift_7 : decode cX6_shift 7 = .ok (.bipush 12, 2) := by decide +kernel
theorem dX6_shift_9 : decode cX6_shift 9 = .ok (.if_icmp .le 10, 3) := by decide +kernel
theorem dX6_shift_12 : decode cX6_shift 12 = .ok (.aload_n 0, 1) := by decide +kernel
theorem dX6_shift_13 : decode cX6_shift 13 = .ok (.ldc 57, 2) := by decide +kernel
theorem dX6_shift_15 : decode cX6_shift 15 = .ok (.invokevirtual 58, 3) := by decide +kernel
theorem dX6_shift_18 : decode cX6_shift 18 = .ok (.ireturn, 1) := by decide +kernel
theorem dX6_shift_19 : decode cX6_shift 19 = .ok (.aload_n 0, 1) := by decide +kernel
theorem dX6_shift_20 : decode cX6_shift 20 = .ok (.getfield 19, 3) := by decide +kernel
theorem dX6_shift_23 : decode cX6_shift 23 = .ok (.iload_n 1, 1) := by decide +kernel
theorem dX6_shift_24 : decode cX6_shift 24 = .ok (.invokevirtual 114, 3) := by decide +kernel
theorem dX6_shift_27 : decode cX6_shift 27 = .ok (.ifCond .ne 10, 3) := by decide +kernel
theorem dX6_shift_30 : decode cX6_shift 30 = .ok (.aload_n 0, 1) := by decide +kernel
theorem dX6_shift_31 : decode cX6_shift 31 = .ok (.ldc 117, 2) := by decide +kernel
theorem dX6_shift_33 : decode cX6_shift 33 = .ok (.invokevirtual 58, 3) := by decide +kernel
theorem dX6_shift_36 : decode cX6_shift 36 = .ok (.ireturn, 1) := by decide +kernel
theorem dX6_shift_37 : decode cX6_shift 37 = .ok (.aload_n 0, 1) := by decide +kernel
theorem dX6_shift_38 : decode cX6_shift 38 = .ok (.getfield 26, 3) := by decide +kernel
theorem dX6_shift_41 : decode cX6_shift 41 = .ok (.aload_n 0, 1) := by decide +kernel
theorem dX6_shift_42 : decode cX6_shift 42 = .ok (.getfield 19, 3) := by decide +kernel
theorem dX6_shift_45 : decode cX6_shift 45 = .ok (.invokevirtual 62, 3) := by decide +kernel
theorem dX6_shift_48 : decode cX6_shift 48 = .ok (.aload_n 0, 1) := by decide +kernel
theorem dX6_shift_49 : decode cX6_shift 49 = .ok (.getfield 19, 3) := by decide +kernel
theorem dX6_shift_52 : decode cX6_shift 52 = .ok (.iload_n 1, 1) := by decide +kernel
theorem dX6_shift_53 : decode cX6_shift 53 = .ok (.invokevirtual 118, 3) := by decide +kernel
theorem dX6_shift_56 : decode cX6_shift 56 = .ok (.aload_n 0, 1) := by decide +kernel
theorem dX6_shift_57 : decode cX6_shift 57 = .ok (.getfield 42, 3) := by decide +kernel
theorem dX6_shift_60 : decode cX6_shift 60 = .ok (.iconst 0, 1) := by decide +kernel
theorem dX6_shift_61 : decode cX6_shift 61 = .ok (.bipush 11, 2) := by decide +kernel
theorem dX6_shift_63 : decode cX6_shift 63 = .ok (.invokevirtual 88, 3) := by decide +kernel
theorem dX6_shift_66 : decode cX6_shift 66 = .ok (.aload_n 0, 1) := by decide +kernel
theorem dX6_shift_67 : decode cX6_shift 67 = .ok (.getfield 19, 3) := by decide +kernel
theorem dX6_shift_70 : decode cX6_shift 70 = .ok (.invokevirtual 122, 3) := by decide +kernel
theorem dX6_shift_73 : decode cX6_shift 73 = .ok (.ireturn, 1) := by decide +kernel
theorem dX6_mark_0 : decode cX6_mark 0 = .ok (.iload_n 1, 1) := by decide +kernel
theorem dX6_mark_1 : decode cX6_mark 1 = .ok (.invokestatic 72, 3) := by decide +kernel
theorem dX6_mark_4 : decode cX6_mark 4 = .ok (.ifCond .eq 17, 3) := by decide +kernel
theorem dX6_mark_7 : decode cX6_mark 7 = .ok (.iload_n 2, 1) := by decide +kernel
theorem dX6_mark_8 : decode cX6_mark 8 = .ok (.invokestatic 126, 3) := by decide +kernel
theorem dX6_mark_11 : decode cX6_mark 11 = .ok (.ifCond .eq 10, 3) := by decide +kernel
theorem dX6_mark_14 : decode cX6_mark 14 = .ok (.iload_n 3, 1) := by decide +kernel
theorem dX6_mark_15 : decode cX6_mark 15 = .ok (.invokestatic 129, 3) := by decide +kernel
theorem dX6_mark_18 : decode cX6_mark 18 = .ok (.ifCond .ne 10, 3) := by decide +kernel
theorem dX6_mark_21 : decode cX6_mark 21 = .ok (.aload_n 0, 1) := by decide +kernel
theorem dX6_mark_22 : decode cX6_mark 22 = .ok (.ldc 57, 2) := by decide +kernel
theorem dX6_mark_24 : decode cX6_mark 24 = .ok (.invokevirtual 58, 3) := by decide +kernel
theorem dX6_mark_27 : decode cX6_mark 27 = .ok (.ireturn, 1) := by decide +kernel
theorem dX6_mark_28 : decode cX6_mark 28 = .ok (.aload_n 0, 1) := by decide +kernel
theorem dX6_mark_29 : decode cX6_mark 29 = .ok (.getfield 26, 3) := by decide +kernel
theorem dX6_mark_32 : decode cX6_mark 32 = .ok (.aload_n 0, 1) := by decide +kernel
theorem dX6_mark_33 : decode cX6_mark 33 = .ok (.getfield 19, 3) := by decide +kernel
theorem dX6_mark_36 : decode cX6_mark 36 = .ok (.invokevirtual 62, 3) := by decide +kernel
theorem dX6_mark_39 : decode cX6_mark 39 = .ok (.iload_n 1, 1) := by decide +kernel
theorem dX6_mark_40 : decode cX6_mark 40 = .ok (.bipush 7, 2) := by decide +kernel
theorem dX6_mark_42 : decode cX6_mark 42 = .ok (.imul, 1) := by decide +kernel
theorem dX6_mark_43 : decode cX6_mark 43 = .ok (.iload_n 2, 1) := by decide +kernel
theorem dX6_mark_44 : decode cX6_mark 44 = .ok (.iadd, 1) := by decide +kernel
theorem dX6_mark_45 : decode cX6_mark 45 = .ok (.istore 4, 2) := by decide +kernel
theorem dX6_mark_47 : decode cX6_mark 47 = .ok (.aload_n 0, 1) := by decide +kernel
theorem dX6_mark_48 : decode cX6_mark 48 = .ok (.getfield 19, 3) := by decide +kernel
theorem dX6_mark_51 : decode cX6_mark 51 = .ok (.getfield 132, 3) := by decide +kernel
theorem dX6_mark_54 : decode cX6_mark 54 = .ok (.iload 4, 2) := by decide +kernel
theorem dX6_mark_56 : decode cX6_mark 56 = .ok (.iaload, 1) := by decide +kernel
theorem dX6_mark_57 : decode cX6_mark 57 = .ok (.istore 5, 2) := by decide +kernel
theorem dX6_mark_59 : decode cX6_mark 59 = .ok (.aload_n 0, 1) := by decide +kernel
theorem dX6_mark_60 : decode cX6_mark 60 = .ok (.getfield 19, 3) := by decide +kernel
theorem dX6_mark_63 : decode cX6_mark 63 = .ok (.getfield 132, 3) := by decide +kernel
theorem dX6_mark_66 : decode cX6_mark 66 = .ok (.iload 4, 2) := by decide +kernel
theorem dX6_mark_68 : decode cX6_mark 68 = .ok (.iload_n 3, 1) := by decide +kernel
theorem dX6_mark_69 : decode cX6_mark 69 = .ok (.iastore, 1) := by decide +kernel
theorem dX6_mark_70 : decode cX6_mark 70 = .ok (.aload_n 0, 1) := by decide +kernel
theorem dX6_mark_71 : decode cX6_mark 71 = .ok (.getfield 42, 3) := by decide +kernel
theorem dX6_mark_74 : decode cX6_mark 74 = .ok (.iload_n 1, 1) := by decide +kernel
theorem dX6_mark_75 : decode cX6_mark 75 = .ok (.iload_n 1, 1) := by decide +kernel
theorem dX6_mark_76 : decode cX6_mark 76 = .ok (.invokevirtual 88, 3) := by decide +kernel
theorem dX6_mark_79 : decode cX6_mark 79 = .ok (.iload 5, 2) := by decide +kernel
theorem dX6_mark_81 : decode cX6_mark 81 = .ok (.ireturn, 1) := by decide +kernel
theorem dX6_start_0 : decode cX6_start 0 = .ok (.iload_n 1, 1) := by decide +kernel
theorem dX6_start_1 : decode cX6_start 1 = .ok (.invokestatic 126, 3) := by decide +kernel
theorem dX6_start_4 : decode cX6_start 4 = .ok (.ifCond .eq 10, 3) := by decide +kernel
theorem dX6_start_7 : decode cX6_start 7 = .ok (.iload_n 2, 1) := by decide +kernel
theorem dX6_start_8 : decode cX6_start 8 = .ok (.invokestatic 129, 3) := by decide +kernel
theorem dX6_start_11 : decode cX6_start 11 = .ok (.ifCond .ne 10, 3) := by decide +kernel
theorem dX6_start_14 : decode cX6_start 14 = .ok (.aload_n 0, 1) := by decide +kernel
theorem dX6_start_15 : decode cX6_start 15 = .ok (.ldc 57, 2) := by decide +kernel
theorem dX6_start_17 : decode cX6_start 17 = .ok (.invokevirtual 58, 3) := by decide +kernel
theorem dX6_start_20 : decode cX6_start 20 = .ok (.ireturn, 1) := by decide +kernel
theorem dX6_start_21 : decode cX6_start 21 = .ok (.aload_n 0, 1) := by decide +kernel
theorem dX6_start_22 : decode cX6_start 22 = .ok (.getfield 26, 3) := by decide +kernel
theorem dX6_start_25 : decode cX6_start 25 = .ok (.aload_n 0, 1) := by decide +kernel
theorem dX6_start_26 : decode cX6_start 26 = .ok (.getfield 19, 3) := by decide +kernel
theorem dX6_start_29 : decode cX6_start 29 = .ok (.invokevirtual 62, 3) := by decide +kernel
theorem dX6_start_32 : decode cX6_start 32 = .ok (.aload_n 0, 1) := by decide +kernel
theorem dX6_start_33 : decode cX6_start 33 = .ok (.getfield 19, 3) := by decide +kernel
theorem dX6_start_36 : decode cX6_start 36 = .ok (.getfield 135, 3) := by decide +kernel
theorem dX6_start_39 : decode cX6_start 39 = .ok (.iload_n 1, 1) := by decide +kernel
theorem dX6_start_40 : decode cX6_start 40 = .ok (.iaload, 1) := by decide +kernel
theorem dX6_start_41 : decode cX6_start 41 = .ok (.istore_n 3, 1) := by decide +kernel
theorem dX6_start_42 : decode cX6_start 42 = .ok (.aload_n 0, 1) := by decide +kernel
theorem dX6_start_43 : decode cX6_start 43 = .ok (.getfield 19, 3) := by decide +kernel
theorem dX6_start_46 : decode cX6_start 46 = .ok (.getfield 135, 3) := by decide +kernel
theorem dX6_start_49 : decode cX6_start 49 = .ok (.iload_n 1, 1) := by decide +kernel
theorem dX6_start_50 : decode cX6_start 50 = .ok (.iload_n 2, 1) := by decide +kernel
theorem dX6_start_51 : decode cX6_start 51 = .ok (.iastore, 1) := by decide +kernel
theorem dX6_start_52 : decode cX6_start 52 = .ok (.aload_n 0, 1) := by decide +kernel
theorem dX6_start_53 : decode cX6_start 53 = .ok (.getfield 42, 3) := by decide +kernel
theorem dX6_start_56 : decode cX6_start 56 = .ok (.invokevirtual 138, 3) := by decide +kernel
theorem dX6_start_59 : decode cX6_start 59 = .ok (.iload_n 3, 1) := by decide +kernel
theorem dX6_start_60 : decode cX6_start 60 = .ok (.ireturn, 1) := by decide +kernel
theorem dX6_pitch_0 : decode cX6_pitch 0 = .ok (.iload_n 1, 1) := by decide +kernel
theorem dX6_pitch_1 : decode cX6_pitch 1 = .ok (.invokestatic 141, 3) := by decide +kernel
theorem dX6_pitch_4 : decode cX6_pitch 4 = .ok (.ifCond .eq 10, 3) := by decide +kernel
theorem dX6_pitch_7 : decode cX6_pitch 7 = .ok (.iload_n 2, 1) := by decide +kernel
theorem dX6_pitch_8 : decode cX6_pitch 8 = .ok (.invokestatic 144, 3) := by decide +kernel
theorem dX6_pitch_11 : decode cX6_pitch 11 = .ok (.ifCond .ne 10, 3) := by decide +kernel
theorem dX6_pitch_14 : decode cX6_pitch 14 = .ok (.aload_n 0, 1) := by decide +kernel
theorem dX6_pitch_15 : decode cX6_pitch 15 = .ok (.ldc 57, 2) := by decide +kernel
theorem dX6_pitch_17 : decode cX6_pitch 17 = .ok (.invokevirtual 58, 3) := by decide +kernel
theorem dX6_pitch_20 : decode cX6_pitch 20 = .ok (.ireturn, 1) := by decide +kernel
theorem dX6_pitch_21 : decode cX6_pitch 21 = .ok (.aload_n 0, 1) := by decide +kernel
theorem dX6_pitch_22 : decode cX6_pitch 22 = .ok (.getfield 10, 3) := by decide +kernel
theorem dX6_pitch_25 : decode cX6_pitch 25 = .ok (.iload_n 1, 1) := by decide +kernel
theorem dX6_pitch_26 : decode cX6_pitch 26 = .ok (.iload_n 2, 1) := by decide +kernel
theorem dX6_pitch_27 : decode cX6_pitch 27 = .ok (.invokevirtual 147, 3) := by decide +kernel
theorem dX6_pitch_30 : decode cX6_pitch 30 = .ok (.ireturn, 1) := by decide +kernel
theorem dX6_string_0 : decode cX6_string 0 = .ok (.aload_n 0, 1) := by decide +kernel
theorem dX6_string_1 : decode cX6_string 1 = .ok (.iload_n 1, 1) := by decide +kernel
theorem dX6_string_2 : decode cX6_string 2 = .ok (.iload_n 2, 1) := by decide +kernel
theorem dX6_string_3 : decode cX6_string 3 = .ok (.invokevirtual 93, 3) := by decide +kernel
theorem dX6_string_6 : decode cX6_string 6 = .ok (.ifCond .eq 10, 3) := by decide +kernel
theorem dX6_string_9 : decode cX6_string 9 = .ok (.iload_n 3, 1) := by decide +kernel
theorem dX6_string_10 : decode cX6_string 10 = .ok (.invokestatic 144, 3) := by decide +kernel
theorem dX6_string_13 : decode cX6_string 13 = .ok (.ifCond .ne 10, 3) := by decide +kernel
theorem dX6_string_16 : decode cX6_string 16 = .ok (.aload_n 0, 1) := by decide +kernel
theorem dX6_string_17 : decode cX6_string 17 = .ok (.ldc 57, 2) := by decide +kernel
theorem dX6_string_19 : decode cX6_string 19 = .ok (.invokevirtual 58, 3) := by decide +kernel
theorem dX6_string_22 : decode cX6_string 22 = .ok (.ireturn, 1) := by decide +kernel
theorem dX6_string_23 : decode cX6_string 23 = .ok (.aload_n 0, 1) := by decide +kernel
theorem dX6_string_24 : decode cX6_string 24 = .ok (.getfield 33, 3) := by decide +kernel
theorem dX6_string_27 : decode cX6_string 27 = .ok (.aload_n 0, 1) := by decide +kernel
theorem dX6_string_28 : decode cX6_string 28 = .ok (.getfield 19, 3) := by decide +kernel
theorem dX6_string_31 : decode cX6_string 31 = .ok (.iload_n 1, 1) := by decide +kernel
theorem dX6_string_32 : decode cX6_string 32 = .ok (.invokevirtual 150, 3) := by decide +kernel
theorem dX6_string_35 : decode cX6_string 35 = .ok (.aload_n 0, 1) := by decide +kernel
theorem dX6_string_36 : decode cX6_string 36 = .ok (.getfield 33, 3) := by decide +kernel
theorem dX6_string_39 : decode cX6_string 39 = .ok (.iload_n 2, 1) := by decide +kernel
theorem dX6_string_40 : decode cX6_string 40 = .ok (.aload_n 0, 1) := by decide +kernel
theorem dX6_string_41 : decode cX6_string 41 = .ok (.getfield 10, 3) := by decide +kernel
theorem dX6_string_44 : decode cX6_string 44 = .ok (.getfield 154, 3) := by decide +kernel
theorem dX6_string_47 : decode cX6_string 47 = .ok (.iload_n 3, 1) := by decide +kernel
theorem dX6_string_48 : decode cX6_string 48 = .ok (.iaload, 1) := by decide +kernel
theorem dX6_string_49 : decode cX6_string 49 = .ok (.invokevirtual 157, 3) := by decide +kernel
theorem dX6_string_52 : decode cX6_string 52 = .ok (.istore 4, 2) := by decide +kernel
theorem dX6_string_54 : decode cX6_string 54 = .ok (.iload 4, 2) := by decide +kernel
theorem dX6_string_56 : decode cX6_string 56 = .ok (.ifCond .ge 12, 3) := by decide +kernel
theorem dX6_string_59 : decode cX6_string 59 = .ok (.aload_n 0, 1) := by decide +kernel
theorem dX6_string_60 : decode cX6_string 60 = .ok (.ldc 92, 2) := by decide +kernel
theorem dX6_string_62 : decode cX6_string 62 = .ok (.invokevirtual 58, 3) := by decide +kernel
theorem dX6_string_65 : decode cX6_string 65 = .ok (.goto 5, 3) := by decide +kernel
theorem dX6_string_68 : decode cX6_string 68 = .ok (.iload 4, 2) := by decide +kernel
theorem dX6_string_70 : decode cX6_string 70 = .ok (.ireturn, 1) := by decide +kernel
theorem dX6_does_0 : decode cX6_does 0 = .ok (.iload_n 1, 1) := by decide +kernel
theorem dX6_does_1 : decode cX6_does 1 = .ok (.invokestatic 72, 3) := by decide +kernel
theorem dX6_does_4 : decode cX6_does 4 = .ok (.ifCond .eq 10, 3) := by decide +kernel
theorem dX6_does_7 : decode cX6_does 7 = .ok (.iload_n 2, 1) := by decide +kernel
theorem dX6_does_8 : decode cX6_does 8 = .ok (.invokestatic 144, 3) := by decide +kernel
theorem dX6_does_11 : decode cX6_does 11 = .ok (.ifCond .ne 10, 3) := by decide +kernel
theorem dX6_does_14 : decode cX6_does 14 = .ok (.aload_n 0, 1) := by decide +kernel
theorem dX6_does_15 : decode cX6_does 15 = .ok (.ldc 57, 2) := by decide +kernel
theorem dX6_does_17 : decode cX6_does 17 = .ok (.invokevirtual 58, 3) := by decide +kernel
theorem dX6_does_20 : decode cX6_does 20 = .ok (.ireturn, 1) := by decide +kernel
theorem dX6_does_21 : decode cX6_does 21 = .ok (.aload_n 0, 1) := by decide +kernel
theorem dX6_does_22 : decode cX6_does 22 = .ok (.getfield 33, 3) := by decide +kernel
theorem dX6_does_25 : decode cX6_does 25 = .ok (.aload_n 0, 1) := by decide +kernel
theorem dX6_does_26 : decode cX6_does 26 = .ok (.getfield 19, 3) := by decide +kernel
theorem dX6_does_29 : decode cX6_does 29 = .ok (.iload_n 1, 1) := by decide +kernel
theorem dX6_does_30 : decode cX6_does 30 = .ok (.invokevirtual 150, 3) := by decide +kernel
theorem dX6_does_33 : decode cX6_does 33 = .ok (.aload_n 0, 1) := by decide +kernel
theorem dX6_does_34 : decode cX6_does 34 = .ok (.getfield 33, 3) := by decide +kernel
theorem dX6_does_37 : decode cX6_does 37 = .ok (.aload_n 0, 1) := by decide +kernel
theorem dX6_does_38 : decode cX6_does 38 = .ok (.getfield 10, 3) := by decide +kernel
theorem dX6_does_41 : decode cX6_does 41 = .ok (.getfield 154, 3) := by decide +kernel
theorem dX6_does_44 : decode cX6_does 44 = .ok (.iload_n 2, 1) := by decide +kernel
theorem dX6_does_45 : decode cX6_does 45 = .ok (.iaload, 1) := by decide +kernel
theorem dX6_does_46 : decode cX6_does 46 = .ok (.invokevirtual 160, 3) := by decide +kernel
theorem dX6_does_49 : decode cX6_does 49 = .ok (.ifCond .ge 7, 3) := by decide +kernel
theorem dX6_does_52 : decode cX6_does 52 = .ok (.iconst 0, 1) := by decide +kernel
theorem dX6_does_53 : decode cX6_does 53 = .ok (.goto 4, 3) := by decide +kernel
theorem dX6_does_56 : decode cX6_does 56 = .ok (.iconst 1, 1) := by decide +kernel
theorem dX6_does_57 : decode cX6_does 57 = .ok (.ireturn, 1) := by decide +kernel
theorem dX6_many_0 : decode cX6_many 0 = .ok (.iload_n 1, 1) := by decide +kernel
theorem dX6_many_1 : decode cX6_many 1 = .ok (.invokestatic 72, 3) := by decide +kernel
theorem dX6_many_4 : decode cX6_many 4 = .ok (.ifCond .ne 10, 3) := by decide +kernel
theorem dX6_many_7 : decode cX6_many 7 = .ok (.aload_n 0, 1) := by decide +kernel
theorem dX6_many_8 : decode cX6_many 8 = .ok (.ldc 57, 2) := by decide +kernel
theorem dX6_many_10 : decode cX6_many 10 = .ok (.invokevirtual 58, 3) := by decide +kernel
theorem dX6_many_13 : decode cX6_many 13 = .ok (.ireturn, 1) := by decide +kernel
theorem dX6_many_14 : decode cX6_many 14 = .ok (.aload_n 0, 1) := by decide +kernel
theorem dX6_many_15 : decode cX6_many 15 = .ok (.getfield 33, 3) := by decide +kernel
theorem dX6_many_18 : decode cX6_many 18 = .ok (.aload_n 0, 1) := by decide +kernel
theorem dX6_many_19 : decode cX6_many 19 = .ok (.getfield 19, 3) := by decide +kernel
theorem dX6_many_22 : decode cX6_many 22 = .ok (.iload_n 1, 1) := by decide +kernel
theorem dX6_many_23 : decode cX6_many 23 = .ok (.invokevirtual 150, 3) := by decide +kernel
theorem dX6_many_26 : decode cX6_many 26 = .ok (.iconst 0, 1) := by decide +kernel
theorem dX6_many_27 : decode cX6_many 27 = .ok (.istore_n 2, 1) := by decide +kernel
theorem dX6_many_28 : decode cX6_many 28 = .ok (.iconst 0, 1) := by decide +kernel
theorem dX6_many_29 : decode cX6_many 29 = .ok (.istore_n 3, 1) := by decide +kernel
theorem dX6_many_30 : decode cX6_many 30 = .ok (.iload_n 3, 1) := by decide +kernel
theorem dX6_many_31 : decode cX6_many 31 = .ok (.sipush 2187, 3) := by decide +kernel
theorem dX6_many_34 : decode cX6_many 34 = .ok (.if_icmp .ge 31, 3) := by decide +kernel
theorem dX6_many_37 : decode cX6_many 37 = .ok (.aload_n 0, 1) := by decide +kernel
theorem dX6_many_38 : decode cX6_many 38 = .ok (.getfield 33, 3) := by decide +kernel
theorem dX6_many_41 : decode cX6_many 41 = .ok (.aload_n 0, 1) := by decide +kernel
theorem dX6_many_42 : decode cX6_many 42 = .ok (.getfield 10, 3) := by decide +kernel
theorem dX6_many_45 : decode cX6_many 45 = .ok (.getfield 154, 3) := by decide +kernel
theorem dX6_many_48 : decode cX6_many 48 = .ok (.iload_n 3, 1) := by decide +kernel
theorem dX6_many_49 : decode cX6_many 49 = .ok (.iaload, 1) := by decide +kernel
theorem dX6_many_50 : decode cX6_many 50 = .ok (.invokevirtual 160, 3) := by decide +kernel
theorem dX6_many_53 : decode cX6_many 53 = .ok (.ifCond .lt 6, 3) := by decide +kernel
theorem dX6_many_56 : decode cX6_many 56 = .ok (.iinc 2 1, 3) := by decide +kernel
theorem dX6_many_59 : decode cX6_many 59 = .ok (.iinc 3 1, 3) := by decide +kernel
theorem dX6_many_62 : decode cX6_many 62 = .ok (.goto (-32), 3) := by decide +kernel
theorem dX6_many_65 : decode cX6_many 65 = .ok (.iload_n 2, 1) := by decide +kernel
theorem dX6_many_66 : decode cX6_many 66 = .ok (.ireturn, 1) := by decide +kernel
theorem dX6_moves_0 : decode cX6_moves 0 = .ok (.aload_n 0, 1) := by decide +kernel
theorem dX6_moves_1 : decode cX6_moves 1 = .ok (.getfield 42, 3) := by decide +kernel
theorem dX6_moves_4 : decode cX6_moves 4 = .ok (.invokevirtual 163, 3) := by decide +kernel
theorem dX6_moves_7 : decode cX6_moves 7 = .ok (.ifCond .eq 13, 3) := by decide +kernel
theorem dX6_moves_10 : decode cX6_moves 10 = .ok (.aload_n 0, 1) := by decide +kernel
theorem dX6_moves_11 : decode cX6_moves 11 = .ok (.getfield 42, 3) := by decide +kernel
theorem dX6_moves_14 : decode cX6_moves 14 = .ok (.invokevirtual 167, 3) := by decide +kernel
theorem dX6_moves_17 : decode cX6_moves 17 = .ok (.goto 9, 3) := by decide +kernel
theorem dX6_moves_20 : decode cX6_moves 20 = .ok (.aload_n 0, 1) := by decide +kernel
theorem dX6_moves_21 : decode cX6_moves 21 = .ok (.ldc 92, 2) := by decide +kernel
theorem dX6_moves_23 : decode cX6_moves 23 = .ok (.invokevirtual 58, 3) := by decide +kernel
theorem dX6_moves_26 : decode cX6_moves 26 = .ok (.ireturn, 1) := by decide +kernel
theorem dX6_diagram_0 : decode cX6_diagram 0 = .ok (.aload_n 0, 1) := by decide +kernel
theorem dX6_diagram_1 : decode cX6_diagram 1 = .ok (.iload_n 1, 1) := by decide +kernel
theorem dX6_diagram_2 : decode cX6_diagram 2 = .ok (.invokevirtual 170, 3) := by decide +kernel
theorem dX6_diagram_5 : decode cX6_diagram 5 = .ok (.ifCond .ne 10, 3) := by decide +kernel
theorem dX6_diagram_8 : decode cX6_diagram 8 = .ok (.aload_n 0, 1) := by decide +kernel
theorem dX6_diagram_9 : decode cX6_diagram 9 = .ok (.ldc 57, 2) := by decide +kernel
theorem dX6_diagram_11 : decode cX6_diagram 11 = .ok (.invokevirtual 58, 3) := by decide +kernel
theorem dX6_diagram_14 : decode cX6_diagram 14 = .ok (.ireturn, 1) := by decide +kernel
theorem dX6_diagram_15 : decode cX6_diagram 15 = .ok (.aload_n 0, 1) := by decide +kernel
theorem dX6_diagram_16 : decode cX6_diagram 16 = .ok (.getfield 42, 3) := by decide +kernel
theorem dX6_diagram_19 : decode cX6_diagram 19 = .ok (.invokevirtual 163, 3) := by decide +kernel
theorem dX6_diagram_22 : decode cX6_diagram 22 = .ok (.ifCond .eq 15, 3) := by decide +kernel
theorem dX6_diagram_25 : decode cX6_diagram 25 = .ok (.aload_n 0, 1) := by decide +kernel
theorem dX6_diagram_26 : decode cX6_diagram 26 = .ok (.getfield 42, 3) := by decide +kernel
theorem dX6_diagram_29 : decode cX6_diagram 29 = .ok (.getfield 173, 3) := by decide +kernel
theorem dX6_diagram_32 : decode cX6_diagram 32 = .ok (.iload_n 1, 1) := by decide +kernel
theorem dX6_diagram_33 : decode cX6_diagram 33 = .ok (.iaload, 1) := by decide +kernel
theorem dX6_diagram_34 : decode cX6_diagram 34 = .ok (.goto 9, 3) := by decide +kernel
theorem dX6_diagram_37 : decode cX6_diagram 37 = .ok (.aload_n 0, 1) := by decide +kernel
theorem dX6_diagram_38 : decode cX6_diagram 38 = .ok (.ldc 92, 2) := by decide +kernel
theorem dX6_diagram_40 : decode cX6_diagram 40 = .ok (.invokevirtual 58, 3) := by decide +kernel
theorem dX6_diagram_43 : decode cX6_diagram 43 = .ok (.ireturn, 1) := by decide +kernel
theorem dX6_stand_0 : decode cX6_stand 0 = .ok (.aload_n 0, 1) := by decide +kernel
theorem dX6_stand_1 : decode cX6_stand 1 = .ok (.iload_n 1, 1) := by decide +kernel
theorem dX6_stand_2 : decode cX6_stand 2 = .ok (.invokevirtual 170, 3) := by decide +kernel
theorem dX6_stand_5 : decode cX6_stand 5 = .ok (.ifCond .eq 10, 3) := by decide +kernel
theorem dX6_stand_8 : decode cX6_stand 8 = .ok (.iload_n 2, 1) := by decide +kernel
theorem dX6_stand_9 : decode cX6_stand 9 = .ok (.invokestatic 126, 3) := by decide +kernel
theorem dX6_stand_12 : decode cX6_stand 12 = .ok (.ifCond .ne 10, 3) := by decide +kernel
theorem dX6_stand_15 : decode cX6_stand 15 = .ok (.aload_n 0, 1) := by decide +kernel
theorem dX6_stand_16 : decode cX6_stand 16 = .ok (.ldc 57, 2) := by decide +kernel
theorem dX6_stand_18 : decode cX6_stand 18 = .ok (.invokevirtual 58, 3) := by decide +kernel
theorem dX6_stand_21 : decode cX6_stand 21 = .ok (.ireturn, 1) := by decide +kernel
theorem dX6_stand_22 : decode cX6_stand 22 = .ok (.aload_n 0, 1) := by decide +kernel
theorem dX6_stand_23 : decode cX6_stand 23 = .ok (.getfield 42, 3) := by decide +kernel
theorem dX6_stand_26 : decode cX6_stand 26 = .ok (.invokevirtual 163, 3) := by decide +kernel
theorem dX6_stand_29 : decode cX6_stand 29 = .ok (.ifCond .ne 10, 3) := by decide +kernel
theorem dX6_stand_32 : decode cX6_stand 32 = .ok (.aload_n 0, 1) := by decide +kernel
theorem dX6_stand_33 : decode cX6_stand 33 = .ok (.ldc 92, 2) := by decide +kernel
theorem dX6_stand_35 : decode cX6_stand 35 = .ok (.invokevirtual 58, 3) := by decide +kernel
theorem dX6_stand_38 : decode cX6_stand 38 = .ok (.ireturn, 1) := by decide +kernel
theorem dX6_stand_39 : decode cX6_stand 39 = .ok (.aload_n 0, 1) := by decide +kernel
theorem dX6_stand_40 : decode cX6_stand 40 = .ok (.getfield 10, 3) := by decide +kernel
theorem dX6_stand_43 : decode cX6_stand 43 = .ok (.getfield 154, 3) := by decide +kernel
theorem dX6_stand_46 : decode cX6_stand 46 = .ok (.aload_n 0, 1) := by decide +kernel
theorem dX6_stand_47 : decode cX6_stand 47 = .ok (.getfield 42, 3) := by decide +kernel
theorem dX6_stand_50 : decode cX6_stand 50 = .ok (.getfield 173, 3) := by decide +kernel
theorem dX6_stand_53 : decode cX6_stand 53 = .ok (.iload_n 1, 1) := by decide +kernel
theorem dX6_stand_54 : decode cX6_stand 54 = .ok (.iaload, 1) := by decide +kernel
theorem dX6_stand_55 : decode cX6_stand 55 = .ok (.iaload, 1) := by decide +kernel
theorem dX6_stand_56 : decode cX6_stand 56 = .ok (.iload_n 2, 1) := by decide +kernel
theorem dX6_stand_57 : decode cX6_stand 57 = .ok (.invokestatic 176, 3) := by decide +kernel
theorem dX6_stand_60 : decode cX6_stand 60 = .ok (.ireturn, 1) := by decide +kernel
theorem dX6_foot_0 : decode cX6_foot 0 = .ok (.aload_n 0, 1) := by decide +kernel
theorem dX6_foot_1 : decode cX6_foot 1 = .ok (.iload_n 1, 1) := by decide +kernel
theorem dX6_foot_2 : decode cX6_foot 2 = .ok (.invokevirtual 170, 3) := by decide +kernel
theorem dX6_foot_5 : decode cX6_foot 5 = .ok (.ifCond .ne 10, 3) := by decide +kernel
theorem dX6_foot_8 : decode cX6_foot 8 = .ok (.aload_n 0, 1) := by decide +kernel
theorem dX6_foot_9 : decode cX6_foot 9 = .ok (.ldc 57, 2) := by decide +kernel
theorem dX6_foot_11 : decode cX6_foot 11 = .ok (.invokevirtual 58, 3) := by decide +kernel
theorem dX6_foot_14 : decode cX6_foot 14 = .ok (.ireturn, 1) := by decide +kernel
theorem dX6_foot_15 : decode cX6_foot 15 = .ok (.aload_n 0, 1) := by decide +kernel
theorem dX6_foot_16 : decode cX6_foot 16 = .ok (.getfield 42, 3) := by decide +kernel
theorem dX6_foot_19 : decode cX6_foot 19 = .ok (.invokevirtual 163, 3) := by decide +kernel
theorem dX6_foot_22 : decode cX6_foot 22 = .ok (.ifCond .ne 10, 3) := by decide +kernel
theorem dX6_foot_25 : decode cX6_foot 25 = .ok (.aload_n 0, 1) := by decide +kernel
theorem dX6_foot_26 : decode cX6_foot 26 = .ok (.ldc 92, 2) := by decide +kernel
theorem dX6_foot_28 : decode cX6_foot 28 = .ok (.invokevirtual 58, 3) := by decide +kernel
theorem dX6_foot_31 : decode cX6_foot 31 = .ok (.ireturn, 1) := by decide +kernel
theorem dX6_foot_32 : decode cX6_foot 32 = .ok (.aload_n 0, 1) := by decide +kernel
theorem dX6_foot_33 : decode cX6_foot 33 = .ok (.getfield 42, 3) := by decide +kernel
theorem dX6_foot_36 : decode cX6_foot 36 = .ok (.iload_n 1, 1) := by decide +kernel
theorem dX6_foot_37 : decode cX6_foot 37 = .ok (.iload_n 2, 1) := by decide +kernel
theorem dX6_foot_38 : decode cX6_foot 38 = .ok (.ifCond .eq 8, 3) := by decide +kernel
theorem dX6_foot_41 : decode cX6_foot 41 = .ok (.bipush 60, 2) := by decide +kernel
theorem dX6_foot_43 : decode cX6_foot 43 = .ok (.goto 5, 3) := by decide +kernel
theorem dX6_foot_46 : decode cX6_foot 46 = .ok (.bipush 67, 2) := by decide +kernel
theorem dX6_foot_48 : decode cX6_foot 48 = .ok (.invokevirtual 179, 3) := by decide +kernel
theorem dX6_foot_51 : decode cX6_foot 51 = .ok (.ireturn, 1) := by decide +kernel
theorem dX6_ways_0 : decode cX6_ways 0 = .ok (.aload_n 0, 1) := by decide +kernel
theorem dX6_ways_1 : decode cX6_ways 1 = .ok (.getfield 42, 3) := by decide +kernel
theorem dX6_ways_4 : decode cX6_ways 4 = .ok (.invokevirtual 163, 3) := by decide +kernel
theorem dX6_ways_7 : decode cX6_ways 7 = .ok (.ifCond .eq 13, 3) := by decide +kernel
theorem dX6_ways_10 : decode cX6_ways 10 = .ok (.aload_n 0, 1) := by decide +kernel
theorem dX6_ways_11 : decode cX6_ways 11 = .ok (.getfield 42, 3) := by decide +kernel
theorem dX6_ways_14 : decode cX6_ways 14 = .ok (.invokevirtual 182, 3) := by decide +kernel
theorem dX6_ways_17 : decode cX6_ways 17 = .ok (.goto 9, 3) := by decide +kernel
theorem dX6_ways_20 : decode cX6_ways 20 = .ok (.aload_n 0, 1) := by decide +kernel
theorem dX6_ways_21 : decode cX6_ways 21 = .ok (.ldc 92, 2) := by decide +kernel
theorem dX6_ways_23 : decode cX6_ways 23 = .ok (.invokevirtual 58, 3) := by decide +kernel
theorem dX6_ways_26 : decode cX6_ways 26 = .ok (.ireturn, 1) := by decide +kernel
theorem dX6_stuck_0 : decode cX6_stuck 0 = .ok (.aload_n 0, 1) := by decide +kernel
theorem dX6_stuck_1 : decode cX6_stuck 1 = .ok (.getfield 42, 3) := by decide +kernel
theorem dX6_stuck_4 : decode cX6_stuck 4 = .ok (.invokevirtual 163, 3) := by decide +kernel
theorem dX6_stuck_7 : decode cX6_stuck 7 = .ok (.ifCond .eq 7, 3) := by decide +kernel
theorem dX6_stuck_10 : decode cX6_stuck 10 = .ok (.iconst (-1), 1) := by decide +kernel
theorem dX6_stuck_11 : decode cX6_stuck 11 = .ok (.goto 10, 3) := by decide +kernel
theorem dX6_stuck_14 : decode cX6_stuck 14 = .ok (.aload_n 0, 1) := by decide +kernel
theorem dX6_stuck_15 : decode cX6_stuck 15 = .ok (.getfield 42, 3) := by decide +kernel
theorem dX6_stuck_18 : decode cX6_stuck 18 = .ok (.invokevirtual 185, 3) := by decide +kernel
theorem dX6_stuck_21 : decode cX6_stuck 21 = .ok (.ireturn, 1) := by decide +kernel
theorem dX6_without_0 : decode cX6_without 0 = .ok (.iload_n 1, 1) := by decide +kernel
theorem dX6_without_1 : decode cX6_without 1 = .ok (.invokestatic 72, 3) := by decide +kernel
theorem dX6_without_4 : decode cX6_without 4 = .ok (.ifCond .eq 10, 3) := by decide +kernel
theorem dX6_without_7 : decode cX6_without 7 = .ok (.iload_n 2, 1) := by decide +kernel
theorem dX6_without_8 : decode cX6_without 8 = .ok (.invokestatic 126, 3) := by decide +kernel
theorem dX6_without_11 : decode cX6_without 11 = .ok (.ifCond .ne 10, 3) := by decide +kernel
theorem dX6_without_14 : decode cX6_without 14 = .ok (.aload_n 0, 1) := by decide +kernel
theorem dX6_without_15 : decode cX6_without 15 = .ok (.ldc 57, 2) := by decide +kernel
theorem dX6_without_17 : decode cX6_without 17 = .ok (.invokevirtual 58, 3) := by decide +kernel
theorem dX6_without_20 : decode cX6_without 20 = .ok (.ireturn, 1) := by decide +kernel
theorem dX6_without_21 : decode cX6_without 21 = .ok (.aload_n 0, 1) := by decide +kernel
theorem dX6_without_22 : decode cX6_without 22 = .ok (.getfield 19, 3) := by decide +kernel
theorem dX6_without_25 : decode cX6_without 25 = .ok (.getfield 132, 3) := by decide +kernel
theorem dX6_without_28 : decode cX6_without 28 = .ok (.iload_n 1, 1) := by decide +kernel
theorem dX6_without_29 : decode cX6_without 29 = .ok (.bipush 7, 2) := by decide +kernel
theorem dX6_without_31 : decode cX6_without 31 = .ok (.imul, 1) := by decide +kernel
theorem dX6_without_32 : decode cX6_without 32 = .ok (.iload_n 2, 1) := by decide +kernel
theorem dX6_without_33 : decode cX6_without 33 = .ok (.iadd, 1) := by decide +kernel
theorem dX6_without_34 : decode cX6_without 34 = .ok (.iaload, 1) := by decide +kernel
theorem dX6_without_35 : decode cX6_without 35 = .ok (.ifCond .ge 10, 3) := by decide +kernel
theorem dX6_without_38 : decode cX6_without 38 = .ok (.aload_n 0, 1) := by decide +kernel
theorem dX6_without_39 : decode cX6_without 39 = .ok (.ldc 107, 2) := by decide +kernel
theorem dX6_without_41 : decode cX6_without 41 = .ok (.invokevirtual 58, 3) := by decide +kernel
theorem dX6_without_44 : decode cX6_without 44 = .ok (.ireturn, 1) := by decide +kernel
theorem dX6_without_45 : decode cX6_without 45 = .ok (.aload_n 0, 1) := by decide +kernel
theorem dX6_without_46 : decode cX6_without 46 = .ok (.getfield 42, 3) := by decide +kernel
theorem dX6_without_49 : decode cX6_without 49 = .ok (.invokevirtual 163, 3) := by decide +kernel
theorem dX6_without_52 : decode cX6_without 52 = .ok (.ifCond .eq 15, 3) := by decide +kernel
theorem dX6_without_55 : decode cX6_without 55 = .ok (.aload_n 0, 1) := by decide +kernel
theorem dX6_without_56 : decode cX6_without 56 = .ok (.getfield 42, 3) := by decide +kernel
theorem dX6_without_59 : decode cX6_without 59 = .ok (.iload_n 1, 1) := by decide +kernel
theorem dX6_without_60 : decode cX6_without 60 = .ok (.iload_n 2, 1) := by decide +kernel
theorem dX6_without_61 : decode cX6_without 61 = .ok (.invokevirtual 188, 3) := by decide +kernel
theorem dX6_without_64 : decode cX6_without 64 = .ok (.goto 9, 3) := by decide +kernel
theorem dX6_without_67 : decode cX6_without 67 = .ok (.aload_n 0, 1) := by decide +kernel
theorem dX6_without_68 : decode cX6_without 68 = .ok (.ldc 92, 2) := by decide +kernel
theorem dX6_without_70 : decode cX6_without 70 = .ok (.invokevirtual 58, 3) := by decide +kernel
theorem dX6_without_73 : decode cX6_without 73 = .ok (.ireturn, 1) := by decide +kernel
theorem dX6_split_0 : decode cX6_split 0 = .ok (.iload_n 1, 1) := by decide +kernel
theorem dX6_split_1 : decode cX6_split 1 = .ok (.invokestatic 72, 3) := by decide +kernel
theorem dX6_split_4 : decode cX6_split 4 = .ok (.ifCond .eq 10, 3) := by decide +kernel
theorem dX6_split_7 : decode cX6_split 7 = .ok (.iload_n 2, 1) := by decide +kernel
theorem dX6_split_8 : decode cX6_split 8 = .ok (.invokestatic 144, 3) := by decide +kernel
theorem dX6_split_11 : decode cX6_split 11 = .ok (.ifCond .ne 10, 3) := by decide +kernel
theorem dX6_split_14 : decode cX6_split 14 = .ok (.aload_n 0, 1) := by decide +kernel
theorem dX6_split_15 : decode cX6_split 15 = .ok (.ldc 57, 2) := by decide +kernel
theorem dX6_split_17 : decode cX6_split 17 = .ok (.invokevirtual 58, 3) := by decide +kernel
theorem dX6_split_20 : decode cX6_split 20 = .ok (.ireturn, 1) := by decide +kernel
theorem dX6_split_21 : decode cX6_split 21 = .ok (.aload_n 0, 1) := by decide +kernel
theorem dX6_split_22 : decode cX6_split 22 = .ok (.getfield 33, 3) := by decide +kernel
theorem dX6_split_25 : decode cX6_split 25 = .ok (.aload_n 0, 1) := by decide +kernel
theorem dX6_split_26 : decode cX6_split 26 = .ok (.getfield 19, 3) := by decide +kernel
theorem dX6_split_29 : decode cX6_split 29 = .ok (.iload_n 1, 1) := by decide +kernel
theorem dX6_split_30 : decode cX6_split 30 = .ok (.invokevirtual 150, 3) := by decide +kernel
theorem dX6_split_33 : decode cX6_split 33 = .ok (.aload_n 0, 1) := by decide +kernel
theorem dX6_split_34 : decode cX6_split 34 = .ok (.getfield 10, 3) := by decide +kernel
theorem dX6_split_37 : decode cX6_split 37 = .ok (.getfield 154, 3) := by decide +kernel
theorem dX6_split_40 : decode cX6_split 40 = .ok (.iload_n 2, 1) := by decide +kernel
theorem dX6_split_41 : decode cX6_split 41 = .ok (.iaload, 1) := by decide +kernel
theorem dX6_split_42 : decode cX6_split 42 = .ok (.istore_n 3, 1) := by decide +kernel
theorem dX6_split_43 : decode cX6_split 43 = .ok (.aload_n 0, 1) := by decide +kernel
theorem dX6_split_44 : decode cX6_split 44 = .ok (.getfield 33, 3) := by decide +kernel
theorem dX6_split_47 : decode cX6_split 47 = .ok (.iload_n 3, 1) := by decide +kernel
theorem dX6_split_48 : decode cX6_split 48 = .ok (.invokevirtual 160, 3) := by decide +kernel
theorem dX6_split_51 : decode cX6_split 51 = .ok (.ifCond .ge 10, 3) := by decide +kernel
theorem dX6_split_54 : decode cX6_split 54 = .ok (.aload_n 0, 1) := by decide +kernel
theorem dX6_split_55 : decode cX6_split 55 = .ok (.ldc 107, 2) := by decide +kernel
theorem dX6_split_57 : decode cX6_split 57 = .ok (.invokevirtual 58, 3) := by decide +kernel
theorem dX6_split_60 : decode cX6_split 60 = .ok (.ireturn, 1) := by decide +kernel
theorem dX6_split_61 : decode cX6_split 61 = .ok (.aload_n 0, 1) := by decide +kernel
theorem dX6_split_62 : decode cX6_split 62 = .ok (.getfield 33, 3) := by decide +kernel
theorem dX6_split_65 : decode cX6_split 65 = .ok (.iload_n 3, 1) := by decide +kernel
theorem dX6_split_66 : decode cX6_split 66 = .ok (.invokevirtual 191, 3) := by decide +kernel
theorem dX6_split_69 : decode cX6_split 69 = .ok (.istore 4, 2) := by decide +kernel
theorem dX6_split_71 : decode cX6_split 71 = .ok (.iload 4, 2) := by decide +kernel
theorem dX6_split_73 : decode cX6_split 73 = .ok (.ifCond .ge 12, 3) := by decide +kernel
theorem dX6_split_76 : decode cX6_split 76 = .ok (.aload_n 0, 1) := by decide +kernel
theorem dX6_split_77 : decode cX6_split 77 = .ok (.ldc 92, 2) := by decide +kernel
theorem dX6_split_79 : decode cX6_split 79 = .ok (.invokevirtual 58, 3) := by decide +kernel
theorem dX6_split_82 : decode cX6_split 82 = .ok (.goto 5, 3) := by decide +kernel
theorem dX6_split_85 : decode cX6_split 85 = .ok (.iload 4, 2) := by decide +kernel
theorem dX6_split_87 : decode cX6_split 87 = .ok (.ireturn, 1) := by decide +kernel
theorem dX6_hard_0 : decode cX6_hard 0 = .ok (.aload_n 0, 1) := by decide +kernel
theorem dX6_hard_1 : decode cX6_hard 1 = .ok (.getfield 42, 3) := by decide +kernel
theorem dX6_hard_4 : decode cX6_hard 4 = .ok (.invokevirtual 163, 3) := by decide +kernel
theorem dX6_hard_7 : decode cX6_hard 7 = .ok (.ifCond .ne 10, 3) := by decide +kernel
theorem dX6_hard_10 : decode cX6_hard 10 = .ok (.aload_n 0, 1) := by decide +kernel
theorem dX6_hard_11 : decode cX6_hard 11 = .ok (.ldc 92, 2) := by decide +kernel
theorem dX6_hard_13 : decode cX6_hard 13 = .ok (.invokevirtual 58, 3) := by decide +kernel
theorem dX6_hard_16 : decode cX6_hard 16 = .ok (.ireturn, 1) := by decide +kernel
theorem dX6_hard_17 : decode cX6_hard 17 = .ok (.iconst 0, 1) := by decide +kernel
theorem dX6_hard_18 : decode cX6_hard 18 = .ok (.istore_n 1, 1) := by decide +kernel
theorem dX6_hard_19 : decode cX6_hard 19 = .ok (.iload_n 1, 1) := by decide +kernel
theorem dX6_hard_20 : decode cX6_hard 20 = .ok (.aload_n 0, 1) := by decide +kernel
theorem dX6_hard_21 : decode cX6_hard 21 = .ok (.getfield 19, 3) := by decide +kernel
theorem dX6_hard_24 : decode cX6_hard 24 = .ok (.getfield 66, 3) := by decide +kernel
theorem dX6_hard_27 : decode cX6_hard 27 = .ok (.if_icmp .ge 50, 3) := by decide +kernel
theorem dX6_hard_30 : decode cX6_hard 30 = .ok (.aload_n 0, 1) := by decide +kernel
theorem dX6_hard_31 : decode cX6_hard 31 = .ok (.getfield 33, 3) := by decide +kernel
theorem dX6_hard_34 : decode cX6_hard 34 = .ok (.aload_n 0, 1) := by decide +kernel
theorem dX6_hard_35 : decode cX6_hard 35 = .ok (.getfield 19, 3) := by decide +kernel
theorem dX6_hard_38 : decode cX6_hard 38 = .ok (.iload_n 1, 1) := by decide +kernel
theorem dX6_hard_39 : decode cX6_hard 39 = .ok (.invokevirtual 150, 3) := by decide +kernel
theorem dX6_hard_42 : decode cX6_hard 42 = .ok (.aload_n 0, 1) := by decide +kernel
theorem dX6_hard_43 : decode cX6_hard 43 = .ok (.getfield 33, 3) := by decide +kernel
theorem dX6_hard_46 : decode cX6_hard 46 = .ok (.aload_n 0, 1) := by decide +kernel
theorem dX6_hard_47 : decode cX6_hard 47 = .ok (.getfield 10, 3) := by decide +kernel
theorem dX6_hard_50 : decode cX6_hard 50 = .ok (.getfield 154, 3) := by decide +kernel
theorem dX6_hard_53 : decode cX6_hard 53 = .ok (.aload_n 0, 1) := by decide +kernel
theorem dX6_hard_54 : decode cX6_hard 54 = .ok (.getfield 42, 3) := by decide +kernel
theorem dX6_hard_57 : decode cX6_hard 57 = .ok (.getfield 173, 3) := by decide +kernel
theorem dX6_hard_60 : decode cX6_hard 60 = .ok (.iload_n 1, 1) := by decide +kernel
theorem dX6_hard_61 : decode cX6_hard 61 = .ok (.iaload, 1) := by decide +kernel
theorem dX6_hard_62 : decode cX6_hard 62 = .ok (.iaload, 1) := by decide +kernel
theorem dX6_hard_63 : decode cX6_hard 63 = .ok (.invokevirtual 191, 3) := by decide +kernel
theorem dX6_hard_66 : decode cX6_hard 66 = .ok (.ifCond .ge 5, 3) := by decide +kernel
theorem dX6_hard_69 : decode cX6_hard 69 = .ok (.iload_n 1, 1) := by decide +kernel
theorem dX6_hard_70 : decode cX6_hard 70 = .ok (.ireturn, 1) := by decide +kernel
theorem dX6_hard_71 : decode cX6_hard 71 = .ok (.iinc 1 1, 3) := by decide +kernel
theorem dX6_hard_74 : decode cX6_hard 74 = .ok (.goto (-55), 3) := by decide +kernel
theorem dX6_hard_77 : decode cX6_hard 77 = .ok (.iconst (-1), 1) := by decide +kernel
theorem dX6_hard_78 : decode cX6_hard 78 = .ok (.ireturn, 1) := by decide +kernel
theorem dX6_run_0 : decode cX6_run 0 = .ok (.iload_n 1, 1) := by decide +kernel
theorem dX6_run_1 : decode cX6_run 1 = .ok (.invokestatic 141, 3) := by decide +kernel
theorem dX6_run_4 : decode cX6_run 4 = .ok (.ifCond .eq 17, 3) := by decide +kernel
theorem dX6_run_7 : decode cX6_run 7 = .ok (.iload_n 2, 1) := by decide +kernel
theorem dX6_run_8 : decode cX6_run 8 = .ok (.invokestatic 141, 3) := by decide +kernel
theorem dX6_run_11 : decode cX6_run 11 = .ok (.ifCond .eq 10, 3) := by decide +kernel
theorem dX6_run_14 : decode cX6_run 14 = .ok (.iload_n 3, 1) := by decide +kernel
theorem dX6_run_15 : decode cX6_run 15 = .ok (.invokestatic 144, 3) := by decide +kernel
theorem dX6_run_18 : decode cX6_run 18 = .ok (.ifCond .ne 10, 3) := by decide +kernel
theorem dX6_run_21 : decode cX6_run 21 = .ok (.aload_n 0, 1) := by decide +kernel
theorem dX6_run_22 : decode cX6_run 22 = .ok (.ldc 57, 2) := by decide +kernel
theorem dX6_run_24 : decode cX6_run 24 = .ok (.invokevirtual 58, 3) := by decide +kernel
theorem dX6_run_27 : decode cX6_run 27 = .ok (.ireturn, 1) := by decide +kernel
theorem dX6_run_28 : decode cX6_run 28 = .ok (.iload 4, 2) := by decide +kernel
theorem dX6_run_30 : decode cX6_run 30 = .ok (.ifCond .lt 14, 3) := by decide +kernel
theorem dX6_run_33 : decode cX6_run 33 = .ok (.iload 4, 2) := by decide +kernel
theorem dX6_run_35 : decode cX6_run 35 = .ok (.iload_n 2, 1) := by decide +kernel
theorem dX6_run_36 : decode cX6_run 36 = .ok (.iload_n 1, 1) := by decide +kernel
theorem dX6_run_37 : decode cX6_run 37 = .ok (.isub, 1) := by decide +kernel
theorem dX6_run_38 : decode cX6_run 38 = .ok (.invokestatic 194, 3) := by decide +kernel
theorem dX6_run_41 : decode cX6_run 41 = .ok (.if_icmp .le 10, 3) := by decide +kernel
theorem dX6_run_44 : decode cX6_run 44 = .ok (.aload_n 0, 1) := by decide +kernel
theorem dX6_run_45 : decode cX6_run 45 = .ok (.ldc 57, 2) := by decide +kernel
theorem dX6_run_47 : decode cX6_run 47 = .ok (.invokevirtual 58, 3) := by decide +kernel
theorem dX6_run_50 : decode cX6_run 50 = .ok (.ireturn, 1) := by decide +kernel
theorem dX6_run_51 : decode cX6_run 51 = .ok (.aload_n 0, 1) := by decide +kernel
theorem dX6_run_52 : decode cX6_run 52 = .ok (.getfield 10, 3) := by decide +kernel
theorem dX6_run_55 : decode cX6_run 55 = .ok (.iload_n 1, 1) := by decide +kernel
theorem dX6_run_56 : decode cX6_run 56 = .ok (.iload_n 2, 1) := by decide +kernel
theorem dX6_run_57 : decode cX6_run 57 = .ok (.if_icmp .gt 10, 3) := by decide +kernel
theorem dX6_run_60 : decode cX6_run 60 = .ok (.iload_n 1, 1) := by decide +kernel
theorem dX6_run_61 : decode cX6_run 61 = .ok (.iload 4, 2) := by decide +kernel
theorem dX6_run_63 : decode cX6_run 63 = .ok (.iadd, 1) := by decide +kernel
theorem dX6_run_64 : decode cX6_run 64 = .ok (.goto 7, 3) := by decide +kernel
theorem dX6_run_67 : decode cX6_run 67 = .ok (.iload_n 1, 1) := by decide +kernel
theorem dX6_run_68 : decode cX6_run 68 = .ok (.iload 4, 2) := by decide +kernel
theorem dX6_run_70 : decode cX6_run 70 = .ok (.isub, 1) := by decide +kernel
theorem dX6_run_71 : decode cX6_run 71 = .ok (.iload_n 3, 1) := by decide +kernel
theorem dX6_run_72 : decode cX6_run 72 = .ok (.invokevirtual 147, 3) := by decide +kernel
theorem dX6_run_75 : decode cX6_run 75 = .ok (.ireturn, 1) := by decide +kernel
theorem dX6_plain_0 : decode cX6_plain 0 = .ok (.iload_n 1, 1) := by decide +kernel
theorem dX6_plain_1 : decode cX6_plain 1 = .ok (.invokestatic 141, 3) := by decide +kernel
theorem dX6_plain_4 : decode cX6_plain 4 = .ok (.ifCond .eq 17, 3) := by decide +kernel
theorem dX6_plain_7 : decode cX6_plain 7 = .ok (.iload_n 2, 1) := by decide +kernel
theorem dX6_plain_8 : decode cX6_plain 8 = .ok (.invokestatic 141, 3) := by decide +kernel
theorem dX6_plain_11 : decode cX6_plain 11 = .ok (.ifCond .eq 10, 3) := by decide +kernel
theorem dX6_plain_14 : decode cX6_plain 14 = .ok (.iload_n 3, 1) := by decide +kernel
theorem dX6_plain_15 : decode cX6_plain 15 = .ok (.invokestatic 144, 3) := by decide +kernel
theorem dX6_plain_18 : decode cX6_plain 18 = .ok (.ifCond .ne 10, 3) := by decide +kernel
theorem dX6_plain_21 : decode cX6_plain 21 = .ok (.aload_n 0, 1) := by decide +kernel
theorem dX6_plain_22 : decode cX6_plain 22 = .ok (.ldc 57, 2) := by decide +kernel
theorem dX6_plain_24 : decode cX6_plain 24 = .ok (.invokevirtual 58, 3) := by decide +kernel
theorem dX6_plain_27 : decode cX6_plain 27 = .ok (.ireturn, 1) := by decide +kernel
theorem dX6_plain_28 : decode cX6_plain 28 = .ok (.aload_n 0, 1) := by decide +kernel
theorem dX6_plain_29 : decode cX6_plain 29 = .ok (.getfield 10, 3) := by decide +kernel
theorem dX6_plain_32 : decode cX6_plain 32 = .ok (.iload_n 1, 1) := by decide +kernel
theorem dX6_plain_33 : decode cX6_plain 33 = .ok (.iload_n 2, 1) := by decide +kernel
theorem dX6_plain_34 : decode cX6_plain 34 = .ok (.invokestatic 199, 3) := by decide +kernel
theorem dX6_plain_37 : decode cX6_plain 37 = .ok (.iload_n 1, 1) := by decide +kernel
theorem dX6_plain_38 : decode cX6_plain 38 = .ok (.iload_n 2, 1) := by decide +kernel
theorem dX6_plain_39 : decode cX6_plain 39 = .ok (.invokestatic 202, 3) := by decide +kernel
theorem dX6_plain_42 : decode cX6_plain 42 = .ok (.iload_n 3, 1) := by decide +kernel
theorem dX6_plain_43 : decode cX6_plain 43 = .ok (.invokevirtual 205, 3) := by decide +kernel
theorem dX6_plain_46 : decode cX6_plain 46 = .ok (.ireturn, 1) := by decide +kernel
theorem dX6_sheet_0 : decode cX6_sheet 0 = .ok (.iload_n 1, 1) := by decide +kernel
theorem dX6_sheet_1 : decode cX6_sheet 1 = .ok (.invokestatic 209, 3) := by decide +kernel
theorem dX6_sheet_4 : decode cX6_sheet 4 = .ok (.ifCond .eq 10, 3) := by decide +kernel
theorem dX6_sheet_7 : decode cX6_sheet 7 = .ok (.iload_n 2, 1) := by decide +kernel
theorem dX6_sheet_8 : decode cX6_sheet 8 = .ok (.invokestatic 212, 3) := by decide +kernel
theorem dX6_sheet_11 : decode cX6_sheet 11 = .ok (.ifCond .ne 10, 3) := by decide +kernel
theorem dX6_sheet_14 : decode cX6_sheet 14 = .ok (.aload_n 0, 1) := by decide +kernel
theorem dX6_sheet_15 : decode cX6_sheet 15 = .ok (.ldc 57, 2) := by decide +kernel
theorem dX6_sheet_17 : decode cX6_sheet 17 = .ok (.invokevirtual 58, 3) := by decide +kernel
theorem dX6_sheet_20 : decode cX6_sheet 20 = .ok (.ireturn, 1) := by decide +kernel
theorem dX6_sheet_21 : decode cX6_sheet 21 = .ok (.iload_n 3, 1) := by decide +kernel
theorem dX6_sheet_22 : decode cX6_sheet 22 = .ok (.ifCond .ge 10, 3) := by decide +kernel
theorem dX6_sheet_25 : decode cX6_sheet 25 = .ok (.aload_n 0, 1) := by decide +kernel
theorem dX6_sheet_26 : decode cX6_sheet 26 = .ok (.ldc 117, 2) := by decide +kernel
theorem dX6_sheet_28 : decode cX6_sheet 28 = .ok (.invokevirtual 58, 3) := by decide +kernel
theorem dX6_sheet_31 : decode cX6_sheet 31 = .ok (.ireturn, 1) := by decide +kernel
theorem dX6_sheet_32 : decode cX6_sheet 32 = .ok (.iload_n 3, 1) := by decide +kernel
theorem dX6_sheet_33 : decode cX6_sheet 33 = .ok (.bipush 30, 2) := by decide +kernel
theorem dX6_sheet_35 : decode cX6_sheet 35 = .ok (.if_icmp .le 10, 3) := by decide +kernel
theorem dX6_sheet_38 : decode cX6_sheet 38 = .ok (.aload_n 0, 1) := by decide +kernel
theorem dX6_sheet_39 : decode cX6_sheet 39 = .ok (.ldc 57, 2) := by decide +kernel
theorem dX6_sheet_41 : decode cX6_sheet 41 = .ok (.invokevirtual 58, 3) := by decide +kernel
theorem dX6_sheet_44 : decode cX6_sheet 44 = .ok (.ireturn, 1) := by decide +kernel
theorem dX6_sheet_45 : decode cX6_sheet 45 = .ok (.aload_n 0, 1) := by decide +kernel
theorem dX6_sheet_46 : decode cX6_sheet 46 = .ok (.getfield 49, 3) := by decide +kernel
theorem dX6_sheet_49 : decode cX6_sheet 49 = .ok (.iload_n 1, 1) := by decide +kernel
theorem dX6_sheet_50 : decode cX6_sheet 50 = .ok (.iload_n 2, 1) := by decide +kernel
theorem dX6_sheet_51 : decode cX6_sheet 51 = .ok (.iload_n 3, 1) := by decide +kernel
theorem dX6_sheet_52 : decode cX6_sheet 52 = .ok (.invokevirtual 215, 3) := by decide +kernel
theorem dX6_sheet_55 : decode cX6_sheet 55 = .ok (.ireturn, 1) := by decide +kernel
theorem dX6_put_0 : decode cX6_put 0 = .ok (.iload_n 1, 1) := by decide +kernel
theorem dX6_put_1 : decode cX6_put 1 = .ok (.invokestatic 209, 3) := by decide +kernel
theorem dX6_put_4 : decode cX6_put 4 = .ok (.ifCond .ne 10, 3) := by decide +kernel
theorem dX6_put_7 : decode cX6_put 7 = .ok (.aload_n 0, 1) := by decide +kernel
theorem dX6_put_8 : decode cX6_put 8 = .ok (.ldc 57, 2) := by decide +kernel
theorem dX6_put_10 : decode cX6_put 10 = .ok (.invokevirtual 58, 3) := by decide +kernel
theorem dX6_put_13 : decode cX6_put 13 = .ok (.ireturn, 1) := by decide +kernel
theorem dX6_put_14 : decode cX6_put 14 = .ok (.aload_n 0, 1) := by decide +kernel
theorem dX6_put_15 : decode cX6_put 15 = .ok (.getfield 49, 3) := by decide +kernel
theorem dX6_put_18 : decode cX6_put 18 = .ok (.iload_n 1, 1) := by decide +kernel
theorem dX6_put_19 : decode cX6_put 19 = .ok (.invokevirtual 218, 3) := by decide +kernel
theorem dX6_put_22 : decode cX6_put 22 = .ok (.ifCond .eq 10, 3) := by decide +kernel
theorem dX6_put_25 : decode cX6_put 25 = .ok (.aload_n 0, 1) := by decide +kernel
theorem dX6_put_26 : decode cX6_put 26 = .ok (.ldc 221, 2) := by decide +kernel
theorem dX6_put_28 : decode cX6_put 28 = .ok (.invokevirtual 58, 3) := by decide +kernel
theorem dX6_put_31 : decode cX6_put 31 = .ok (.ireturn, 1) := by decide +kernel
theorem dX6_put_32 : decode cX6_put 32 = .ok (.iload_n 2, 1) := by decide +kernel
theorem dX6_put_33 : decode cX6_put 33 = .ok (.ifCond .lt 16, 3) := by decide +kernel
theorem dX6_put_36 : decode cX6_put 36 = .ok (.iload_n 2, 1) := by decide +kernel
theorem dX6_put_37 : decode cX6_put 37 = .ok (.aload_n 0, 1) := by decide +kernel
theorem dX6_put_38 : decode cX6_put 38 = .ok (.getfield 49, 3) := by decide +kernel
theorem dX6_put_41 : decode cX6_put 41 = .ok (.getfield 222, 3) := by decide +kernel
theorem dX6_put_44 : decode cX6_put 44 = .ok (.iload_n 1, 1) := by decide +kernel
theorem dX6_put_45 : decode cX6_put 45 = .ok (.iaload, 1) := by decide +kernel
theorem dX6_put_46 : decode cX6_put 46 = .ok (.if_icmp .lt 10, 3) := by decide +kernel
theorem dX6_put_49 : decode cX6_put 49 = .ok (.aload_n 0, 1) := by decide +kernel
theorem dX6_put_50 : decode cX6_put 50 = .ok (.ldc 57, 2) := by decide +kernel
theorem dX6_put_52 : decode cX6_put 52 = .ok (.invokevirtual 58, 3) := by decide +kernel
theorem dX6_put_55 : decode cX6_put 55 = .ok (.ireturn, 1) := by decide +kernel
theorem dX6_put_56 : decode cX6_put 56 = .ok (.aload_n 0, 1) := by decide +kernel
theorem dX6_put_57 : decode cX6_put 57 = .ok (.getfield 49, 3) := by decide +kernel
theorem dX6_put_60 : decode cX6_put 60 = .ok (.iload_n 1, 1) := by decide +kernel
theorem dX6_put_61 : decode cX6_put 61 = .ok (.iload_n 2, 1) := by decide +kernel
theorem dX6_put_62 : decode cX6_put 62 = .ok (.iload_n 3, 1) := by decide +kernel
theorem dX6_put_63 : decode cX6_put 63 = .ok (.invokevirtual 223, 3) := by decide +kernel
theorem dX6_put_66 : decode cX6_put 66 = .ok (.iconst 0, 1) := by decide +kernel
theorem dX6_put_67 : decode cX6_put 67 = .ok (.ireturn, 1) := by decide +kernel
theorem dX6_copy_0 : decode cX6_copy 0 = .ok (.iload_n 1, 1) := by decide +kernel
theorem dX6_copy_1 : decode cX6_copy 1 = .ok (.invokestatic 209, 3) := by decide +kernel
theorem dX6_copy_4 : decode cX6_copy 4 = .ok (.ifCond .eq 10, 3) := by decide +kernel
theorem dX6_copy_7 : decode cX6_copy 7 = .ok (.iload_n 3, 1) := by decide +kernel
theorem dX6_copy_8 : decode cX6_copy 8 = .ok (.invokestatic 209, 3) := by decide +kernel
theorem dX6_copy_11 : decode cX6_copy 11 = .ok (.ifCond .ne 10, 3) := by decide +kernel
theorem dX6_copy_14 : decode cX6_copy 14 = .ok (.aload_n 0, 1) := by decide +kernel
theorem dX6_copy_15 : decode cX6_copy 15 = .ok (.ldc 57, 2) := by decide +kernel
theorem dX6_copy_17 : decode cX6_copy 17 = .ok (.invokevirtual 58, 3) := by decide +kernel
theorem dX6_copy_20 : decode cX6_copy 20 = .ok (.ireturn, 1) := by decide +kernel
theorem dX6_copy_21 : decode cX6_copy 21 = .ok (.aload_n 0, 1) := by decide +kernel
theorem dX6_copy_22 : decode cX6_copy 22 = .ok (.getfield 49, 3) := by decide +kernel
theorem dX6_copy_25 : decode cX6_copy 25 = .ok (.iload_n 1, 1) := by decide +kernel
theorem dX6_copy_26 : decode cX6_copy 26 = .ok (.invokevirtual 218, 3) := by decide +kernel
theorem dX6_copy_29 : decode cX6_copy 29 = .ok (.ifCond .ne 14, 3) := by decide +kernel
theorem dX6_copy_32 : decode cX6_copy 32 = .ok (.aload_n 0, 1) := by decide +kernel
theorem dX6_copy_33 : decode cX6_copy 33 = .ok (.getfield 49, 3) := by decide +kernel
theorem dX6_copy_36 : decode cX6_copy 36 = .ok (.iload_n 3, 1) := by decide +kernel
theorem dX6_copy_37 : decode cX6_copy 37 = .ok (.invokevirtual 218, 3) := by decide +kernel
theorem dX6_copy_40 : decode cX6_copy 40 = .ok (.ifCond .eq 10, 3) := by decide +kernel
theorem dX6_copy_43 : decode cX6_copy 43 = .ok (.aload_n 0, 1) := by decide +kernel
theorem dX6_copy_44 : decode cX6_copy 44 = .ok (.ldc 221, 2) := by decide +kernel
theorem dX6_copy_46 : decode cX6_copy 46 = .ok (.invokevirtual 58, 3) := by decide +kernel
theorem dX6_copy_49 : decode cX6_copy 49 = .ok (.ireturn, 1) := by decide +kernel
theorem dX6_copy_50 : decode cX6_copy 50 = .ok (.aload_n 0, 1) := by decide +kernel
theorem dX6_copy_51 : decode cX6_copy 51 = .ok (.getfield 49, 3) := by decide +kernel
theorem dX6_copy_54 : decode cX6_copy 54 = .ok (.getfield 227, 3) := by decide +kernel
theorem dX6_copy_57 : decode cX6_copy 57 = .ok (.iload_n 1, 1) := by decide +kernel
theorem dX6_copy_58 : decode cX6_copy 58 = .ok (.iaload, 1) := by decide +kernel
theorem dX6_copy_59 : decode cX6_copy 59 = .ok (.aload_n 0, 1) := by decide +kernel
theorem dX6_copy_60 : decode cX6_copy 60 = .ok (.getfield 49, 3) := by decide +kernel
theorem dX6_copy_63 : decode cX6_copy 63 = .ok (.getfield 227, 3) := by decide +kernel
theorem dX6_copy_66 : decode cX6_copy 66 = .ok (.iload_n 3, 1) := by decide +kernel
theorem dX6_copy_67 : decode cX6_copy 67 = .ok (.iaload, 1) := by decide +kernel
theorem dX6_copy_68 : decode cX6_copy 68 = .ok (.if_icmp .eq 10, 3) := by decide +kernel
theorem dX6_copy_71 : decode cX6_copy 71 = .ok (.aload_n 0, 1) := by decide +kernel
theorem dX6_copy_72 : decode cX6_copy 72 = .ok (.ldc 107, 2) := by decide +kernel
theorem dX6_copy_74 : decode cX6_copy 74 = .ok (.invokevirtual 58, 3) := by decide +kernel
theorem dX6_copy_77 : decode cX6_copy 77 = .ok (.ireturn, 1) := by decide +kernel
theorem dX6_copy_78 : decode cX6_copy 78 = .ok (.aload_n 0, 1) := by decide +kernel
theorem dX6_copy_79 : decode cX6_copy 79 = .ok (.getfield 49, 3) := by decide +kernel
theorem dX6_copy_82 : decode cX6_copy 82 = .ok (.iload_n 1, 1) := by decide +kernel
theorem dX6_copy_83 : decode cX6_copy 83 = .ok (.iload_n 2, 1) := by decide +kernel
theorem dX6_copy_84 : decode cX6_copy 84 = .ok (.iload 5, 2) := by decide +kernel
theorem dX6_copy_86 : decode cX6_copy 86 = .ok (.invokevirtual 230, 3) := by decide +kernel
theorem dX6_copy_89 : decode cX6_copy 89 = .ok (.ifCond .eq 18, 3) := by decide +kernel
theorem dX6_copy_92 : decode cX6_copy 92 = .ok (.aload_n 0, 1) := by decide +kernel
theorem dX6_copy_93 : decode cX6_copy 93 = .ok (.getfield 49, 3) := by decide +kernel
theorem dX6_copy_96 : decode cX6_copy 96 = .ok (.iload_n 3, 1) := by decide +kernel
theorem dX6_copy_97 : decode cX6_copy 97 = .ok (.iload 4, 2) := by decide +kernel
theorem dX6_copy_99 : decode cX6_copy 99 = .ok (.iload 5, 2) := by decide +kernel
theorem dX6_copy_101 : decode cX6_copy 101 = .ok (.invokevirtual 230, 3) := by decide +kernel
theorem dX6_copy_104 : decode cX6_copy 104 = .ok (.ifCond .ne 10, 3) := by decide +kernel
theorem dX6_copy_107 : decode cX6_copy 107 = .ok (.aload_n 0, 1) := by decide +kernel
theorem dX6_copy_108 : decode cX6_copy 108 = .ok (.ldc 57, 2) := by decide +kernel
theorem dX6_copy_110 : decode cX6_copy 110 = .ok (.invokevirtual 58, 3) := by decide +kernel
theorem dX6_copy_113 : decode cX6_copy 113 = .ok (.ireturn, 1) := by decide +kernel
theorem dX6_copy_114 : decode cX6_copy 114 = .ok (.aload_n 0, 1) := by decide +kernel
theorem dX6_copy_115 : decode cX6_copy 115 = .ok (.getfield 49, 3) := by decide +kernel
theorem dX6_copy_118 : decode cX6_copy 118 = .ok (.getfield 234, 3) := by decide +kernel
theorem dX6_copy_121 : decode cX6_copy 121 = .ok (.iload_n 1, 1) := by decide +kernel
theorem dX6_copy_122 : decode cX6_copy 122 = .ok (.aaload, 1) := by decide +kernel
theorem dX6_copy_123 : decode cX6_copy 123 = .ok (.iload_n 2, 1) := by decide +kernel
theorem dX6_copy_124 : decode cX6_copy 124 = .ok (.aload_n 0, 1) := by decide +kernel
theorem dX6_copy_125 : decode cX6_copy 125 = .ok (.getfield 49, 3) := by decide +kernel
theorem dX6_copy_128 : decode cX6_copy 128 = .ok (.getfield 234, 3) := by decide +kernel
theorem dX6_copy_131 : decode cX6_copy 131 = .ok (.iload_n 3, 1) := by decide +kernel
theorem dX6_copy_132 : decode cX6_copy 132 = .ok (.aaload, 1) := by decide +kernel
theorem dX6_copy_133 : decode cX6_copy 133 = .ok (.iload 4, 2) := by decide +kernel
theorem dX6_copy_135 : decode cX6_copy 135 = .ok (.iload 5, 2) := by decide +kernel
theorem dX6_copy_137 : decode cX6_copy 137 = .ok (.invokestatic 238, 3) := by decide +kernel
theorem dX6_copy_140 : decode cX6_copy 140 = .ok (.iload 5, 2) := by decide +kernel
theorem dX6_copy_142 : decode cX6_copy 142 = .ok (.ireturn, 1) := by decide +kernel
theorem dX6_tune_0 : decode cX6_tune 0 = .ok (.iload_n 1, 1) := by decide +kernel
theorem dX6_tune_1 : decode cX6_tune 1 = .ok (.invokestatic 209, 3) := by decide +kernel
theorem dX6_tune_4 : decode cX6_tune 4 = .ok (.ifCond .ne 10, 3) := by decide +kernel
theorem dX6_tune_7 : decode cX6_tune 7 = .ok (.aload_n 0, 1) := by decide +kernel
theorem dX6_tune_8 : decode cX6_tune 8 = .ok (.ldc 57, 2) := by decide +kernel
theorem dX6_tune_10 : decode cX6_tune 10 = .ok (.invokevirtual 58, 3) := by decide +kernel
