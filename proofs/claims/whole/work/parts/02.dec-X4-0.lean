theorem dX4_init_0 : decode cX4_init 0 = .ok (.aload_n 0, 1) := by decide +kernel
theorem dX4_init_1 : decode cX4_init 1 = .ok (.invokespecial 1, 3) := by decide +kernel
theorem dX4_init_4 : decode cX4_init 4 = .ok (.aload_n 0, 1) := by decide +kernel
theorem dX4_init_5 : decode cX4_init 5 = .ok (.iconst 4, 1) := by decide +kernel
theorem dX4_init_6 : decode cX4_init 6 = .ok (.newarray .int, 2) := by decide +kernel
theorem dX4_init_8 : decode cX4_init 8 = .ok (.putfield 9, 3) := by decide +kernel
theorem dX4_init_11 : decode cX4_init 11 = .ok (.aload_n 0, 1) := by decide +kernel
theorem dX4_init_12 : decode cX4_init 12 = .ok (.iconst 4, 1) := by decide +kernel
theorem dX4_init_13 : decode cX4_init 13 = .ok (.newarray .int, 2) := by decide +kernel
theorem dX4_init_15 : decode cX4_init 15 = .ok (.putfield 13, 3) := by decide +kernel
theorem dX4_init_18 : decode cX4_init 18 = .ok (.aload_n 0, 1) := by decide +kernel
theorem dX4_init_19 : decode cX4_init 19 = .ok (.iconst 4, 1) := by decide +kernel
theorem dX4_init_20 : decode cX4_init 20 = .ok (.bipush 30, 2) := by decide +kernel
theorem dX4_init_22 : decode cX4_init 22 = .ok (.multianewarray 16 2, 4) := by decide +kernel
theorem dX4_init_26 : decode cX4_init 26 = .ok (.putfield 18, 3) := by decide +kernel
theorem dX4_init_29 : decode cX4_init 29 = .ok (.return_, 1) := by decide +kernel
theorem dX4_isSheet_0 : decode cX4_isSheet 0 = .ok (.iload_n 0, 1) := by decide +kernel
theorem dX4_isSheet_1 : decode cX4_isSheet 1 = .ok (.ifCond .lt 12, 3) := by decide +kernel
theorem dX4_isSheet_4 : decode cX4_isSheet 4 = .ok (.iload_n 0, 1) := by decide +kernel
theorem dX4_isSheet_5 : decode cX4_isSheet 5 = .ok (.iconst 4, 1) := by decide +kernel
theorem dX4_isSheet_6 : decode cX4_isSheet 6 = .ok (.if_icmp .ge 7, 3) := by decide +kernel
theorem dX4_isSheet_9 : decode cX4_isSheet 9 = .ok (.iconst 1, 1) := by decide +kernel
theorem dX4_isSheet_10 : decode cX4_isSheet 10 = .ok (.goto 4, 3) := by decide +kernel
theorem dX4_isSheet_13 : decode cX4_isSheet 13 = .ok (.iconst 0, 1) := by decide +kernel
theorem dX4_isSheet_14 : decode cX4_isSheet 14 = .ok (.ireturn, 1) := by decide +kernel
theorem dX4_isBits_0 : decode cX4_isBits 0 = .ok (.iload_n 0, 1) := by decide +kernel
theorem dX4_isBits_1 : decode cX4_isBits 1 = .ok (.ifCond .eq 21, 3) := by decide +kernel
theorem dX4_isBits_4 : decode cX4_isBits 4 = .ok (.iload_n 0, 1) := by decide +kernel
theorem dX4_isBits_5 : decode cX4_isBits 5 = .ok (.bipush 8, 2) := by decide +kernel
theorem dX4_isBits_7 : decode cX4_isBits 7 = .ok (.if_icmp .eq 15, 3) := by decide +kernel
theorem dX4_isBits_10 : decode cX4_isBits 10 = .ok (.iload_n 0, 1) := by decide +kernel
theorem dX4_isBits_11 : decode cX4_isBits 11 = .ok (.bipush 16, 2) := by decide +kernel
theorem dX4_isBits_13 : decode cX4_isBits 13 = .ok (.if_icmp .eq 9, 3) := by decide +kernel
theorem dX4_isBits_16 : decode cX4_isBits 16 = .ok (.iload_n 0, 1) := by decide +kernel
theorem dX4_isBits_17 : decode cX4_isBits 17 = .ok (.bipush 32, 2) := by decide +kernel
theorem dX4_isBits_19 : decode cX4_isBits 19 = .ok (.if_icmp .ne 7, 3) := by decide +kernel
theorem dX4_isBits_22 : decode cX4_isBits 22 = .ok (.iconst 1, 1) := by decide +kernel
theorem dX4_isBits_23 : decode cX4_isBits 23 = .ok (.goto 4, 3) := by decide +kernel
theorem dX4_isBits_26 : decode cX4_isBits 26 = .ok (.iconst 0, 1) := by decide +kernel
theorem dX4_isBits_27 : decode cX4_isBits 27 = .ok (.ireturn, 1) := by decide +kernel
theorem dX4_isMissing_0 : decode cX4_isMissing 0 = .ok (.aload_n 0, 1) := by decide +kernel
theorem dX4_isMissing_1 : decode cX4_isMissing 1 = .ok (.getfield 9, 3) := by decide +kernel
theorem dX4_isMissing_4 : decode cX4_isMissing 4 = .ok (.iload_n 1, 1) := by decide +kernel
theorem dX4_isMissing_5 : decode cX4_isMissing 5 = .ok (.iaload, 1) := by decide +kernel
theorem dX4_isMissing_6 : decode cX4_isMissing 6 = .ok (.ifCond .ne 7, 3) := by decide +kernel
theorem dX4_isMissing_9 : decode cX4_isMissing 9 = .ok (.iconst 1, 1) := by decide +kernel
theorem dX4_isMissing_10 : decode cX4_isMissing 10 = .ok (.goto 4, 3) := by decide +kernel
theorem dX4_isMissing_13 : decode cX4_isMissing 13 = .ok (.iconst 0, 1) := by decide +kernel
theorem dX4_isMissing_14 : decode cX4_isMissing 14 = .ok (.ireturn, 1) := by decide +kernel
theorem dX4_renew_0 : decode cX4_renew 0 = .ok (.aload_n 0, 1) := by decide +kernel
theorem dX4_renew_1 : decode cX4_renew 1 = .ok (.getfield 9, 3) := by decide +kernel
theorem dX4_renew_4 : decode cX4_renew 4 = .ok (.iload_n 1, 1) := by decide +kernel
theorem dX4_renew_5 : decode cX4_renew 5 = .ok (.iload_n 2, 1) := by decide +kernel
theorem dX4_renew_6 : decode cX4_renew 6 = .ok (.iastore, 1) := by decide +kernel
theorem dX4_renew_7 : decode cX4_renew 7 = .ok (.aload_n 0, 1) := by decide +kernel
theorem dX4_renew_8 : decode cX4_renew 8 = .ok (.getfield 13, 3) := by decide +kernel
theorem dX4_renew_11 : decode cX4_renew 11 = .ok (.iload_n 1, 1) := by decide +kernel
theorem dX4_renew_12 : decode cX4_renew 12 = .ok (.iload_n 2, 1) := by decide +kernel
theorem dX4_renew_13 : decode cX4_renew 13 = .ok (.ifCond .ne 7, 3) := by decide +kernel
theorem dX4_renew_16 : decode cX4_renew 16 = .ok (.iconst 0, 1) := by decide +kernel
theorem dX4_renew_17 : decode cX4_renew 17 = .ok (.goto 4, 3) := by decide +kernel
theorem dX4_renew_20 : decode cX4_renew 20 = .ok (.iload_n 3, 1) := by decide +kernel
theorem dX4_renew_21 : decode cX4_renew 21 = .ok (.iastore, 1) := by decide +kernel
theorem dX4_renew_22 : decode cX4_renew 22 = .ok (.aload_n 0, 1) := by decide +kernel
theorem dX4_renew_23 : decode cX4_renew 23 = .ok (.getfield 18, 3) := by decide +kernel
theorem dX4_renew_26 : decode cX4_renew 26 = .ok (.iload_n 1, 1) := by decide +kernel
theorem dX4_renew_27 : decode cX4_renew 27 = .ok (.aaload, 1) := by decide +kernel
theorem dX4_renew_28 : decode cX4_renew 28 = .ok (.iconst 0, 1) := by decide +kernel
theorem dX4_renew_29 : decode cX4_renew 29 = .ok (.invokestatic 21, 3) := by decide +kernel
theorem dX4_renew_32 : decode cX4_renew 32 = .ok (.aload_n 0, 1) := by decide +kernel
theorem dX4_renew_33 : decode cX4_renew 33 = .ok (.getfield 13, 3) := by decide +kernel
theorem dX4_renew_36 : decode cX4_renew 36 = .ok (.iload_n 1, 1) := by decide +kernel
theorem dX4_renew_37 : decode cX4_renew 37 = .ok (.iaload, 1) := by decide +kernel
theorem dX4_renew_38 : decode cX4_renew 38 = .ok (.ireturn, 1) := by decide +kernel
theorem dX4_write_0 : decode cX4_write 0 = .ok (.aload_n 0, 1) := by decide +kernel
theorem dX4_write_1 : decode cX4_write 1 = .ok (.getfield 9, 3) := by decide +kernel
theorem dX4_write_4 : decode cX4_write 4 = .ok (.iload_n 1, 1) := by decide +kernel
theorem dX4_write_5 : decode cX4_write 5 = .ok (.iaload, 1) := by decide +kernel
theorem dX4_write_6 : decode cX4_write 6 = .ok (.lookupswitch 52 #[(8, 26), (16, 39)], 26) := by decide +kernel
theorem dX4_write_32 : decode cX4_write 32 = .ok (.aload_n 0, 1) := by decide +kernel
theorem dX4_write_33 : decode cX4_write 33 = .ok (.getfield 18, 3) := by decide +kernel
theorem dX4_write_36 : decode cX4_write 36 = .ok (.iload_n 1, 1) := by decide +kernel
theorem dX4_write_37 : decode cX4_write 37 = .ok (.aaload, 1) := by decide +kernel
theorem dX4_write_38 : decode cX4_write 38 = .ok (.iload_n 2, 1) := by decide +kernel
theorem dX4_write_39 : decode cX4_write 39 = .ok (.iload_n 3, 1) := by decide +kernel
theorem dX4_write_40 : decode cX4_write 40 = .ok (.i2b, 1) := by decide +kernel
theorem dX4_write_41 : decode cX4_write 41 = .ok (.iastore, 1) := by decide +kernel
theorem dX4_write_42 : decode cX4_write 42 = .ok (.goto 25, 3) := by decide +kernel
theorem dX4_write_45 : decode cX4_write 45 = .ok (.aload_n 0, 1) := by decide +kernel
theorem dX4_write_46 : decode cX4_write 46 = .ok (.getfield 18, 3) := by decide +kernel
theorem dX4_write_49 : decode cX4_write 49 = .ok (.iload_n 1, 1) := by decide +kernel
theorem dX4_write_50 : decode cX4_write 50 = .ok (.aaload, 1) := by decide +kernel
theorem dX4_write_51 : decode cX4_write 51 = .ok (.iload_n 2, 1) := by decide +kernel
theorem dX4_write_52 : decode cX4_write 52 = .ok (.iload_n 3, 1) := by decide +kernel
theorem dX4_write_53 : decode cX4_write 53 = .ok (.i2s, 1) := by decide +kernel
theorem dX4_write_54 : decode cX4_write 54 = .ok (.iastore, 1) := by decide +kernel
theorem dX4_write_55 : decode cX4_write 55 = .ok (.goto 12, 3) := by decide +kernel
theorem dX4_write_58 : decode cX4_write 58 = .ok (.aload_n 0, 1) := by decide +kernel
theorem dX4_write_59 : decode cX4_write 59 = .ok (.getfield 18, 3) := by decide +kernel
theorem dX4_write_62 : decode cX4_write 62 = .ok (.iload_n 1, 1) := by decide +kernel
theorem dX4_write_63 : decode cX4_write 63 = .ok (.aaload, 1) := by decide +kernel
theorem dX4_write_64 : decode cX4_write 64 = .ok (.iload_n 2, 1) := by decide +kernel
theorem dX4_write_65 : decode cX4_write 65 = .ok (.iload_n 3, 1) := by decide +kernel
theorem dX4_write_66 : decode cX4_write 66 = .ok (.iastore, 1) := by decide +kernel
theorem dX4_write_67 : decode cX4_write 67 = .ok (.return_, 1) := by decide +kernel
theorem dX4_has_0 : decode cX4_has 0 = .ok (.iload_n 2, 1) := by decide +kernel
theorem dX4_has_1 : decode cX4_has 1 = .ok (.ifCond .lt 33, 3) := by decide +kernel
theorem dX4_has_4 : decode cX4_has 4 = .ok (.iload_n 3, 1) := by decide +kernel
theorem dX4_has_5 : decode cX4_has 5 = .ok (.ifCond .lt 29, 3) := by decide +kernel
theorem dX4_has_8 : decode cX4_has 8 = .ok (.iload_n 2, 1) := by decide +kernel
theorem dX4_has_9 : decode cX4_has 9 = .ok (.aload_n 0, 1) := by decide +kernel
theorem dX4_has_10 : decode cX4_has 10 = .ok (.getfield 13, 3) := by decide +kernel
theorem dX4_has_13 : decode cX4_has 13 = .ok (.iload_n 1, 1) := by decide +kernel
theorem dX4_has_14 : decode cX4_has 14 = .ok (.iaload, 1) := by decide +kernel
theorem dX4_has_15 : decode cX4_has 15 = .ok (.if_icmp .gt 19, 3) := by decide +kernel
theorem dX4_has_18 : decode cX4_has 18 = .ok (.iload_n 3, 1) := by decide +kernel
theorem dX4_has_19 : decode cX4_has 19 = .ok (.aload_n 0, 1) := by decide +kernel
theorem dX4_has_20 : decode cX4_has 20 = .ok (.getfield 13, 3) := by decide +kernel
theorem dX4_has_23 : decode cX4_has 23 = .ok (.iload_n 1, 1) := by decide +kernel
theorem dX4_has_24 : decode cX4_has 24 = .ok (.iaload, 1) := by decide +kernel
theorem dX4_has_25 : decode cX4_has 25 = .ok (.iload_n 2, 1) := by decide +kernel
theorem dX4_has_26 : decode cX4_has 26 = .ok (.isub, 1) := by decide +kernel
theorem dX4_has_27 : decode cX4_has 27 = .ok (.if_icmp .gt 7, 3) := by decide +kernel
theorem dX4_has_30 : decode cX4_has 30 = .ok (.iconst 1, 1) := by decide +kernel
theorem dX4_has_31 : decode cX4_has 31 = .ok (.goto 4, 3) := by decide +kernel
theorem dX4_has_34 : decode cX4_has 34 = .ok (.iconst 0, 1) := by decide +kernel
theorem dX4_has_35 : decode cX4_has 35 = .ok (.ireturn, 1) := by decide +kernel
theorem dX4_hasAbove_0 : decode cX4_hasAbove 0 = .ok (.iconst 0, 1) := by decide +kernel
theorem dX4_hasAbove_1 : decode cX4_hasAbove 1 = .ok (.istore_n 3, 1) := by decide +kernel
theorem dX4_hasAbove_2 : decode cX4_hasAbove 2 = .ok (.iload_n 3, 1) := by decide +kernel
theorem dX4_hasAbove_3 : decode cX4_hasAbove 3 = .ok (.aload_n 0, 1) := by decide +kernel
theorem dX4_hasAbove_4 : decode cX4_hasAbove 4 = .ok (.getfield 13, 3) := by decide +kernel
theorem dX4_hasAbove_7 : decode cX4_hasAbove 7 = .ok (.iload_n 1, 1) := by decide +kernel
theorem dX4_hasAbove_8 : decode cX4_hasAbove 8 = .ok (.iaload, 1) := by decide +kernel
theorem dX4_hasAbove_9 : decode cX4_hasAbove 9 = .ok (.if_icmp .ge 23, 3) := by decide +kernel
theorem dX4_hasAbove_12 : decode cX4_hasAbove 12 = .ok (.aload_n 0, 1) := by decide +kernel
theorem dX4_hasAbove_13 : decode cX4_hasAbove 13 = .ok (.getfield 18, 3) := by decide +kernel
theorem dX4_hasAbove_16 : decode cX4_hasAbove 16 = .ok (.iload_n 1, 1) := by decide +kernel
theorem dX4_hasAbove_17 : decode cX4_hasAbove 17 = .ok (.aaload, 1) := by decide +kernel
theorem dX4_hasAbove_18 : decode cX4_hasAbove 18 = .ok (.iload_n 3, 1) := by decide +kernel
theorem dX4_hasAbove_19 : decode cX4_hasAbove 19 = .ok (.iaload, 1) := by decide +kernel
theorem dX4_hasAbove_20 : decode cX4_hasAbove 20 = .ok (.iload_n 2, 1) := by decide +kernel
theorem dX4_hasAbove_21 : decode cX4_hasAbove 21 = .ok (.if_icmp .le 5, 3) := by decide +kernel
theorem dX4_hasAbove_24 : decode cX4_hasAbove 24 = .ok (.iconst 1, 1) := by decide +kernel
theorem dX4_hasAbove_25 : decode cX4_hasAbove 25 = .ok (.ireturn, 1) := by decide +kernel
theorem dX4_hasAbove_26 : decode cX4_hasAbove 26 = .ok (.iinc 3 1, 3) := by decide +kernel
theorem dX4_hasAbove_29 : decode cX4_hasAbove 29 = .ok (.goto (-27), 3) := by decide +kernel
theorem dX4_hasAbove_32 : decode cX4_hasAbove 32 = .ok (.iconst 0, 1) := by decide +kernel
theorem dX4_hasAbove_33 : decode cX4_hasAbove 33 = .ok (.ireturn, 1) := by decide +kernel
