theorem dX9_count_84 : decode cX9_count 84 = .ok (.aload_n 0, 1) := by decide +kernel
theorem dX9_count_85 : decode cX9_count 85 = .ok (.getfield 69, 3) := by decide +kernel
theorem dX9_count_88 : decode cX9_count 88 = .ok (.getfield 164, 3) := by decide +kernel
theorem dX9_count_91 : decode cX9_count 91 = .ok (.ireturn, 1) := by decide +kernel
theorem dX9_count_92 : decode cX9_count 92 = .ok (.aload_n 0, 1) := by decide +kernel
theorem dX9_count_93 : decode cX9_count 93 = .ok (.getfield 10, 3) := by decide +kernel
theorem dX9_count_96 : decode cX9_count 96 = .ok (.getfield 93, 3) := by decide +kernel
theorem dX9_count_99 : decode cX9_count 99 = .ok (.ireturn, 1) := by decide +kernel
theorem dX9_count_100 : decode cX9_count 100 = .ok (.iconst (-1), 1) := by decide +kernel
theorem dX9_count_101 : decode cX9_count 101 = .ok (.ireturn, 1) := by decide +kernel
theorem dX9_settle_0 : decode cX9_settle 0 = .ok (.aload_n 0, 1) := by decide +kernel
theorem dX9_settle_1 : decode cX9_settle 1 = .ok (.getfield 33, 3) := by decide +kernel
theorem dX9_settle_4 : decode cX9_settle 4 = .ok (.aload_n 0, 1) := by decide +kernel
theorem dX9_settle_5 : decode cX9_settle 5 = .ok (.getfield 26, 3) := by decide +kernel
theorem dX9_settle_8 : decode cX9_settle 8 = .ok (.invokevirtual 223, 3) := by decide +kernel
theorem dX9_settle_11 : decode cX9_settle 11 = .ok (.aload_n 0, 1) := by decide +kernel
theorem dX9_settle_12 : decode cX9_settle 12 = .ok (.getfield 56, 3) := by decide +kernel
theorem dX9_settle_15 : decode cX9_settle 15 = .ok (.aload_n 0, 1) := by decide +kernel
theorem dX9_settle_16 : decode cX9_settle 16 = .ok (.getfield 33, 3) := by decide +kernel
theorem dX9_settle_19 : decode cX9_settle 19 = .ok (.getfield 108, 3) := by decide +kernel
theorem dX9_settle_22 : decode cX9_settle 22 = .ok (.invokevirtual 227, 3) := by decide +kernel
theorem dX9_settle_25 : decode cX9_settle 25 = .ok (.aload_n 0, 1) := by decide +kernel
theorem dX9_settle_26 : decode cX9_settle 26 = .ok (.getfield 65, 3) := by decide +kernel
theorem dX9_settle_29 : decode cX9_settle 29 = .ok (.iconst 0, 1) := by decide +kernel
theorem dX9_settle_30 : decode cX9_settle 30 = .ok (.putfield 164, 3) := by decide +kernel
theorem dX9_settle_33 : decode cX9_settle 33 = .ok (.aload_n 0, 1) := by decide +kernel
theorem dX9_settle_34 : decode cX9_settle 34 = .ok (.getfield 69, 3) := by decide +kernel
theorem dX9_settle_37 : decode cX9_settle 37 = .ok (.iconst 0, 1) := by decide +kernel
theorem dX9_settle_38 : decode cX9_settle 38 = .ok (.putfield 164, 3) := by decide +kernel
theorem dX9_settle_41 : decode cX9_settle 41 = .ok (.aload_n 0, 1) := by decide +kernel
theorem dX9_settle_42 : decode cX9_settle 42 = .ok (.getfield 75, 3) := by decide +kernel
theorem dX9_settle_45 : decode cX9_settle 45 = .ok (.iconst 0, 1) := by decide +kernel
theorem dX9_settle_46 : decode cX9_settle 46 = .ok (.putfield 206, 3) := by decide +kernel
theorem dX9_settle_49 : decode cX9_settle 49 = .ok (.return_, 1) := by decide +kernel
theorem dX9_isPerson_0 : decode cX9_isPerson 0 = .ok (.iload_n 1, 1) := by decide +kernel
theorem dX9_isPerson_1 : decode cX9_isPerson 1 = .ok (.ifCond .lt 21, 3) := by decide +kernel
theorem dX9_isPerson_4 : decode cX9_isPerson 4 = .ok (.iload_n 1, 1) := by decide +kernel
theorem dX9_isPerson_5 : decode cX9_isPerson 5 = .ok (.aload_n 0, 1) := by decide +kernel
theorem dX9_isPerson_6 : decode cX9_isPerson 6 = .ok (.getfield 33, 3) := by decide +kernel
theorem dX9_isPerson_9 : decode cX9_isPerson 9 = .ok (.getfield 108, 3) := by decide +kernel
theorem dX9_isPerson_12 : decode cX9_isPerson 12 = .ok (.getfield 105, 3) := by decide +kernel
theorem dX9_isPerson_15 : decode cX9_isPerson 15 = .ok (.if_icmp .ge 7, 3) := by decide +kernel
theorem dX9_isPerson_18 : decode cX9_isPerson 18 = .ok (.iconst 1, 1) := by decide +kernel
theorem dX9_isPerson_19 : decode cX9_isPerson 19 = .ok (.goto 4, 3) := by decide +kernel
theorem dX9_isPerson_22 : decode cX9_isPerson 22 = .ok (.iconst 0, 1) := by decide +kernel
theorem dX9_isPerson_23 : decode cX9_isPerson 23 = .ok (.ireturn, 1) := by decide +kernel
theorem dX9_isSet_0 : decode cX9_isSet 0 = .ok (.iload_n 1, 1) := by decide +kernel
theorem dX9_isSet_1 : decode cX9_isSet 1 = .ok (.ifCond .lt 21, 3) := by decide +kernel
theorem dX9_isSet_4 : decode cX9_isSet 4 = .ok (.iload_n 1, 1) := by decide +kernel
theorem dX9_isSet_5 : decode cX9_isSet 5 = .ok (.aload_n 0, 1) := by decide +kernel
theorem dX9_isSet_6 : decode cX9_isSet 6 = .ok (.getfield 33, 3) := by decide +kernel
theorem dX9_isSet_9 : decode cX9_isSet 9 = .ok (.getfield 108, 3) := by decide +kernel
theorem dX9_isSet_12 : decode cX9_isSet 12 = .ok (.invokevirtual 230, 3) := by decide +kernel
theorem dX9_isSet_15 : decode cX9_isSet 15 = .ok (.if_icmp .ge 7, 3) := by decide +kernel
theorem dX9_isSet_18 : decode cX9_isSet 18 = .ok (.iconst 1, 1) := by decide +kernel
theorem dX9_isSet_19 : decode cX9_isSet 19 = .ok (.goto 4, 3) := by decide +kernel
theorem dX9_isSet_22 : decode cX9_isSet 22 = .ok (.iconst 0, 1) := by decide +kernel
theorem dX9_isSet_23 : decode cX9_isSet 23 = .ok (.ireturn, 1) := by decide +kernel
theorem dX9_season_0 : decode cX9_season 0 = .ok (.aload_n 0, 1) := by decide +kernel
theorem dX9_season_1 : decode cX9_season 1 = .ok (.getfield 33, 3) := by decide +kernel
theorem dX9_season_4 : decode cX9_season 4 = .ok (.getfield 108, 3) := by decide +kernel
theorem dX9_season_7 : decode cX9_season 7 = .ok (.getfield 233, 3) := by decide +kernel
theorem dX9_season_10 : decode cX9_season 10 = .ok (.ireturn, 1) := by decide +kernel
theorem dX9_canPay_0 : decode cX9_canPay 0 = .ok (.iconst 0, 1) := by decide +kernel
theorem dX9_canPay_1 : decode cX9_canPay 1 = .ok (.istore_n 2, 1) := by decide +kernel
theorem dX9_canPay_2 : decode cX9_canPay 2 = .ok (.iload_n 2, 1) := by decide +kernel
theorem dX9_canPay_3 : decode cX9_canPay 3 = .ok (.aload_n 0, 1) := by decide +kernel
theorem dX9_canPay_4 : decode cX9_canPay 4 = .ok (.getfield 33, 3) := by decide +kernel
theorem dX9_canPay_7 : decode cX9_canPay 7 = .ok (.getfield 108, 3) := by decide +kernel
theorem dX9_canPay_10 : decode cX9_canPay 10 = .ok (.getfield 105, 3) := by decide +kernel
theorem dX9_canPay_13 : decode cX9_canPay 13 = .ok (.if_icmp .ge 47, 3) := by decide +kernel
theorem dX9_canPay_16 : decode cX9_canPay 16 = .ok (.iload_n 1, 1) := by decide +kernel
theorem dX9_canPay_17 : decode cX9_canPay 17 = .ok (.iload_n 2, 1) := by decide +kernel
theorem dX9_canPay_18 : decode cX9_canPay 18 = .ok (.invokestatic 145, 3) := by decide +kernel
theorem dX9_canPay_21 : decode cX9_canPay 21 = .ok (.ifCond .eq 33, 3) := by decide +kernel
theorem dX9_canPay_24 : decode cX9_canPay 24 = .ok (.aload_n 0, 1) := by decide +kernel
theorem dX9_canPay_25 : decode cX9_canPay 25 = .ok (.getfield 56, 3) := by decide +kernel
theorem dX9_canPay_28 : decode cX9_canPay 28 = .ok (.iload_n 2, 1) := by decide +kernel
theorem dX9_canPay_29 : decode cX9_canPay 29 = .ok (.invokevirtual 114, 3) := by decide +kernel
theorem dX9_canPay_32 : decode cX9_canPay 32 = .ok (.aload_n 0, 1) := by decide +kernel
theorem dX9_canPay_33 : decode cX9_canPay 33 = .ok (.getfield 33, 3) := by decide +kernel
theorem dX9_canPay_36 : decode cX9_canPay 36 = .ok (.iload_n 2, 1) := by decide +kernel
theorem dX9_canPay_37 : decode cX9_canPay 37 = .ok (.aload_n 0, 1) := by decide +kernel
theorem dX9_canPay_38 : decode cX9_canPay 38 = .ok (.getfield 56, 3) := by decide +kernel
theorem dX9_canPay_41 : decode cX9_canPay 41 = .ok (.getfield 135, 3) := by decide +kernel
theorem dX9_canPay_44 : decode cX9_canPay 44 = .ok (.iload_n 1, 1) := by decide +kernel
theorem dX9_canPay_45 : decode cX9_canPay 45 = .ok (.ior, 1) := by decide +kernel
theorem dX9_canPay_46 : decode cX9_canPay 46 = .ok (.invokevirtual 149, 3) := by decide +kernel
theorem dX9_canPay_49 : decode cX9_canPay 49 = .ok (.if_icmp .ge 5, 3) := by decide +kernel
theorem dX9_canPay_52 : decode cX9_canPay 52 = .ok (.iconst 0, 1) := by decide +kernel
theorem dX9_canPay_53 : decode cX9_canPay 53 = .ok (.ireturn, 1) := by decide +kernel
theorem dX9_canPay_54 : decode cX9_canPay 54 = .ok (.iinc 2 1, 3) := by decide +kernel
theorem dX9_canPay_57 : decode cX9_canPay 57 = .ok (.goto (-55), 3) := by decide +kernel
theorem dX9_canPay_60 : decode cX9_canPay 60 = .ok (.iconst 1, 1) := by decide +kernel
theorem dX9_canPay_61 : decode cX9_canPay 61 = .ok (.ireturn, 1) := by decide +kernel
theorem dX9_isEither_0 : decode cX9_isEither 0 = .ok (.iload_n 0, 1) := by decide +kernel
theorem dX9_isEither_1 : decode cX9_isEither 1 = .ok (.ifCond .eq 8, 3) := by decide +kernel
theorem dX9_isEither_4 : decode cX9_isEither 4 = .ok (.iload_n 0, 1) := by decide +kernel
theorem dX9_isEither_5 : decode cX9_isEither 5 = .ok (.iconst 1, 1) := by decide +kernel
theorem dX9_isEither_6 : decode cX9_isEither 6 = .ok (.if_icmp .ne 7, 3) := by decide +kernel
theorem dX9_isEither_9 : decode cX9_isEither 9 = .ok (.iconst 1, 1) := by decide +kernel
theorem dX9_isEither_10 : decode cX9_isEither 10 = .ok (.goto 4, 3) := by decide +kernel
theorem dX9_isEither_13 : decode cX9_isEither 13 = .ok (.iconst 0, 1) := by decide +kernel
theorem dX9_isEither_14 : decode cX9_isEither 14 = .ok (.ireturn, 1) := by decide +kernel
theorem dX9_bit_0 : decode cX9_bit 0 = .ok (.iconst 1, 1) := by decide +kernel
theorem dX9_bit_1 : decode cX9_bit 1 = .ok (.iload_n 0, 1) := by decide +kernel
theorem dX9_bit_2 : decode cX9_bit 2 = .ok (.ishl, 1) := by decide +kernel
theorem dX9_bit_3 : decode cX9_bit 3 = .ok (.ireturn, 1) := by decide +kernel
theorem dX9_has_0 : decode cX9_has 0 = .ok (.iload_n 0, 1) := by decide +kernel
theorem dX9_has_1 : decode cX9_has 1 = .ok (.iload_n 1, 1) := by decide +kernel
theorem dX9_has_2 : decode cX9_has 2 = .ok (.invokestatic 156, 3) := by decide +kernel
theorem dX9_has_5 : decode cX9_has 5 = .ok (.iand, 1) := by decide +kernel
theorem dX9_has_6 : decode cX9_has 6 = .ok (.ifCond .eq 7, 3) := by decide +kernel
theorem dX9_has_9 : decode cX9_has 9 = .ok (.iconst 1, 1) := by decide +kernel
theorem dX9_has_10 : decode cX9_has 10 = .ok (.goto 4, 3) := by decide +kernel
theorem dX9_has_13 : decode cX9_has 13 = .ok (.iconst 0, 1) := by decide +kernel
theorem dX9_has_14 : decode cX9_has 14 = .ok (.ireturn, 1) := by decide +kernel
theorem dX9_at_0 : decode cX9_at 0 = .ok (.iload_n 1, 1) := by decide +kernel
theorem dX9_at_1 : decode cX9_at 1 = .ok (.ifCond .lt 15, 3) := by decide +kernel
theorem dX9_at_4 : decode cX9_at 4 = .ok (.iload_n 1, 1) := by decide +kernel
theorem dX9_at_5 : decode cX9_at 5 = .ok (.aload_n 0, 1) := by decide +kernel
theorem dX9_at_6 : decode cX9_at 6 = .ok (.arraylength, 1) := by decide +kernel
theorem dX9_at_7 : decode cX9_at 7 = .ok (.if_icmp .ge 9, 3) := by decide +kernel
theorem dX9_at_10 : decode cX9_at 10 = .ok (.aload_n 0, 1) := by decide +kernel
theorem dX9_at_11 : decode cX9_at 11 = .ok (.iload_n 1, 1) := by decide +kernel
theorem dX9_at_12 : decode cX9_at 12 = .ok (.iaload, 1) := by decide +kernel
theorem dX9_at_13 : decode cX9_at 13 = .ok (.goto 4, 3) := by decide +kernel
theorem dX9_at_16 : decode cX9_at 16 = .ok (.iconst 0, 1) := by decide +kernel
theorem dX9_at_17 : decode cX9_at 17 = .ok (.ireturn, 1) := by decide +kernel
theorem dX9_put_0 : decode cX9_put 0 = .ok (.iload_n 1, 1) := by decide +kernel
theorem dX9_put_1 : decode cX9_put 1 = .ok (.ifCond .lt 13, 3) := by decide +kernel
theorem dX9_put_4 : decode cX9_put 4 = .ok (.iload_n 1, 1) := by decide +kernel
theorem dX9_put_5 : decode cX9_put 5 = .ok (.aload_n 0, 1) := by decide +kernel
theorem dX9_put_6 : decode cX9_put 6 = .ok (.arraylength, 1) := by decide +kernel
theorem dX9_put_7 : decode cX9_put 7 = .ok (.if_icmp .ge 7, 3) := by decide +kernel
theorem dX9_put_10 : decode cX9_put 10 = .ok (.aload_n 0, 1) := by decide +kernel
theorem dX9_put_11 : decode cX9_put 11 = .ok (.iload_n 1, 1) := by decide +kernel
theorem dX9_put_12 : decode cX9_put 12 = .ok (.iload_n 2, 1) := by decide +kernel
theorem dX9_put_13 : decode cX9_put 13 = .ok (.iastore, 1) := by decide +kernel
theorem dX9_put_14 : decode cX9_put 14 = .ok (.return_, 1) := by decide +kernel
theorem dX9_valueOf_0 : decode cX9_valueOf 0 = .ok (.iload_n 0, 1) := by decide +kernel
theorem dX9_valueOf_1 : decode cX9_valueOf 1 = .ok (.iconst 1, 1) := by decide +kernel
theorem dX9_valueOf_2 : decode cX9_valueOf 2 = .ok (.if_icmp .ne 10, 3) := by decide +kernel
theorem dX9_valueOf_5 : decode cX9_valueOf 5 = .ok (.iload 4, 2) := by decide +kernel
theorem dX9_valueOf_7 : decode cX9_valueOf 7 = .ok (.ifCond .le 5, 3) := by decide +kernel
theorem dX9_valueOf_10 : decode cX9_valueOf 10 = .ok (.iconst 0, 1) := by decide +kernel
theorem dX9_valueOf_11 : decode cX9_valueOf 11 = .ok (.ireturn, 1) := by decide +kernel
theorem dX9_valueOf_12 : decode cX9_valueOf 12 = .ok (.iload_n 0, 1) := by decide +kernel
theorem dX9_valueOf_13 : decode cX9_valueOf 13 = .ok (.iconst 2, 1) := by decide +kernel
theorem dX9_valueOf_14 : decode cX9_valueOf 14 = .ok (.if_icmp .ne 10, 3) := by decide +kernel
theorem dX9_valueOf_17 : decode cX9_valueOf 17 = .ok (.iload 4, 2) := by decide +kernel
theorem dX9_valueOf_19 : decode cX9_valueOf 19 = .ok (.ifCond .le 5, 3) := by decide +kernel
theorem dX9_valueOf_22 : decode cX9_valueOf 22 = .ok (.iconst (-1), 1) := by decide +kernel
theorem dX9_valueOf_23 : decode cX9_valueOf 23 = .ok (.ireturn, 1) := by decide +kernel
theorem dX9_valueOf_24 : decode cX9_valueOf 24 = .ok (.iload_n 0, 1) := by decide +kernel
theorem dX9_valueOf_25 : decode cX9_valueOf 25 = .ok (.iconst 3, 1) := by decide +kernel
theorem dX9_valueOf_26 : decode cX9_valueOf 26 = .ok (.if_icmp .ne 11, 3) := by decide +kernel
theorem dX9_valueOf_29 : decode cX9_valueOf 29 = .ok (.iload 4, 2) := by decide +kernel
theorem dX9_valueOf_31 : decode cX9_valueOf 31 = .ok (.iconst 2, 1) := by decide +kernel
theorem dX9_valueOf_32 : decode cX9_valueOf 32 = .ok (.if_icmp .ge 5, 3) := by decide +kernel
theorem dX9_valueOf_35 : decode cX9_valueOf 35 = .ok (.iconst 0, 1) := by decide +kernel
theorem dX9_valueOf_36 : decode cX9_valueOf 36 = .ok (.ireturn, 1) := by decide +kernel
theorem dX9_valueOf_37 : decode cX9_valueOf 37 = .ok (.iload_n 1, 1) := by decide +kernel
theorem dX9_valueOf_38 : decode cX9_valueOf 38 = .ok (.iload_n 3, 1) := by decide +kernel
theorem dX9_valueOf_39 : decode cX9_valueOf 39 = .ok (.bipush 50, 2) := by decide +kernel
theorem dX9_valueOf_41 : decode cX9_valueOf 41 = .ok (.isub, 1) := by decide +kernel
theorem dX9_valueOf_42 : decode cX9_valueOf 42 = .ok (.iadd, 1) := by decide +kernel
theorem dX9_valueOf_43 : decode cX9_valueOf 43 = .ok (.iload_n 2, 1) := by decide +kernel
theorem dX9_valueOf_44 : decode cX9_valueOf 44 = .ok (.bipush 9, 2) := by decide +kernel
theorem dX9_valueOf_46 : decode cX9_valueOf 46 = .ok (.isub, 1) := by decide +kernel
theorem dX9_valueOf_47 : decode cX9_valueOf 47 = .ok (.iload 4, 2) := by decide +kernel
theorem dX9_valueOf_49 : decode cX9_valueOf 49 = .ok (.imul, 1) := by decide +kernel
theorem dX9_valueOf_50 : decode cX9_valueOf 50 = .ok (.iadd, 1) := by decide +kernel
theorem dX9_valueOf_51 : decode cX9_valueOf 51 = .ok (.ireturn, 1) := by decide +kernel
theorem dX10_init_0 : decode cX10_init 0 = .ok (.aload_n 0, 1) := by decide +kernel
theorem dX10_init_1 : decode cX10_init 1 = .ok (.invokespecial 1, 3) := by decide +kernel
theorem dX10_init_4 : decode cX10_init 4 = .ok (.aload_n 0, 1) := by decide +kernel
theorem dX10_init_5 : decode cX10_init 5 = .ok (.sipush 300, 3) := by decide +kernel
theorem dX10_init_8 : decode cX10_init 8 = .ok (.newarray .int, 2) := by decide +kernel
theorem dX10_init_10 : decode cX10_init 10 = .ok (.putfield 7, 3) := by decide +kernel
theorem dX10_init_13 : decode cX10_init 13 = .ok (.aload_n 0, 1) := by decide +kernel
theorem dX10_init_14 : decode cX10_init 14 = .ok (.iconst 3, 1) := by decide +kernel
theorem dX10_init_15 : decode cX10_init 15 = .ok (.putfield 13, 3) := by decide +kernel
theorem dX10_init_18 : decode cX10_init 18 = .ok (.aload_n 0, 1) := by decide +kernel
theorem dX10_init_19 : decode cX10_init 19 = .ok (.bipush 7, 2) := by decide +kernel
theorem dX10_init_21 : decode cX10_init 21 = .ok (.newarray .int, 2) := by decide +kernel
theorem dX10_init_23 : decode cX10_init 23 = .ok (.putfield 17, 3) := by decide +kernel
theorem dX10_init_26 : decode cX10_init 26 = .ok (.aload_n 0, 1) := by decide +kernel
theorem dX10_init_27 : decode cX10_init 27 = .ok (.bipush 7, 2) := by decide +kernel
theorem dX10_init_29 : decode cX10_init 29 = .ok (.newarray .int, 2) := by decide +kernel
theorem dX10_init_31 : decode cX10_init 31 = .ok (.putfield 20, 3) := by decide +kernel
theorem dX10_init_34 : decode cX10_init 34 = .ok (.aload_n 0, 1) := by decide +kernel
theorem dX10_init_35 : decode cX10_init 35 = .ok (.bipush 7, 2) := by decide +kernel
theorem dX10_init_37 : decode cX10_init 37 = .ok (.newarray .int, 2) := by decide +kernel
theorem dX10_init_39 : decode cX10_init 39 = .ok (.putfield 23, 3) := by decide +kernel
theorem dX10_init_42 : decode cX10_init 42 = .ok (.aload_n 0, 1) := by decide +kernel
theorem dX10_init_43 : decode cX10_init 43 = .ok (.bipush 7, 2) := by decide +kernel
theorem dX10_init_45 : decode cX10_init 45 = .ok (.newarray .int, 2) := by decide +kernel
theorem dX10_init_47 : decode cX10_init 47 = .ok (.putfield 26, 3) := by decide +kernel
theorem dX10_init_50 : decode cX10_init 50 = .ok (.aload_n 0, 1) := by decide +kernel
theorem dX10_init_51 : decode cX10_init 51 = .ok (.bipush 7, 2) := by decide +kernel
theorem dX10_init_53 : decode cX10_init 53 = .ok (.newarray .int, 2) := by decide +kernel
theorem dX10_init_55 : decode cX10_init 55 = .ok (.putfield 29, 3) := by decide +kernel
theorem dX10_init_58 : decode cX10_init 58 = .ok (.aload_n 0, 1) := by decide +kernel
theorem dX10_init_59 : decode cX10_init 59 = .ok (.bipush 50, 2) := by decide +kernel
theorem dX10_init_61 : decode cX10_init 61 = .ok (.putfield 32, 3) := by decide +kernel
theorem dX10_init_64 : decode cX10_init 64 = .ok (.aload_n 0, 1) := by decide +kernel
theorem dX10_init_65 : decode cX10_init 65 = .ok (.bipush 64, 2) := by decide +kernel
theorem dX10_init_67 : decode cX10_init 67 = .ok (.newarray .int, 2) := by decide +kernel
theorem dX10_init_69 : decode cX10_init 69 = .ok (.putfield 35, 3) := by decide +kernel
theorem dX10_init_72 : decode cX10_init 72 = .ok (.aload_n 0, 1) := by decide +kernel
theorem dX10_init_73 : decode cX10_init 73 = .ok (.bipush 16, 2) := by decide +kernel
theorem dX10_init_75 : decode cX10_init 75 = .ok (.newarray .int, 2) := by decide +kernel
theorem dX10_init_77 : decode cX10_init 77 = .ok (.putfield 38, 3) := by decide +kernel
theorem dX10_init_80 : decode cX10_init 80 = .ok (.aload_n 0, 1) := by decide +kernel
theorem dX10_init_81 : decode cX10_init 81 = .ok (.bipush 8, 2) := by decide +kernel
theorem dX10_init_83 : decode cX10_init 83 = .ok (.newarray .int, 2) := by decide +kernel
theorem dX10_init_85 : decode cX10_init 85 = .ok (.putfield 41, 3) := by decide +kernel
theorem dX10_init_88 : decode cX10_init 88 = .ok (.aload_n 0, 1) := by decide +kernel
theorem dX10_init_89 : decode cX10_init 89 = .ok (.bipush 8, 2) := by decide +kernel
theorem dX10_init_91 : decode cX10_init 91 = .ok (.newarray .int, 2) := by decide +kernel
theorem dX10_init_93 : decode cX10_init 93 = .ok (.putfield 44, 3) := by decide +kernel
theorem dX10_init_96 : decode cX10_init 96 = .ok (.aload_n 0, 1) := by decide +kernel
theorem dX10_init_97 : decode cX10_init 97 = .ok (.bipush 8, 2) := by decide +kernel
theorem dX10_init_99 : decode cX10_init 99 = .ok (.newarray .boolean, 2) := by decide +kernel
theorem dX10_init_101 : decode cX10_init 101 = .ok (.putfield 47, 3) := by decide +kernel
theorem dX10_init_104 : decode cX10_init 104 = .ok (.aload_n 0, 1) := by decide +kernel
theorem dX10_init_105 : decode cX10_init 105 = .ok (.bipush 35, 2) := by decide +kernel
theorem dX10_init_107 : decode cX10_init 107 = .ok (.newarray .int, 2) := by decide +kernel
theorem dX10_init_109 : decode cX10_init 109 = .ok (.putfield 51, 3) := by decide +kernel
theorem dX10_init_112 : decode cX10_init 112 = .ok (.aload_n 0, 1) := by decide +kernel
theorem dX10_init_113 : decode cX10_init 113 = .ok (.sipush 128, 3) := by decide +kernel
theorem dX10_init_116 : decode cX10_init 116 = .ok (.newarray .int, 2) := by decide +kernel
theorem dX10_init_118 : decode cX10_init 118 = .ok (.putfield 54, 3) := by decide +kernel
theorem dX10_init_121 : decode cX10_init 121 = .ok (.iconst 0, 1) := by decide +kernel
theorem dX10_init_122 : decode cX10_init 122 = .ok (.istore_n 1, 1) := by decide +kernel
theorem dX10_init_123 : decode cX10_init 123 = .ok (.iload_n 1, 1) := by decide +kernel
theorem dX10_init_124 : decode cX10_init 124 = .ok (.iconst 3, 1) := by decide +kernel
theorem dX10_init_125 : decode cX10_init 125 = .ok (.if_icmp .ge 52, 3) := by decide +kernel
theorem dX10_init_128 : decode cX10_init 128 = .ok (.aload_n 0, 1) := by decide +kernel
theorem dX10_init_129 : decode cX10_init 129 = .ok (.getfield 20, 3) := by decide +kernel
theorem dX10_init_132 : decode cX10_init 132 = .ok (.iload_n 1, 1) := by decide +kernel
theorem dX10_init_133 : decode cX10_init 133 = .ok (.bipush 9, 2) := by decide +kernel
theorem dX10_init_135 : decode cX10_init 135 = .ok (.iconst 4, 1) := by decide +kernel
theorem dX10_init_136 : decode cX10_init 136 = .ok (.iload_n 1, 1) := by decide +kernel
theorem dX10_init_137 : decode cX10_init 137 = .ok (.iconst 2, 1) := by decide +kernel
theorem dX10_init_138 : decode cX10_init 138 = .ok (.irem, 1) := by decide +kernel
theorem dX10_init_139 : decode cX10_init 139 = .ok (.imul, 1) := by decide +kernel
theorem dX10_init_140 : decode cX10_init 140 = .ok (.isub, 1) := by decide +kernel
theorem dX10_init_141 : decode cX10_init 141 = .ok (.iconst 2, 1) := by decide +kernel
theorem dX10_init_142 : decode cX10_init 142 = .ok (.iload_n 1, 1) := by decide +kernel
theorem dX10_init_143 : decode cX10_init 143 = .ok (.iconst 2, 1) := by decide +kernel
theorem dX10_init_144 : decode cX10_init 144 = .ok (.idiv, 1) := by decide +kernel
theorem dX10_init_145 : decode cX10_init 145 = .ok (.imul, 1) := by decide +kernel
theorem dX10_init_146 : decode cX10_init 146 = .ok (.isub, 1) := by decide +kernel
theorem dX10_init_147 : decode cX10_init 147 = .ok (.iastore, 1) := by decide +kernel
theorem dX10_init_148 : decode cX10_init 148 = .ok (.aload_n 0, 1) := by decide +kernel
theorem dX10_init_149 : decode cX10_init 149 = .ok (.getfield 23, 3) := by decide +kernel
theorem dX10_init_152 : decode cX10_init 152 = .ok (.iload_n 1, 1) := by decide +kernel
theorem dX10_init_153 : decode cX10_init 153 = .ok (.bipush 9, 2) := by decide +kernel
theorem dX10_init_155 : decode cX10_init 155 = .ok (.iastore, 1) := by decide +kernel
theorem dX10_init_156 : decode cX10_init 156 = .ok (.aload_n 0, 1) := by decide +kernel
theorem dX10_init_157 : decode cX10_init 157 = .ok (.getfield 26, 3) := by decide +kernel
theorem dX10_init_160 : decode cX10_init 160 = .ok (.iload_n 1, 1) := by decide +kernel
theorem dX10_init_161 : decode cX10_init 161 = .ok (.iload_n 1, 1) := by decide +kernel
theorem dX10_init_162 : decode cX10_init 162 = .ok (.iastore, 1) := by decide +kernel
theorem dX10_init_163 : decode cX10_init 163 = .ok (.aload_n 0, 1) := by decide +kernel
theorem dX10_init_164 : decode cX10_init 164 = .ok (.getfield 29, 3) := by decide +kernel
theorem dX10_init_167 : decode cX10_init 167 = .ok (.iload_n 1, 1) := by decide +kernel
theorem dX10_init_168 : decode cX10_init 168 = .ok (.bipush 9, 2) := by decide +kernel
theorem dX10_init_170 : decode cX10_init 170 = .ok (.iastore, 1) := by decide +kernel
theorem dX10_init_171 : decode cX10_init 171 = .ok (.iinc 1 1, 3) := by decide +kernel
theorem dX10_init_174 : decode cX10_init 174 = .ok (.goto (-51), 3) := by decide +kernel
theorem dX10_init_177 : decode cX10_init 177 = .ok (.aload_n 0, 1) := by decide +kernel
theorem dX10_init_178 : decode cX10_init 178 = .ok (.getfield 17, 3) := by decide +kernel
theorem dX10_init_181 : decode cX10_init 181 = .ok (.iconst 2, 1) := by decide +kernel
theorem dX10_init_182 : decode cX10_init 182 = .ok (.iconst 2, 1) := by decide +kernel
theorem dX10_init_183 : decode cX10_init 183 = .ok (.iastore, 1) := by decide +kernel
theorem dX10_init_184 : decode cX10_init 184 = .ok (.return_, 1) := by decide +kernel
theorem dX10_in_0 : decode cX10_in 0 = .ok (.lload_n 0, 1) := by decide +kernel
theorem dX10_in_1 : decode cX10_in 1 = .ok (.lload_n 2, 1) := by decide +kernel
theorem dX10_in_2 : decode cX10_in 2 = .ok (.lcmp, 1) := by decide +kernel
theorem dX10_in_3 : decode cX10_in 3 = .ok (.ifCond .lt 14, 3) := by decide +kernel
theorem dX10_in_6 : decode cX10_in 6 = .ok (.lload_n 0, 1) := by decide +kernel
theorem dX10_in_7 : decode cX10_in 7 = .ok (.lload 4, 2) := by decide +kernel
theorem dX10_in_9 : decode cX10_in 9 = .ok (.lcmp, 1) := by decide +kernel
theorem dX10_in_10 : decode cX10_in 10 = .ok (.ifCond .gt 7, 3) := by decide +kernel
theorem dX10_in_13 : decode cX10_in 13 = .ok (.iconst 1, 1) := by decide +kernel
theorem dX10_in_14 : decode cX10_in 14 = .ok (.goto 4, 3) := by decide +kernel
theorem dX10_in_17 : decode cX10_in 17 = .ok (.iconst 0, 1) := by decide +kernel
theorem dX10_in_18 : decode cX10_in 18 = .ok (.ireturn, 1) := by decide +kernel
theorem dX10_has_0 : decode cX10_has 0 = .ok (.iload_n 0, 1) := by decide +kernel
theorem dX10_has_1 : decode cX10_has 1 = .ok (.iload_n 1, 1) := by decide +kernel
theorem dX10_has_2 : decode cX10_has 2 = .ok (.ishr, 1) := by decide +kernel
theorem dX10_has_3 : decode cX10_has 3 = .ok (.iconst 1, 1) := by decide +kernel
theorem dX10_has_4 : decode cX10_has 4 = .ok (.iand, 1) := by decide +kernel
theorem dX10_has_5 : decode cX10_has 5 = .ok (.iconst 1, 1) := by decide +kernel
theorem dX10_has_6 : decode cX10_has 6 = .ok (.if_icmp .ne 7, 3) := by decide +kernel
theorem dX10_has_9 : decode cX10_has 9 = .ok (.iconst 1, 1) := by decide +kernel
theorem dX10_has_10 : decode cX10_has 10 = .ok (.goto 4, 3) := by decide +kernel
theorem dX10_has_13 : decode cX10_has 13 = .ok (.iconst 0, 1) := by decide +kernel
theorem dX10_has_14 : decode cX10_has 14 = .ok (.ireturn, 1) := by decide +kernel
theorem dX10_bits_0 : decode cX10_bits 0 = .ok (.iconst 0, 1) := by decide +kernel
theorem dX10_bits_1 : decode cX10_bits 1 = .ok (.istore_n 1, 1) := by decide +kernel
theorem dX10_bits_2 : decode cX10_bits 2 = .ok (.iload_n 0, 1) := by decide +kernel
theorem dX10_bits_3 : decode cX10_bits 3 = .ok (.istore_n 2, 1) := by decide +kernel
theorem dX10_bits_4 : decode cX10_bits 4 = .ok (.iload_n 2, 1) := by decide +kernel
theorem dX10_bits_5 : decode cX10_bits 5 = .ok (.ifCond .eq 15, 3) := by decide +kernel
theorem dX10_bits_8 : decode cX10_bits 8 = .ok (.iinc 1 1, 3) := by decide +kernel
theorem dX10_bits_11 : decode cX10_bits 11 = .ok (.iload_n 2, 1) := by decide +kernel
theorem dX10_bits_12 : decode cX10_bits 12 = .ok (.iload_n 2, 1) := by decide +kernel
theorem dX10_bits_13 : decode cX10_bits 13 = .ok (.iconst 1, 1) := by decide +kernel
theorem dX10_bits_14 : decode cX10_bits 14 = .ok (.isub, 1) := by decide +kernel
theorem dX10_bits_15 : decode cX10_bits 15 = .ok (.iand, 1) := by decide +kernel
theorem dX10_bits_16 : decode cX10_bits 16 = .ok (.istore_n 2, 1) := by decide +kernel
theorem dX10_bits_17 : decode cX10_bits 17 = .ok (.goto (-13), 3) := by decide +kernel
theorem dX10_bits_20 : decode cX10_bits 20 = .ok (.iload_n 1, 1) := by decide +kernel
theorem dX10_bits_21 : decode cX10_bits 21 = .ok (.ireturn, 1) := by decide +kernel
theorem dX10_isPerson_0 : decode cX10_isPerson 0 = .ok (.iload_n 1, 1) := by decide +kernel
theorem dX10_isPerson_1 : decode cX10_isPerson 1 = .ok (.i2l, 1) := by decide +kernel
theorem dX10_isPerson_2 : decode cX10_isPerson 2 = .ok (.lconst 0, 1) := by decide +kernel
theorem dX10_isPerson_3 : decode cX10_isPerson 3 = .ok (.aload_n 0, 1) := by decide +kernel
theorem dX10_isPerson_4 : decode cX10_isPerson 4 = .ok (.getfield 13, 3) := by decide +kernel
theorem dX10_isPerson_7 : decode cX10_isPerson 7 = .ok (.iconst 1, 1) := by decide +kernel
theorem dX10_isPerson_8 : decode cX10_isPerson 8 = .ok (.isub, 1) := by decide +kernel
theorem dX10_isPerson_9 : decode cX10_isPerson 9 = .ok (.i2l, 1) := by decide +kernel
theorem dX10_isPerson_10 : decode cX10_isPerson 10 = .ok (.invokestatic 57, 3) := by decide +kernel
theorem dX10_isPerson_13 : decode cX10_isPerson 13 = .ok (.ireturn, 1) := by decide +kernel
theorem dX10_all_0 : decode cX10_all 0 = .ok (.iconst 1, 1) := by decide +kernel
theorem dX10_all_1 : decode cX10_all 1 = .ok (.aload_n 0, 1) := by decide +kernel
theorem dX10_all_2 : decode cX10_all 2 = .ok (.getfield 13, 3) := by decide +kernel
theorem dX10_all_5 : decode cX10_all 5 = .ok (.ishl, 1) := by decide +kernel
theorem dX10_all_6 : decode cX10_all 6 = .ok (.iconst 1, 1) := by decide +kernel
theorem dX10_all_7 : decode cX10_all 7 = .ok (.isub, 1) := by decide +kernel
theorem dX10_all_8 : decode cX10_all 8 = .ok (.ireturn, 1) := by decide +kernel
theorem dX10_write_0 : decode cX10_write 0 = .ok (.iload_n 1, 1) := by decide +kernel
theorem dX10_write_1 : decode cX10_write 1 = .ok (.i2l, 1) := by decide +kernel
theorem dX10_write_2 : decode cX10_write 2 = .ok (.lconst 1, 1) := by decide +kernel
theorem dX10_write_3 : decode cX10_write 3 = .ok (.ldc2_w 61, 3) := by decide +kernel
theorem dX10_write_6 : decode cX10_write 6 = .ok (.invokestatic 57, 3) := by decide +kernel
theorem dX10_write_9 : decode cX10_write 9 = .ok (.ifCond .ne 5, 3) := by decide +kernel
theorem dX10_write_12 : decode cX10_write 12 = .ok (.iconst (-1), 1) := by decide +kernel
theorem dX10_write_13 : decode cX10_write 13 = .ok (.ireturn, 1) := by decide +kernel
theorem dX10_write_14 : decode cX10_write 14 = .ok (.aload_n 0, 1) := by decide +kernel
theorem dX10_write_15 : decode cX10_write 15 = .ok (.getfield 63, 3) := by decide +kernel
theorem dX10_write_18 : decode cX10_write 18 = .ok (.iload_n 1, 1) := by decide +kernel
theorem dX10_write_19 : decode cX10_write 19 = .ok (.iadd, 1) := by decide +kernel
theorem dX10_write_20 : decode cX10_write 20 = .ok (.sipush 300, 3) := by decide +kernel
theorem dX10_write_23 : decode cX10_write 23 = .ok (.if_icmp .le 6, 3) := by decide +kernel
theorem dX10_write_26 : decode cX10_write 26 = .ok (.bipush (-3), 2) := by decide +kernel
theorem dX10_write_28 : decode cX10_write 28 = .ok (.ireturn, 1) := by decide +kernel
theorem dX10_write_29 : decode cX10_write 29 = .ok (.iload_n 1, 1) := by decide +kernel
theorem dX10_write_30 : decode cX10_write 30 = .ok (.iconst 1, 1) := by decide +kernel
theorem dX10_write_31 : decode cX10_write 31 = .ok (.isub, 1) := by decide +kernel
theorem dX10_write_32 : decode cX10_write 32 = .ok (.istore 4, 2) := by decide +kernel
theorem dX10_write_34 : decode cX10_write 34 = .ok (.iload 4, 2) := by decide +kernel
theorem dX10_write_36 : decode cX10_write 36 = .ok (.ifCond .lt 40, 3) := by decide +kernel
theorem dX10_write_39 : decode cX10_write 39 = .ok (.aload_n 0, 1) := by decide +kernel
theorem dX10_write_40 : decode cX10_write 40 = .ok (.getfield 7, 3) := by decide +kernel
theorem dX10_write_43 : decode cX10_write 43 = .ok (.aload_n 0, 1) := by decide +kernel
theorem dX10_write_44 : decode cX10_write 44 = .ok (.getfield 63, 3) := by decide +kernel
theorem dX10_write_47 : decode cX10_write 47 = .ok (.lload_n 2, 1) := by decide +kernel
theorem dX10_write_48 : decode cX10_write 48 = .ok (.bipush 8, 2) := by decide +kernel
theorem dX10_write_50 : decode cX10_write 50 = .ok (.iload 4, 2) := by decide +kernel
theorem dX10_write_52 : decode cX10_write 52 = .ok (.imul, 1) := by decide +kernel
theorem dX10_write_53 : decode cX10_write 53 = .ok (.lshr, 1) := by decide +kernel
theorem dX10_write_54 : decode cX10_write 54 = .ok (.ldc2_w 66, 3) := by decide +kernel
theorem dX10_write_57 : decode cX10_write 57 = .ok (.land, 1) := by decide +kernel
theorem dX10_write_58 : decode cX10_write 58 = .ok (.l2i, 1) := by decide +kernel
theorem dX10_write_59 : decode cX10_write 59 = .ok (.iastore, 1) := by decide +kernel
theorem dX10_write_60 : decode cX10_write 60 = .ok (.aload_n 0, 1) := by decide +kernel
theorem dX10_write_61 : decode cX10_write 61 = .ok (.dup, 1) := by decide +kernel
theorem dX10_write_62 : decode cX10_write 62 = .ok (.getfield 63, 3) := by decide +kernel
theorem dX10_write_65 : decode cX10_write 65 = .ok (.iconst 1, 1) := by decide +kernel
theorem dX10_write_66 : decode cX10_write 66 = .ok (.iadd, 1) := by decide +kernel
theorem dX10_write_67 : decode cX10_write 67 = .ok (.putfield 63, 3) := by decide +kernel
theorem dX10_write_70 : decode cX10_write 70 = .ok (.iinc 4 (-1), 3) := by decide +kernel
theorem dX10_write_73 : decode cX10_write 73 = .ok (.goto (-39), 3) := by decide +kernel
theorem dX10_write_76 : decode cX10_write 76 = .ok (.aload_n 0, 1) := by decide +kernel
theorem dX10_write_77 : decode cX10_write 77 = .ok (.getfield 63, 3) := by decide +kernel
theorem dX10_write_80 : decode cX10_write 80 = .ok (.ireturn, 1) := by decide +kernel
theorem dX10_wipe_0 : decode cX10_wipe 0 = .ok (.aload_n 0, 1) := by decide +kernel
theorem dX10_wipe_1 : decode cX10_wipe 1 = .ok (.getfield 63, 3) := by decide +kernel
theorem dX10_wipe_4 : decode cX10_wipe 4 = .ok (.istore_n 1, 1) := by decide +kernel
theorem dX10_wipe_5 : decode cX10_wipe 5 = .ok (.aload_n 0, 1) := by decide +kernel
theorem dX10_wipe_6 : decode cX10_wipe 6 = .ok (.iconst 0, 1) := by decide +kernel
theorem dX10_wipe_7 : decode cX10_wipe 7 = .ok (.putfield 63, 3) := by decide +kernel
theorem dX10_wipe_10 : decode cX10_wipe 10 = .ok (.iload_n 1, 1) := by decide +kernel
theorem dX10_wipe_11 : decode cX10_wipe 11 = .ok (.ireturn, 1) := by decide +kernel
theorem dX10_isFigure_0 : decode cX10_isFigure 0 = .ok (.iload_n 1, 1) := by decide +kernel
theorem dX10_isFigure_1 : decode cX10_isFigure 1 = .ok (.aload_n 0, 1) := by decide +kernel
theorem dX10_isFigure_2 : decode cX10_isFigure 2 = .ok (.getfield 63, 3) := by decide +kernel
theorem dX10_isFigure_5 : decode cX10_isFigure 5 = .ok (.if_icmp .ge 26, 3) := by decide +kernel
theorem dX10_isFigure_8 : decode cX10_isFigure 8 = .ok (.aload_n 0, 1) := by decide +kernel
theorem dX10_isFigure_9 : decode cX10_isFigure 9 = .ok (.getfield 7, 3) := by decide +kernel
theorem dX10_isFigure_12 : decode cX10_isFigure 12 = .ok (.iload_n 1, 1) := by decide +kernel
theorem dX10_isFigure_13 : decode cX10_isFigure 13 = .ok (.iaload, 1) := by decide +kernel
theorem dX10_isFigure_14 : decode cX10_isFigure 14 = .ok (.i2l, 1) := by decide +kernel
theorem dX10_isFigure_15 : decode cX10_isFigure 15 = .ok (.ldc2_w 68, 3) := by decide +kernel
theorem dX10_isFigure_18 : decode cX10_isFigure 18 = .ok (.ldc2_w 70, 3) := by decide +kernel
theorem dX10_isFigure_21 : decode cX10_isFigure 21 = .ok (.invokestatic 57, 3) := by decide +kernel
theorem dX10_isFigure_24 : decode cX10_isFigure 24 = .ok (.ifCond .eq 7, 3) := by decide +kernel
theorem dX10_isFigure_27 : decode cX10_isFigure 27 = .ok (.iconst 1, 1) := by decide +kernel
theorem dX10_isFigure_28 : decode cX10_isFigure 28 = .ok (.goto 4, 3) := by decide +kernel
theorem dX10_isFigure_31 : decode cX10_isFigure 31 = .ok (.iconst 0, 1) := by decide +kernel
theorem dX10_isFigure_32 : decode cX10_isFigure 32 = .ok (.ireturn, 1) := by decide +kernel
theorem dX10_number_0 : decode cX10_number 0 = .ok (.iconst 0, 1) := by decide +kernel
theorem dX10_number_1 : decode cX10_number 1 = .ok (.istore_n 3, 1) := by decide +kernel
theorem dX10_number_2 : decode cX10_number 2 = .ok (.iconst 0, 1) := by decide +kernel
theorem dX10_number_3 : decode cX10_number 3 = .ok (.istore 4, 2) := by decide +kernel
theorem dX10_number_5 : decode cX10_number 5 = .ok (.iload 4, 2) := by decide +kernel
theorem dX10_number_7 : decode cX10_number 7 = .ok (.iconst 2, 1) := by decide +kernel
theorem dX10_number_8 : decode cX10_number 8 = .ok (.if_icmp .ge 48, 3) := by decide +kernel
theorem dX10_number_11 : decode cX10_number 11 = .ok (.aload_n 0, 1) := by decide +kernel
theorem dX10_number_12 : decode cX10_number 12 = .ok (.aload_n 0, 1) := by decide +kernel
theorem dX10_number_13 : decode cX10_number 13 = .ok (.getfield 72, 3) := by decide +kernel
theorem dX10_number_16 : decode cX10_number 16 = .ok (.invokevirtual 75, 3) := by decide +kernel
theorem dX10_number_19 : decode cX10_number 19 = .ok (.ifCond .eq 37, 3) := by decide +kernel
theorem dX10_number_22 : decode cX10_number 22 = .ok (.bipush 10, 2) := by decide +kernel
theorem dX10_number_24 : decode cX10_number 24 = .ok (.iload_n 3, 1) := by decide +kernel
theorem dX10_number_25 : decode cX10_number 25 = .ok (.imul, 1) := by decide +kernel
theorem dX10_number_26 : decode cX10_number 26 = .ok (.aload_n 0, 1) := by decide +kernel
theorem dX10_number_27 : decode cX10_number 27 = .ok (.getfield 7, 3) := by decide +kernel
theorem dX10_number_30 : decode cX10_number 30 = .ok (.aload_n 0, 1) := by decide +kernel
theorem dX10_number_31 : decode cX10_number 31 = .ok (.getfield 72, 3) := by decide +kernel
theorem dX10_number_34 : decode cX10_number 34 = .ok (.iaload, 1) := by decide +kernel
theorem dX10_number_35 : decode cX10_number 35 = .ok (.iadd, 1) := by decide +kernel
theorem dX10_number_36 : decode cX10_number 36 = .ok (.bipush 48, 2) := by decide +kernel
theorem dX10_number_38 : decode cX10_number 38 = .ok (.isub, 1) := by decide +kernel
theorem dX10_number_39 : decode cX10_number 39 = .ok (.istore_n 3, 1) := by decide +kernel
theorem dX10_number_40 : decode cX10_number 40 = .ok (.iinc 4 1, 3) := by decide +kernel
theorem dX10_number_43 : decode cX10_number 43 = .ok (.aload_n 0, 1) := by decide +kernel
theorem dX10_number_44 : decode cX10_number 44 = .ok (.dup, 1) := by decide +kernel
theorem dX10_number_45 : decode cX10_number 45 = .ok (.getfield 72, 3) := by decide +kernel
theorem dX10_number_48 : decode cX10_number 48 = .ok (.iconst 1, 1) := by decide +kernel
theorem dX10_number_49 : decode cX10_number 49 = .ok (.iadd, 1) := by decide +kernel
theorem dX10_number_50 : decode cX10_number 50 = .ok (.putfield 72, 3) := by decide +kernel
theorem dX10_number_53 : decode cX10_number 53 = .ok (.goto (-48), 3) := by decide +kernel
theorem dX10_number_56 : decode cX10_number 56 = .ok (.iload 4, 2) := by decide +kernel
theorem dX10_number_58 : decode cX10_number 58 = .ok (.ifCond .eq 32, 3) := by decide +kernel
theorem dX10_number_61 : decode cX10_number 61 = .ok (.iload_n 3, 1) := by decide +kernel
theorem dX10_number_62 : decode cX10_number 62 = .ok (.iload_n 1, 1) := by decide +kernel
theorem dX10_number_63 : decode cX10_number 63 = .ok (.if_icmp .gt 27, 3) := by decide +kernel
theorem dX10_number_66 : decode cX10_number 66 = .ok (.aload_n 0, 1) := by decide +kernel
theorem dX10_number_67 : decode cX10_number 67 = .ok (.getfield 72, 3) := by decide +kernel
theorem dX10_number_70 : decode cX10_number 70 = .ok (.aload_n 0, 1) := by decide +kernel
theorem dX10_number_71 : decode cX10_number 71 = .ok (.getfield 63, 3) := by decide +kernel
theorem dX10_number_74 : decode cX10_number 74 = .ok (.if_icmp .ge 16, 3) := by decide +kernel
theorem dX10_number_77 : decode cX10_number 77 = .ok (.aload_n 0, 1) := by decide +kernel
theorem dX10_number_78 : decode cX10_number 78 = .ok (.getfield 7, 3) := by decide +kernel
theorem dX10_number_81 : decode cX10_number 81 = .ok (.aload_n 0, 1) := by decide +kernel
theorem dX10_number_82 : decode cX10_number 82 = .ok (.getfield 72, 3) := by decide +kernel
theorem dX10_number_85 : decode cX10_number 85 = .ok (.iaload, 1) := by decide +kernel
theorem dX10_number_86 : decode cX10_number 86 = .ok (.iload_n 2, 1) := by decide +kernel
theorem dX10_number_87 : decode cX10_number 87 = .ok (.if_icmp .eq 6, 3) := by decide +kernel
theorem dX10_number_90 : decode cX10_number 90 = .ok (.bipush (-4), 2) := by decide +kernel
theorem dX10_number_92 : decode cX10_number 92 = .ok (.ireturn, 1) := by decide +kernel
theorem dX10_number_93 : decode cX10_number 93 = .ok (.aload_n 0, 1) := by decide +kernel
theorem dX10_number_94 : decode cX10_number 94 = .ok (.dup, 1) := by decide +kernel
theorem dX10_number_95 : decode cX10_number 95 = .ok (.getfield 72, 3) := by decide +kernel
theorem dX10_number_98 : decode cX10_number 98 = .ok (.iconst 1, 1) := by decide +kernel
theorem dX10_number_99 : decode cX10_number 99 = .ok (.iadd, 1) := by decide +kernel
theorem dX10_number_100 : decode cX10_number 100 = .ok (.putfield 72, 3) := by decide +kernel
theorem dX10_number_103 : decode cX10_number 103 = .ok (.iload_n 3, 1) := by decide +kernel
theorem dX10_number_104 : decode cX10_number 104 = .ok (.ireturn, 1) := by decide +kernel
theorem dX10_mostOf_0 : decode cX10_mostOf 0 = .ok (.iload_n 0, 1) := by decide +kernel
theorem dX10_mostOf_1 : decode cX10_mostOf 1 = .ok (.ifCond .ne 7, 3) := by decide +kernel
theorem dX10_mostOf_4 : decode cX10_mostOf 4 = .ok (.iconst 3, 1) := by decide +kernel
theorem dX10_mostOf_5 : decode cX10_mostOf 5 = .ok (.goto 25, 3) := by decide +kernel
theorem dX10_mostOf_8 : decode cX10_mostOf 8 = .ok (.iload_n 0, 1) := by decide +kernel
theorem dX10_mostOf_9 : decode cX10_mostOf 9 = .ok (.iconst 2, 1) := by decide +kernel
theorem dX10_mostOf_10 : decode cX10_mostOf 10 = .ok (.if_icmp .ne 8, 3) := by decide +kernel
theorem dX10_mostOf_13 : decode cX10_mostOf 13 = .ok (.bipush 18, 2) := by decide +kernel
theorem dX10_mostOf_15 : decode cX10_mostOf 15 = .ok (.goto 15, 3) := by decide +kernel
theorem dX10_mostOf_18 : decode cX10_mostOf 18 = .ok (.iload_n 0, 1) := by decide +kernel
theorem dX10_mostOf_19 : decode cX10_mostOf 19 = .ok (.iconst 3, 1) := by decide +kernel
theorem dX10_mostOf_20 : decode cX10_mostOf 20 = .ok (.if_icmp .ne 8, 3) := by decide +kernel
theorem dX10_mostOf_23 : decode cX10_mostOf 23 = .ok (.bipush 7, 2) := by decide +kernel
theorem dX10_mostOf_25 : decode cX10_mostOf 25 = .ok (.goto 5, 3) := by decide +kernel
theorem dX10_mostOf_28 : decode cX10_mostOf 28 = .ok (.bipush 99, 2) := by decide +kernel
theorem dX10_mostOf_30 : decode cX10_mostOf 30 = .ok (.ireturn, 1) := by decide +kernel
theorem dX10_takesPerson_0 : decode cX10_takesPerson 0 = .ok (.aload_n 0, 1) := by decide +kernel
theorem dX10_takesPerson_1 : decode cX10_takesPerson 1 = .ok (.getfield 79, 3) := by decide +kernel
theorem dX10_takesPerson_4 : decode cX10_takesPerson 4 = .ok (.bipush 7, 2) := by decide +kernel
theorem dX10_takesPerson_6 : decode cX10_takesPerson 6 = .ok (.if_icmp .ne 5, 3) := by decide +kernel
theorem dX10_takesPerson_9 : decode cX10_takesPerson 9 = .ok (.iconst 0, 1) := by decide +kernel
theorem dX10_takesPerson_10 : decode cX10_takesPerson 10 = .ok (.ireturn, 1) := by decide +kernel
theorem dX10_takesPerson_11 : decode cX10_takesPerson 11 = .ok (.iconst 0, 1) := by decide +kernel
theorem dX10_takesPerson_12 : decode cX10_takesPerson 12 = .ok (.istore_n 1, 1) := by decide +kernel
theorem dX10_takesPerson_13 : decode cX10_takesPerson 13 = .ok (.iload_n 1, 1) := by decide +kernel
theorem dX10_takesPerson_14 : decode cX10_takesPerson 14 = .ok (.iconst 5, 1) := by decide +kernel
theorem dX10_takesPerson_15 : decode cX10_takesPerson 15 = .ok (.if_icmp .ge 52, 3) := by decide +kernel
theorem dX10_takesPerson_18 : decode cX10_takesPerson 18 = .ok (.aload_n 0, 1) := by decide +kernel
theorem dX10_takesPerson_19 : decode cX10_takesPerson 19 = .ok (.iload_n 1, 1) := by decide +kernel
theorem dX10_takesPerson_20 : decode cX10_takesPerson 20 = .ok (.invokestatic 82, 3) := by decide +kernel
theorem dX10_takesPerson_23 : decode cX10_takesPerson 23 = .ok (.iload_n 1, 1) := by decide +kernel
theorem dX10_takesPerson_24 : decode cX10_takesPerson 24 = .ok (.iconst 4, 1) := by decide +kernel
theorem dX10_takesPerson_25 : decode cX10_takesPerson 25 = .ok (.if_icmp .ge 8, 3) := by decide +kernel
theorem dX10_takesPerson_28 : decode cX10_takesPerson 28 = .ok (.bipush 44, 2) := by decide +kernel
theorem dX10_takesPerson_30 : decode cX10_takesPerson 30 = .ok (.goto 5, 3) := by decide +kernel
theorem dX10_takesPerson_33 : decode cX10_takesPerson 33 = .ok (.bipush 59, 2) := by decide +kernel
theorem dX10_takesPerson_35 : decode cX10_takesPerson 35 = .ok (.invokevirtual 86, 3) := by decide +kernel
theorem dX10_takesPerson_38 : decode cX10_takesPerson 38 = .ok (.istore_n 2, 1) := by decide +kernel
theorem dX10_takesPerson_39 : decode cX10_takesPerson 39 = .ok (.iload_n 2, 1) := by decide +kernel
theorem dX10_takesPerson_40 : decode cX10_takesPerson 40 = .ok (.bipush (-4), 2) := by decide +kernel
theorem dX10_takesPerson_42 : decode cX10_takesPerson 42 = .ok (.if_icmp .ne 5, 3) := by decide +kernel
theorem dX10_takesPerson_45 : decode cX10_takesPerson 45 = .ok (.iconst 0, 1) := by decide +kernel
theorem dX10_takesPerson_46 : decode cX10_takesPerson 46 = .ok (.ireturn, 1) := by decide +kernel
theorem dX10_takesPerson_47 : decode cX10_takesPerson 47 = .ok (.aload_n 0, 1) := by decide +kernel
theorem dX10_takesPerson_48 : decode cX10_takesPerson 48 = .ok (.getfield 51, 3) := by decide +kernel
theorem dX10_takesPerson_51 : decode cX10_takesPerson 51 = .ok (.iconst 5, 1) := by decide +kernel
theorem dX10_takesPerson_52 : decode cX10_takesPerson 52 = .ok (.aload_n 0, 1) := by decide +kernel
theorem dX10_takesPerson_53 : decode cX10_takesPerson 53 = .ok (.getfield 79, 3) := by decide +kernel
theorem dX10_takesPerson_56 : decode cX10_takesPerson 56 = .ok (.imul, 1) := by decide +kernel
theorem dX10_takesPerson_57 : decode cX10_takesPerson 57 = .ok (.iload_n 1, 1) := by decide +kernel
theorem dX10_takesPerson_58 : decode cX10_takesPerson 58 = .ok (.iadd, 1) := by decide +kernel
theorem dX10_takesPerson_59 : decode cX10_takesPerson 59 = .ok (.iload_n 2, 1) := by decide +kernel
theorem dX10_takesPerson_60 : decode cX10_takesPerson 60 = .ok (.iastore, 1) := by decide +kernel
theorem dX10_takesPerson_61 : decode cX10_takesPerson 61 = .ok (.iinc 1 1, 3) := by decide +kernel
theorem dX10_takesPerson_64 : decode cX10_takesPerson 64 = .ok (.goto (-51), 3) := by decide +kernel
theorem dX10_takesPerson_67 : decode cX10_takesPerson 67 = .ok (.aload_n 0, 1) := by decide +kernel
theorem dX10_takesPerson_68 : decode cX10_takesPerson 68 = .ok (.dup, 1) := by decide +kernel
theorem dX10_takesPerson_69 : decode cX10_takesPerson 69 = .ok (.getfield 79, 3) := by decide +kernel
theorem dX10_takesPerson_72 : decode cX10_takesPerson 72 = .ok (.iconst 1, 1) := by decide +kernel
theorem dX10_takesPerson_73 : decode cX10_takesPerson 73 = .ok (.iadd, 1) := by decide +kernel
theorem dX10_takesPerson_74 : decode cX10_takesPerson 74 = .ok (.putfield 79, 3) := by decide +kernel
theorem dX10_takesPerson_77 : decode cX10_takesPerson 77 = .ok (.iconst 1, 1) := by decide +kernel
theorem dX10_takesPerson_78 : decode cX10_takesPerson 78 = .ok (.ireturn, 1) := by decide +kernel
theorem dX10_takesItem_0 : decode cX10_takesItem 0 = .ok (.aload_n 0, 1) := by decide +kernel
theorem dX10_takesItem_1 : decode cX10_takesItem 1 = .ok (.getfield 7, 3) := by decide +kernel
theorem dX10_takesItem_4 : decode cX10_takesItem 4 = .ok (.aload_n 0, 1) := by decide +kernel
theorem dX10_takesItem_5 : decode cX10_takesItem 5 = .ok (.getfield 72, 3) := by decide +kernel
theorem dX10_takesItem_8 : decode cX10_takesItem 8 = .ok (.iaload, 1) := by decide +kernel
theorem dX10_takesItem_9 : decode cX10_takesItem 9 = .ok (.istore_n 1, 1) := by decide +kernel
theorem dX10_takesItem_10 : decode cX10_takesItem 10 = .ok (.aload_n 0, 1) := by decide +kernel
theorem dX10_takesItem_11 : decode cX10_takesItem 11 = .ok (.dup, 1) := by decide +kernel
theorem dX10_takesItem_12 : decode cX10_takesItem 12 = .ok (.getfield 72, 3) := by decide +kernel
theorem dX10_takesItem_15 : decode cX10_takesItem 15 = .ok (.iconst 1, 1) := by decide +kernel
theorem dX10_takesItem_16 : decode cX10_takesItem 16 = .ok (.iadd, 1) := by decide +kernel
theorem dX10_takesItem_17 : decode cX10_takesItem 17 = .ok (.putfield 72, 3) := by decide +kernel
theorem dX10_takesItem_20 : decode cX10_takesItem 20 = .ok (.iload_n 1, 1) := by decide +kernel
theorem dX10_takesItem_21 : decode cX10_takesItem 21 = .ok (.bipush 112, 2) := by decide +kernel
theorem dX10_takesItem_23 : decode cX10_takesItem 23 = .ok (.if_icmp .ne 8, 3) := by decide +kernel
theorem dX10_takesItem_26 : decode cX10_takesItem 26 = .ok (.aload_n 0, 1) := by decide +kernel
theorem dX10_takesItem_27 : decode cX10_takesItem 27 = .ok (.invokevirtual 90, 3) := by decide +kernel
theorem dX10_takesItem_30 : decode cX10_takesItem 30 = .ok (.ireturn, 1) := by decide +kernel
theorem dX10_takesItem_31 : decode cX10_takesItem 31 = .ok (.iload_n 1, 1) := by decide +kernel
theorem dX10_takesItem_32 : decode cX10_takesItem 32 = .ok (.bipush 111, 2) := by decide +kernel
theorem dX10_takesItem_34 : decode cX10_takesItem 34 = .ok (.if_icmp .eq 11, 3) := by decide +kernel
theorem dX10_takesItem_37 : decode cX10_takesItem 37 = .ok (.iload_n 1, 1) := by decide +kernel
theorem dX10_takesItem_38 : decode cX10_takesItem 38 = .ok (.bipush 115, 2) := by decide +kernel
theorem dX10_takesItem_40 : decode cX10_takesItem 40 = .ok (.if_icmp .eq 5, 3) := by decide +kernel
theorem dX10_takesItem_43 : decode cX10_takesItem 43 = .ok (.iconst 0, 1) := by decide +kernel
theorem dX10_takesItem_44 : decode cX10_takesItem 44 = .ok (.ireturn, 1) := by decide +kernel
theorem dX10_takesItem_45 : decode cX10_takesItem 45 = .ok (.aload_n 0, 1) := by decide +kernel
theorem dX10_takesItem_46 : decode cX10_takesItem 46 = .ok (.iload_n 1, 1) := by decide +kernel
theorem dX10_takesItem_47 : decode cX10_takesItem 47 = .ok (.bipush 111, 2) := by decide +kernel
theorem dX10_takesItem_49 : decode cX10_takesItem 49 = .ok (.if_icmp .ne 12, 3) := by decide +kernel
theorem dX10_takesItem_52 : decode cX10_takesItem 52 = .ok (.aload_n 0, 1) := by decide +kernel
theorem dX10_takesItem_53 : decode cX10_takesItem 53 = .ok (.getfield 79, 3) := by decide +kernel
theorem dX10_takesItem_56 : decode cX10_takesItem 56 = .ok (.iconst 1, 1) := by decide +kernel
theorem dX10_takesItem_57 : decode cX10_takesItem 57 = .ok (.isub, 1) := by decide +kernel
theorem dX10_takesItem_58 : decode cX10_takesItem 58 = .ok (.goto 5, 3) := by decide +kernel
theorem dX10_takesItem_61 : decode cX10_takesItem 61 = .ok (.bipush 99, 2) := by decide +kernel
theorem dX10_takesItem_63 : decode cX10_takesItem 63 = .ok (.bipush 59, 2) := by decide +kernel
theorem dX10_takesItem_65 : decode cX10_takesItem 65 = .ok (.invokevirtual 86, 3) := by decide +kernel
theorem dX10_takesItem_68 : decode cX10_takesItem 68 = .ok (.istore_n 2, 1) := by decide +kernel
theorem dX10_takesItem_69 : decode cX10_takesItem 69 = .ok (.iload_n 2, 1) := by decide +kernel
theorem dX10_takesItem_70 : decode cX10_takesItem 70 = .ok (.bipush (-4), 2) := by decide +kernel
theorem dX10_takesItem_72 : decode cX10_takesItem 72 = .ok (.if_icmp .ne 5, 3) := by decide +kernel
theorem dX10_takesItem_75 : decode cX10_takesItem 75 = .ok (.iconst 0, 1) := by decide +kernel
theorem dX10_takesItem_76 : decode cX10_takesItem 76 = .ok (.ireturn, 1) := by decide +kernel
theorem dX10_takesItem_77 : decode cX10_takesItem 77 = .ok (.iload_n 1, 1) := by decide +kernel
theorem dX10_takesItem_78 : decode cX10_takesItem 78 = .ok (.bipush 111, 2) := by decide +kernel
theorem dX10_takesItem_80 : decode cX10_takesItem 80 = .ok (.if_icmp .ne 18, 3) := by decide +kernel
theorem dX10_takesItem_83 : decode cX10_takesItem 83 = .ok (.aload_n 0, 1) := by decide +kernel
theorem dX10_takesItem_84 : decode cX10_takesItem 84 = .ok (.dup, 1) := by decide +kernel
theorem dX10_takesItem_85 : decode cX10_takesItem 85 = .ok (.getfield 94, 3) := by decide +kernel
theorem dX10_takesItem_88 : decode cX10_takesItem 88 = .ok (.iconst 1, 1) := by decide +kernel
theorem dX10_takesItem_89 : decode cX10_takesItem 89 = .ok (.iload_n 2, 1) := by decide +kernel
theorem dX10_takesItem_90 : decode cX10_takesItem 90 = .ok (.ishl, 1) := by decide +kernel
theorem dX10_takesItem_91 : decode cX10_takesItem 91 = .ok (.ior, 1) := by decide +kernel
theorem dX10_takesItem_92 : decode cX10_takesItem 92 = .ok (.putfield 94, 3) := by decide +kernel
theorem dX10_takesItem_95 : decode cX10_takesItem 95 = .ok (.goto 8, 3) := by decide +kernel
theorem dX10_takesItem_98 : decode cX10_takesItem 98 = .ok (.aload_n 0, 1) := by decide +kernel
theorem dX10_takesItem_99 : decode cX10_takesItem 99 = .ok (.iload_n 2, 1) := by decide +kernel
theorem dX10_takesItem_100 : decode cX10_takesItem 100 = .ok (.putfield 97, 3) := by decide +kernel
theorem dX10_takesItem_103 : decode cX10_takesItem 103 = .ok (.iconst 1, 1) := by decide +kernel
theorem dX10_takesItem_104 : decode cX10_takesItem 104 = .ok (.ireturn, 1) := by decide +kernel
theorem dX10_fault_0 : decode cX10_fault 0 = .ok (.aload_n 0, 1) := by decide +kernel
theorem dX10_fault_1 : decode cX10_fault 1 = .ok (.iconst 0, 1) := by decide +kernel
theorem dX10_fault_2 : decode cX10_fault 2 = .ok (.putfield 72, 3) := by decide +kernel
theorem dX10_fault_5 : decode cX10_fault 5 = .ok (.aload_n 0, 1) := by decide +kernel
theorem dX10_fault_6 : decode cX10_fault 6 = .ok (.iconst 0, 1) := by decide +kernel
theorem dX10_fault_7 : decode cX10_fault 7 = .ok (.putfield 79, 3) := by decide +kernel
theorem dX10_fault_10 : decode cX10_fault 10 = .ok (.aload_n 0, 1) := by decide +kernel
theorem dX10_fault_11 : decode cX10_fault 11 = .ok (.iconst 0, 1) := by decide +kernel
theorem dX10_fault_12 : decode cX10_fault 12 = .ok (.putfield 94, 3) := by decide +kernel
theorem dX10_fault_15 : decode cX10_fault 15 = .ok (.aload_n 0, 1) := by decide +kernel
theorem dX10_fault_16 : decode cX10_fault 16 = .ok (.bipush 50, 2) := by decide +kernel
theorem dX10_fault_18 : decode cX10_fault 18 = .ok (.putfield 97, 3) := by decide +kernel
theorem dX10_fault_21 : decode cX10_fault 21 = .ok (.aload_n 0, 1) := by decide +kernel
theorem dX10_fault_22 : decode cX10_fault 22 = .ok (.getfield 72, 3) := by decide +kernel
theorem dX10_fault_25 : decode cX10_fault 25 = .ok (.aload_n 0, 1) := by decide +kernel
theorem dX10_fault_26 : decode cX10_fault 26 = .ok (.getfield 63, 3) := by decide +kernel
theorem dX10_fault_29 : decode cX10_fault 29 = .ok (.if_icmp .ge 20, 3) := by decide +kernel
theorem dX10_fault_32 : decode cX10_fault 32 = .ok (.aload_n 0, 1) := by decide +kernel
theorem dX10_fault_33 : decode cX10_fault 33 = .ok (.getfield 72, 3) := by decide +kernel
theorem dX10_fault_36 : decode cX10_fault 36 = .ok (.istore_n 1, 1) := by decide +kernel
theorem dX10_fault_37 : decode cX10_fault 37 = .ok (.aload_n 0, 1) := by decide +kernel
theorem dX10_fault_38 : decode cX10_fault 38 = .ok (.invokevirtual 100, 3) := by decide +kernel
theorem dX10_fault_41 : decode cX10_fault 41 = .ok (.ifCond .ne 5, 3) := by decide +kernel
theorem dX10_fault_44 : decode cX10_fault 44 = .ok (.iload_n 1, 1) := by decide +kernel
theorem dX10_fault_45 : decode cX10_fault 45 = .ok (.ireturn, 1) := by decide +kernel
theorem dX10_fault_46 : decode cX10_fault 46 = .ok (.goto (-25), 3) := by decide +kernel
theorem dX10_fault_49 : decode cX10_fault 49 = .ok (.bipush (-4), 2) := by decide +kernel
theorem dX10_fault_51 : decode cX10_fault 51 = .ok (.ireturn, 1) := by decide +kernel
theorem dX10_lay_0 : decode cX10_lay 0 = .ok (.aload_n 0, 1) := by decide +kernel
theorem dX10_lay_1 : decode cX10_lay 1 = .ok (.invokevirtual 103, 3) := by decide +kernel
theorem dX10_lay_4 : decode cX10_lay 4 = .ok (.bipush (-4), 2) := by decide +kernel
theorem dX10_lay_6 : decode cX10_lay 6 = .ok (.if_icmp .ne 10, 3) := by decide +kernel
theorem dX10_lay_9 : decode cX10_lay 9 = .ok (.aload_n 0, 1) := by decide +kernel
theorem dX10_lay_10 : decode cX10_lay 10 = .ok (.getfield 79, 3) := by decide +kernel
theorem dX10_lay_13 : decode cX10_lay 13 = .ok (.ifCond .ne 6, 3) := by decide +kernel
theorem dX10_lay_16 : decode cX10_lay 16 = .ok (.bipush (-2), 2) := by decide +kernel
theorem dX10_lay_18 : decode cX10_lay 18 = .ok (.ireturn, 1) := by decide +kernel
theorem dX10_lay_19 : decode cX10_lay 19 = .ok (.aload_n 0, 1) := by decide +kernel
theorem dX10_lay_20 : decode cX10_lay 20 = .ok (.aload_n 0, 1) := by decide +kernel
theorem dX10_lay_21 : decode cX10_lay 21 = .ok (.getfield 79, 3) := by decide +kernel
theorem dX10_lay_24 : decode cX10_lay 24 = .ok (.putfield 13, 3) := by decide +kernel
theorem dX10_lay_27 : decode cX10_lay 27 = .ok (.iconst 0, 1) := by decide +kernel
theorem dX10_lay_28 : decode cX10_lay 28 = .ok (.istore_n 1, 1) := by decide +kernel
theorem dX10_lay_29 : decode cX10_lay 29 = .ok (.iload_n 1, 1) := by decide +kernel
theorem dX10_lay_30 : decode cX10_lay 30 = .ok (.aload_n 0, 1) := by decide +kernel
theorem dX10_lay_31 : decode cX10_lay 31 = .ok (.getfield 13, 3) := by decide +kernel
theorem dX10_lay_34 : decode cX10_lay 34 = .ok (.if_icmp .ge 87, 3) := by decide +kernel
theorem dX10_lay_37 : decode cX10_lay 37 = .ok (.aload_n 0, 1) := by decide +kernel
theorem dX10_lay_38 : decode cX10_lay 38 = .ok (.getfield 17, 3) := by decide +kernel
theorem dX10_lay_41 : decode cX10_lay 41 = .ok (.iload_n 1, 1) := by decide +kernel
theorem dX10_lay_42 : decode cX10_lay 42 = .ok (.aload_n 0, 1) := by decide +kernel
theorem dX10_lay_43 : decode cX10_lay 43 = .ok (.getfield 51, 3) := by decide +kernel
theorem dX10_lay_46 : decode cX10_lay 46 = .ok (.iconst 5, 1) := by decide +kernel
theorem dX10_lay_47 : decode cX10_lay 47 = .ok (.iload_n 1, 1) := by decide +kernel
theorem dX10_lay_48 : decode cX10_lay 48 = .ok (.imul, 1) := by decide +kernel
theorem dX10_lay_49 : decode cX10_lay 49 = .ok (.iaload, 1) := by decide +kernel
theorem dX10_lay_50 : decode cX10_lay 50 = .ok (.iastore, 1) := by decide +kernel
theorem dX10_lay_51 : decode cX10_lay 51 = .ok (.aload_n 0, 1) := by decide +kernel
theorem dX10_lay_52 : decode cX10_lay 52 = .ok (.getfield 20, 3) := by decide +kernel
theorem dX10_lay_55 : decode cX10_lay 55 = .ok (.iload_n 1, 1) := by decide +kernel
theorem dX10_lay_56 : decode cX10_lay 56 = .ok (.aload_n 0, 1) := by decide +kernel
theorem dX10_lay_57 : decode cX10_lay 57 = .ok (.getfield 51, 3) := by decide +kernel
theorem dX10_lay_60 : decode cX10_lay 60 = .ok (.iconst 5, 1) := by decide +kernel
theorem dX10_lay_61 : decode cX10_lay 61 = .ok (.iload_n 1, 1) := by decide +kernel
theorem dX10_lay_62 : decode cX10_lay 62 = .ok (.imul, 1) := by decide +kernel
theorem dX10_lay_63 : decode cX10_lay 63 = .ok (.iconst 1, 1) := by decide +kernel
theorem dX10_lay_64 : decode cX10_lay 64 = .ok (.iadd, 1) := by decide +kernel
theorem dX10_lay_65 : decode cX10_lay 65 = .ok (.iaload, 1) := by decide +kernel
theorem dX10_lay_66 : decode cX10_lay 66 = .ok (.iastore, 1) := by decide +kernel
theorem dX10_lay_67 : decode cX10_lay 67 = .ok (.aload_n 0, 1) := by decide +kernel
theorem dX10_lay_68 : decode cX10_lay 68 = .ok (.getfield 23, 3) := by decide +kernel
theorem dX10_lay_71 : decode cX10_lay 71 = .ok (.iload_n 1, 1) := by decide +kernel
theorem dX10_lay_72 : decode cX10_lay 72 = .ok (.aload_n 0, 1) := by decide +kernel
theorem dX10_lay_73 : decode cX10_lay 73 = .ok (.getfield 51, 3) := by decide +kernel
theorem dX10_lay_76 : decode cX10_lay 76 = .ok (.iconst 5, 1) := by decide +kernel
theorem dX10_lay_77 : decode cX10_lay 77 = .ok (.iload_n 1, 1) := by decide +kernel
theorem dX10_lay_78 : decode cX10_lay 78 = .ok (.imul, 1) := by decide +kernel
theorem dX10_lay_79 : decode cX10_lay 79 = .ok (.iconst 2, 1) := by decide +kernel
theorem dX10_lay_80 : decode cX10_lay 80 = .ok (.iadd, 1) := by decide +kernel
theorem dX10_lay_81 : decode cX10_lay 81 = .ok (.iaload, 1) := by decide +kernel
theorem dX10_lay_82 : decode cX10_lay 82 = .ok (.iastore, 1) := by decide +kernel
theorem dX10_lay_83 : decode cX10_lay 83 = .ok (.aload_n 0, 1) := by decide +kernel
theorem dX10_lay_84 : decode cX10_lay 84 = .ok (.getfield 26, 3) := by decide +kernel
theorem dX10_lay_87 : decode cX10_lay 87 = .ok (.iload_n 1, 1) := by decide +kernel
theorem dX10_lay_88 : decode cX10_lay 88 = .ok (.aload_n 0, 1) := by decide +kernel
theorem dX10_lay_89 : decode cX10_lay 89 = .ok (.getfield 51, 3) := by decide +kernel
theorem dX10_lay_92 : decode cX10_lay 92 = .ok (.iconst 5, 1) := by decide +kernel
theorem dX10_lay_93 : decode cX10_lay 93 = .ok (.iload_n 1, 1) := by decide +kernel
theorem dX10_lay_94 : decode cX10_lay 94 = .ok (.imul, 1) := by decide +kernel
theorem dX10_lay_95 : decode cX10_lay 95 = .ok (.iconst 3, 1) := by decide +kernel
theorem dX10_lay_96 : decode cX10_lay 96 = .ok (.iadd, 1) := by decide +kernel
theorem dX10_lay_97 : decode cX10_lay 97 = .ok (.iaload, 1) := by decide +kernel
theorem dX10_lay_98 : decode cX10_lay 98 = .ok (.iastore, 1) := by decide +kernel
theorem dX10_lay_99 : decode cX10_lay 99 = .ok (.aload_n 0, 1) := by decide +kernel
theorem dX10_lay_100 : decode cX10_lay 100 = .ok (.getfield 29, 3) := by decide +kernel
theorem dX10_lay_103 : decode cX10_lay 103 = .ok (.iload_n 1, 1) := by decide +kernel
theorem dX10_lay_104 : decode cX10_lay 104 = .ok (.aload_n 0, 1) := by decide +kernel
theorem dX10_lay_105 : decode cX10_lay 105 = .ok (.getfield 51, 3) := by decide +kernel
theorem dX10_lay_108 : decode cX10_lay 108 = .ok (.iconst 5, 1) := by decide +kernel
theorem dX10_lay_109 : decode cX10_lay 109 = .ok (.iload_n 1, 1) := by decide +kernel
theorem dX10_lay_110 : decode cX10_lay 110 = .ok (.imul, 1) := by decide +kernel
theorem dX10_lay_111 : decode cX10_lay 111 = .ok (.iconst 4, 1) := by decide +kernel
theorem dX10_lay_112 : decode cX10_lay 112 = .ok (.iadd, 1) := by decide +kernel
theorem dX10_lay_113 : decode cX10_lay 113 = .ok (.iaload, 1) := by decide +kernel
theorem dX10_lay_114 : decode cX10_lay 114 = .ok (.iastore, 1) := by decide +kernel
theorem dX10_lay_115 : decode cX10_lay 115 = .ok (.iinc 1 1, 3) := by decide +kernel
theorem dX10_lay_118 : decode cX10_lay 118 = .ok (.goto (-89), 3) := by decide +kernel
theorem dX10_lay_121 : decode cX10_lay 121 = .ok (.aload_n 0, 1) := by decide +kernel
theorem dX10_lay_122 : decode cX10_lay 122 = .ok (.aload_n 0, 1) := by decide +kernel
theorem dX10_lay_123 : decode cX10_lay 123 = .ok (.getfield 94, 3) := by decide +kernel
theorem dX10_lay_126 : decode cX10_lay 126 = .ok (.putfield 107, 3) := by decide +kernel
theorem dX10_lay_129 : decode cX10_lay 129 = .ok (.aload_n 0, 1) := by decide +kernel
theorem dX10_lay_130 : decode cX10_lay 130 = .ok (.aload_n 0, 1) := by decide +kernel
theorem dX10_lay_131 : decode cX10_lay 131 = .ok (.getfield 97, 3) := by decide +kernel
theorem dX10_lay_134 : decode cX10_lay 134 = .ok (.putfield 32, 3) := by decide +kernel
theorem dX10_lay_137 : decode cX10_lay 137 = .ok (.aload_n 0, 1) := by decide +kernel
theorem dX10_lay_138 : decode cX10_lay 138 = .ok (.iconst 0, 1) := by decide +kernel
theorem dX10_lay_139 : decode cX10_lay 139 = .ok (.putfield 110, 3) := by decide +kernel
theorem dX10_lay_142 : decode cX10_lay 142 = .ok (.aload_n 0, 1) := by decide +kernel
theorem dX10_lay_143 : decode cX10_lay 143 = .ok (.iconst 0, 1) := by decide +kernel
theorem dX10_lay_144 : decode cX10_lay 144 = .ok (.putfield 113, 3) := by decide +kernel
theorem dX10_lay_147 : decode cX10_lay 147 = .ok (.aload_n 0, 1) := by decide +kernel
theorem dX10_lay_148 : decode cX10_lay 148 = .ok (.iconst 0, 1) := by decide +kernel
theorem dX10_lay_149 : decode cX10_lay 149 = .ok (.putfield 116, 3) := by decide +kernel
theorem dX10_lay_152 : decode cX10_lay 152 = .ok (.aload_n 0, 1) := by decide +kernel
theorem dX10_lay_153 : decode cX10_lay 153 = .ok (.getfield 13, 3) := by decide +kernel
theorem dX10_lay_156 : decode cX10_lay 156 = .ok (.ireturn, 1) := by decide +kernel
theorem dX10_person_0 : decode cX10_person 0 = .ok (.aload_n 0, 1) := by decide +kernel
theorem dX10_person_1 : decode cX10_person 1 = .ok (.iload_n 1, 1) := by decide +kernel
theorem dX10_person_2 : decode cX10_person 2 = .ok (.invokevirtual 119, 3) := by decide +kernel
theorem dX10_person_5 : decode cX10_person 5 = .ok (.ifCond .eq 15, 3) := by decide +kernel
theorem dX10_person_8 : decode cX10_person 8 = .ok (.iload_n 2, 1) := by decide +kernel
theorem dX10_person_9 : decode cX10_person 9 = .ok (.i2l, 1) := by decide +kernel
theorem dX10_person_10 : decode cX10_person 10 = .ok (.lconst 0, 1) := by decide +kernel
theorem dX10_person_11 : decode cX10_person 11 = .ok (.ldc2_w 122, 3) := by decide +kernel
theorem dX10_person_14 : decode cX10_person 14 = .ok (.invokestatic 57, 3) := by decide +kernel
theorem dX10_person_17 : decode cX10_person 17 = .ok (.ifCond .ne 5, 3) := by decide +kernel
theorem dX10_person_20 : decode cX10_person 20 = .ok (.iconst (-1), 1) := by decide +kernel
theorem dX10_person_21 : decode cX10_person 21 = .ok (.ireturn, 1) := by decide +kernel
theorem dX10_person_22 : decode cX10_person 22 = .ok (.iload_n 2, 1) := by decide +kernel
theorem dX10_person_23 : decode cX10_person 23 = .ok (.ifCond .ne 12, 3) := by decide +kernel
theorem dX10_person_26 : decode cX10_person 26 = .ok (.aload_n 0, 1) := by decide +kernel
theorem dX10_person_27 : decode cX10_person 27 = .ok (.getfield 17, 3) := by decide +kernel
theorem dX10_person_30 : decode cX10_person 30 = .ok (.iload_n 1, 1) := by decide +kernel
theorem dX10_person_31 : decode cX10_person 31 = .ok (.iaload, 1) := by decide +kernel
theorem dX10_person_32 : decode cX10_person 32 = .ok (.goto 79, 3) := by decide +kernel
theorem dX10_person_35 : decode cX10_person 35 = .ok (.iload_n 2, 1) := by decide +kernel
theorem dX10_person_36 : decode cX10_person 36 = .ok (.iconst 1, 1) := by decide +kernel
theorem dX10_person_37 : decode cX10_person 37 = .ok (.if_icmp .ne 12, 3) := by decide +kernel
theorem dX10_person_40 : decode cX10_person 40 = .ok (.aload_n 0, 1) := by decide +kernel
theorem dX10_person_41 : decode cX10_person 41 = .ok (.getfield 20, 3) := by decide +kernel
theorem dX10_person_44 : decode cX10_person 44 = .ok (.iload_n 1, 1) := by decide +kernel
theorem dX10_person_45 : decode cX10_person 45 = .ok (.iaload, 1) := by decide +kernel
theorem dX10_person_46 : decode cX10_person 46 = .ok (.goto 65, 3) := by decide +kernel
theorem dX10_person_49 : decode cX10_person 49 = .ok (.iload_n 2, 1) := by decide +kernel
theorem dX10_person_50 : decode cX10_person 50 = .ok (.iconst 2, 1) := by decide +kernel
theorem dX10_person_51 : decode cX10_person 51 = .ok (.if_icmp .ne 12, 3) := by decide +kernel
theorem dX10_person_54 : decode cX10_person 54 = .ok (.aload_n 0, 1) := by decide +kernel
theorem dX10_person_55 : decode cX10_person 55 = .ok (.getfield 23, 3) := by decide +kernel
theorem dX10_person_58 : decode cX10_person 58 = .ok (.iload_n 1, 1) := by decide +kernel
theorem dX10_person_59 : decode cX10_person 59 = .ok (.iaload, 1) := by decide +kernel
theorem dX10_person_60 : decode cX10_person 60 = .ok (.goto 51, 3) := by decide +kernel
theorem dX10_person_63 : decode cX10_person 63 = .ok (.iload_n 2, 1) := by decide +kernel
theorem dX10_person_64 : decode cX10_person 64 = .ok (.iconst 3, 1) := by decide +kernel
theorem dX10_person_65 : decode cX10_person 65 = .ok (.if_icmp .ne 12, 3) := by decide +kernel
theorem dX10_person_68 : decode cX10_person 68 = .ok (.aload_n 0, 1) := by decide +kernel
theorem dX10_person_69 : decode cX10_person 69 = .ok (.getfield 26, 3) := by decide +kernel
theorem dX10_person_72 : decode cX10_person 72 = .ok (.iload_n 1, 1) := by decide +kernel
theorem dX10_person_73 : decode cX10_person 73 = .ok (.iaload, 1) := by decide +kernel
theorem dX10_person_74 : decode cX10_person 74 = .ok (.goto 37, 3) := by decide +kernel
theorem dX10_person_77 : decode cX10_person 77 = .ok (.iload_n 2, 1) := by decide +kernel
theorem dX10_person_78 : decode cX10_person 78 = .ok (.iconst 4, 1) := by decide +kernel
theorem dX10_person_79 : decode cX10_person 79 = .ok (.if_icmp .ne 16, 3) := by decide +kernel
theorem dX10_person_82 : decode cX10_person 82 = .ok (.aload_n 0, 1) := by decide +kernel
theorem dX10_person_83 : decode cX10_person 83 = .ok (.getfield 29, 3) := by decide +kernel
theorem dX10_person_86 : decode cX10_person 86 = .ok (.iload_n 1, 1) := by decide +kernel
theorem dX10_person_87 : decode cX10_person 87 = .ok (.iaload, 1) := by decide +kernel
theorem dX10_person_88 : decode cX10_person 88 = .ok (.sipush 1000, 3) := by decide +kernel
theorem dX10_person_91 : decode cX10_person 91 = .ok (.iadd, 1) := by decide +kernel
theorem dX10_person_92 : decode cX10_person 92 = .ok (.goto 19, 3) := by decide +kernel
theorem dX10_person_95 : decode cX10_person 95 = .ok (.aload_n 0, 1) := by decide +kernel
theorem dX10_person_96 : decode cX10_person 96 = .ok (.getfield 107, 3) := by decide +kernel
theorem dX10_person_99 : decode cX10_person 99 = .ok (.iload_n 1, 1) := by decide +kernel
theorem dX10_person_100 : decode cX10_person 100 = .ok (.invokestatic 124, 3) := by decide +kernel
theorem dX10_person_103 : decode cX10_person 103 = .ok (.ifCond .eq 7, 3) := by decide +kernel
theorem dX10_person_106 : decode cX10_person 106 = .ok (.iconst 1, 1) := by decide +kernel
theorem dX10_person_107 : decode cX10_person 107 = .ok (.goto 4, 3) := by decide +kernel
theorem dX10_person_110 : decode cX10_person 110 = .ok (.iconst 0, 1) := by decide +kernel
theorem dX10_person_111 : decode cX10_person 111 = .ok (.ireturn, 1) := by decide +kernel
theorem dX10_othersThan_0 : decode cX10_othersThan 0 = .ok (.iconst 0, 1) := by decide +kernel
theorem dX10_othersThan_1 : decode cX10_othersThan 1 = .ok (.istore_n 3, 1) := by decide +kernel
theorem dX10_othersThan_2 : decode cX10_othersThan 2 = .ok (.iconst 0, 1) := by decide +kernel
theorem dX10_othersThan_3 : decode cX10_othersThan 3 = .ok (.istore 4, 2) := by decide +kernel
theorem dX10_othersThan_5 : decode cX10_othersThan 5 = .ok (.iload 4, 2) := by decide +kernel
theorem dX10_othersThan_7 : decode cX10_othersThan 7 = .ok (.aload_n 0, 1) := by decide +kernel
theorem dX10_othersThan_8 : decode cX10_othersThan 8 = .ok (.getfield 13, 3) := by decide +kernel
theorem dX10_othersThan_11 : decode cX10_othersThan 11 = .ok (.if_icmp .ge 45, 3) := by decide +kernel
theorem dX10_othersThan_14 : decode cX10_othersThan 14 = .ok (.iload_n 3, 1) := by decide +kernel
theorem dX10_othersThan_15 : decode cX10_othersThan 15 = .ok (.iload_n 2, 1) := by decide +kernel
theorem dX10_othersThan_16 : decode cX10_othersThan 16 = .ok (.iload 4, 2) := by decide +kernel
theorem dX10_othersThan_18 : decode cX10_othersThan 18 = .ok (.invokestatic 124, 3) := by decide +kernel
theorem dX10_othersThan_21 : decode cX10_othersThan 21 = .ok (.ifCond .eq 26, 3) := by decide +kernel
theorem dX10_othersThan_24 : decode cX10_othersThan 24 = .ok (.aload_n 0, 1) := by decide +kernel
theorem dX10_othersThan_25 : decode cX10_othersThan 25 = .ok (.getfield 26, 3) := by decide +kernel
theorem dX10_othersThan_28 : decode cX10_othersThan 28 = .ok (.iload 4, 2) := by decide +kernel
theorem dX10_othersThan_30 : decode cX10_othersThan 30 = .ok (.iaload, 1) := by decide +kernel
theorem dX10_othersThan_31 : decode cX10_othersThan 31 = .ok (.iload_n 1, 1) := by decide +kernel
theorem dX10_othersThan_32 : decode cX10_othersThan 32 = .ok (.if_icmp .eq 15, 3) := by decide +kernel
theorem dX10_othersThan_35 : decode cX10_othersThan 35 = .ok (.iconst 1, 1) := by decide +kernel
theorem dX10_othersThan_36 : decode cX10_othersThan 36 = .ok (.aload_n 0, 1) := by decide +kernel
theorem dX10_othersThan_37 : decode cX10_othersThan 37 = .ok (.getfield 26, 3) := by decide +kernel
theorem dX10_othersThan_40 : decode cX10_othersThan 40 = .ok (.iload 4, 2) := by decide +kernel
theorem dX10_othersThan_42 : decode cX10_othersThan 42 = .ok (.iaload, 1) := by decide +kernel
theorem dX10_othersThan_43 : decode cX10_othersThan 43 = .ok (.ishl, 1) := by decide +kernel
theorem dX10_othersThan_44 : decode cX10_othersThan 44 = .ok (.goto 4, 3) := by decide +kernel
theorem dX10_othersThan_47 : decode cX10_othersThan 47 = .ok (.iconst 0, 1) := by decide +kernel
theorem dX10_othersThan_48 : decode cX10_othersThan 48 = .ok (.ior, 1) := by decide +kernel
theorem dX10_othersThan_49 : decode cX10_othersThan 49 = .ok (.istore_n 3, 1) := by decide +kernel
theorem dX10_othersThan_50 : decode cX10_othersThan 50 = .ok (.iinc 4 1, 3) := by decide +kernel
theorem dX10_othersThan_53 : decode cX10_othersThan 53 = .ok (.goto (-48), 3) := by decide +kernel
theorem dX10_othersThan_56 : decode cX10_othersThan 56 = .ok (.iload_n 3, 1) := by decide +kernel
theorem dX10_othersThan_57 : decode cX10_othersThan 57 = .ok (.invokestatic 128, 3) := by decide +kernel
theorem dX10_othersThan_60 : decode cX10_othersThan 60 = .ok (.ireturn, 1) := by decide +kernel
theorem dX10_others_0 : decode cX10_others 0 = .ok (.aload_n 0, 1) := by decide +kernel
theorem dX10_others_1 : decode cX10_others 1 = .ok (.aload_n 0, 1) := by decide +kernel
theorem dX10_others_2 : decode cX10_others 2 = .ok (.getfield 26, 3) := by decide +kernel
theorem dX10_others_5 : decode cX10_others 5 = .ok (.iload_n 1, 1) := by decide +kernel
theorem dX10_others_6 : decode cX10_others 6 = .ok (.iaload, 1) := by decide +kernel
theorem dX10_others_7 : decode cX10_others 7 = .ok (.iload_n 2, 1) := by decide +kernel
theorem dX10_others_8 : decode cX10_others 8 = .ok (.invokevirtual 131, 3) := by decide +kernel
theorem dX10_others_11 : decode cX10_others 11 = .ok (.ireturn, 1) := by decide +kernel
theorem dX10_worthBy_0 : decode cX10_worthBy 0 = .ok (.iload_n 3, 1) := by decide +kernel
theorem dX10_worthBy_1 : decode cX10_worthBy 1 = .ok (.ifCond .le 10, 3) := by decide +kernel
theorem dX10_worthBy_4 : decode cX10_worthBy 4 = .ok (.iload_n 0, 1) := by decide +kernel
theorem dX10_worthBy_5 : decode cX10_worthBy 5 = .ok (.iconst 1, 1) := by decide +kernel
theorem dX10_worthBy_6 : decode cX10_worthBy 6 = .ok (.if_icmp .ne 5, 3) := by decide +kernel
theorem dX10_worthBy_9 : decode cX10_worthBy 9 = .ok (.iconst 0, 1) := by decide +kernel
theorem dX10_worthBy_10 : decode cX10_worthBy 10 = .ok (.ireturn, 1) := by decide +kernel
theorem dX10_worthBy_11 : decode cX10_worthBy 11 = .ok (.iload_n 3, 1) := by decide +kernel
theorem dX10_worthBy_12 : decode cX10_worthBy 12 = .ok (.ifCond .le 10, 3) := by decide +kernel
theorem dX10_worthBy_15 : decode cX10_worthBy 15 = .ok (.iload_n 0, 1) := by decide +kernel
theorem dX10_worthBy_16 : decode cX10_worthBy 16 = .ok (.iconst 2, 1) := by decide +kernel
theorem dX10_worthBy_17 : decode cX10_worthBy 17 = .ok (.if_icmp .ne 5, 3) := by decide +kernel
theorem dX10_worthBy_20 : decode cX10_worthBy 20 = .ok (.iconst (-1), 1) := by decide +kernel
theorem dX10_worthBy_21 : decode cX10_worthBy 21 = .ok (.ireturn, 1) := by decide +kernel
theorem dX10_worthBy_22 : decode cX10_worthBy 22 = .ok (.iload_n 0, 1) := by decide +kernel
theorem dX10_worthBy_23 : decode cX10_worthBy 23 = .ok (.iconst 3, 1) := by decide +kernel
theorem dX10_worthBy_24 : decode cX10_worthBy 24 = .ok (.if_icmp .ne 12, 3) := by decide +kernel
theorem dX10_worthBy_27 : decode cX10_worthBy 27 = .ok (.iload_n 3, 1) := by decide +kernel
theorem dX10_worthBy_28 : decode cX10_worthBy 28 = .ok (.iconst 2, 1) := by decide +kernel
theorem dX10_worthBy_29 : decode cX10_worthBy 29 = .ok (.if_icmp .ge 7, 3) := by decide +kernel
theorem dX10_worthBy_32 : decode cX10_worthBy 32 = .ok (.iconst 0, 1) := by decide +kernel
theorem dX10_worthBy_33 : decode cX10_worthBy 33 = .ok (.goto 11, 3) := by decide +kernel
theorem dX10_worthBy_36 : decode cX10_worthBy 36 = .ok (.iload_n 1, 1) := by decide +kernel
theorem dX10_worthBy_37 : decode cX10_worthBy 37 = .ok (.iload_n 2, 1) := by decide +kernel
theorem dX10_worthBy_38 : decode cX10_worthBy 38 = .ok (.bipush 9, 2) := by decide +kernel
theorem dX10_worthBy_40 : decode cX10_worthBy 40 = .ok (.isub, 1) := by decide +kernel
theorem dX10_worthBy_41 : decode cX10_worthBy 41 = .ok (.iload_n 3, 1) := by decide +kernel
theorem dX10_worthBy_42 : decode cX10_worthBy 42 = .ok (.imul, 1) := by decide +kernel
theorem dX10_worthBy_43 : decode cX10_worthBy 43 = .ok (.iadd, 1) := by decide +kernel
theorem dX10_worthBy_44 : decode cX10_worthBy 44 = .ok (.ireturn, 1) := by decide +kernel
theorem dX10_worthOf_0 : decode cX10_worthOf 0 = .ok (.aload_n 0, 1) := by decide +kernel
theorem dX10_worthOf_1 : decode cX10_worthOf 1 = .ok (.getfield 17, 3) := by decide +kernel
theorem dX10_worthOf_4 : decode cX10_worthOf 4 = .ok (.iload_n 1, 1) := by decide +kernel
theorem dX10_worthOf_5 : decode cX10_worthOf 5 = .ok (.iaload, 1) := by decide +kernel
theorem dX10_worthOf_6 : decode cX10_worthOf 6 = .ok (.aload_n 0, 1) := by decide +kernel
theorem dX10_worthOf_7 : decode cX10_worthOf 7 = .ok (.getfield 20, 3) := by decide +kernel
theorem dX10_worthOf_10 : decode cX10_worthOf 10 = .ok (.iload_n 1, 1) := by decide +kernel
theorem dX10_worthOf_11 : decode cX10_worthOf 11 = .ok (.iaload, 1) := by decide +kernel
theorem dX10_worthOf_12 : decode cX10_worthOf 12 = .ok (.aload_n 0, 1) := by decide +kernel
theorem dX10_worthOf_13 : decode cX10_worthOf 13 = .ok (.getfield 32, 3) := by decide +kernel
theorem dX10_worthOf_16 : decode cX10_worthOf 16 = .ok (.iadd, 1) := by decide +kernel
theorem dX10_worthOf_17 : decode cX10_worthOf 17 = .ok (.bipush 50, 2) := by decide +kernel
theorem dX10_worthOf_19 : decode cX10_worthOf 19 = .ok (.isub, 1) := by decide +kernel
theorem dX10_worthOf_20 : decode cX10_worthOf 20 = .ok (.aload_n 0, 1) := by decide +kernel
theorem dX10_worthOf_21 : decode cX10_worthOf 21 = .ok (.getfield 23, 3) := by decide +kernel
theorem dX10_worthOf_24 : decode cX10_worthOf 24 = .ok (.iload_n 1, 1) := by decide +kernel
theorem dX10_worthOf_25 : decode cX10_worthOf 25 = .ok (.iaload, 1) := by decide +kernel
theorem dX10_worthOf_26 : decode cX10_worthOf 26 = .ok (.aload_n 0, 1) := by decide +kernel
theorem dX10_worthOf_27 : decode cX10_worthOf 27 = .ok (.iload_n 1, 1) := by decide +kernel
theorem dX10_worthOf_28 : decode cX10_worthOf 28 = .ok (.iload_n 2, 1) := by decide +kernel
theorem dX10_worthOf_29 : decode cX10_worthOf 29 = .ok (.invokevirtual 134, 3) := by decide +kernel
theorem dX10_worthOf_32 : decode cX10_worthOf 32 = .ok (.invokestatic 137, 3) := by decide +kernel
theorem dX10_worthOf_35 : decode cX10_worthOf 35 = .ok (.ireturn, 1) := by decide +kernel
theorem dX10_worth_0 : decode cX10_worth 0 = .ok (.aload_n 0, 1) := by decide +kernel
theorem dX10_worth_1 : decode cX10_worth 1 = .ok (.iload_n 1, 1) := by decide +kernel
theorem dX10_worth_2 : decode cX10_worth 2 = .ok (.invokevirtual 119, 3) := by decide +kernel
theorem dX10_worth_5 : decode cX10_worth 5 = .ok (.ifCond .eq 30, 3) := by decide +kernel
theorem dX10_worth_8 : decode cX10_worth 8 = .ok (.iload_n 2, 1) := by decide +kernel
theorem dX10_worth_9 : decode cX10_worth 9 = .ok (.i2l, 1) := by decide +kernel
theorem dX10_worth_10 : decode cX10_worth 10 = .ok (.lconst 0, 1) := by decide +kernel
theorem dX10_worth_11 : decode cX10_worth 11 = .ok (.aload_n 0, 1) := by decide +kernel
theorem dX10_worth_12 : decode cX10_worth 12 = .ok (.invokevirtual 141, 3) := by decide +kernel
theorem dX10_worth_15 : decode cX10_worth 15 = .ok (.i2l, 1) := by decide +kernel
theorem dX10_worth_16 : decode cX10_worth 16 = .ok (.invokestatic 57, 3) := by decide +kernel
theorem dX10_worth_19 : decode cX10_worth 19 = .ok (.ifCond .eq 16, 3) := by decide +kernel
theorem dX10_worth_22 : decode cX10_worth 22 = .ok (.aload_n 0, 1) := by decide +kernel
theorem dX10_worth_23 : decode cX10_worth 23 = .ok (.iload_n 1, 1) := by decide +kernel
theorem dX10_worth_24 : decode cX10_worth 24 = .ok (.iload_n 2, 1) := by decide +kernel
theorem dX10_worth_25 : decode cX10_worth 25 = .ok (.invokevirtual 144, 3) := by decide +kernel
theorem dX10_worth_28 : decode cX10_worth 28 = .ok (.sipush 1000, 3) := by decide +kernel
theorem dX10_worth_31 : decode cX10_worth 31 = .ok (.iadd, 1) := by decide +kernel
theorem dX10_worth_32 : decode cX10_worth 32 = .ok (.goto 4, 3) := by decide +kernel
theorem dX10_worth_35 : decode cX10_worth 35 = .ok (.iconst (-1), 1) := by decide +kernel
theorem dX10_worth_36 : decode cX10_worth 36 = .ok (.ireturn, 1) := by decide +kernel
theorem dX10_remember_0 : decode cX10_remember 0 = .ok (.aload_n 0, 1) := by decide +kernel
theorem dX10_remember_1 : decode cX10_remember 1 = .ok (.getfield 113, 3) := by decide +kernel
theorem dX10_remember_4 : decode cX10_remember 4 = .ok (.bipush 8, 2) := by decide +kernel
theorem dX10_remember_6 : decode cX10_remember 6 = .ok (.if_icmp .ne 42, 3) := by decide +kernel
theorem dX10_remember_9 : decode cX10_remember 9 = .ok (.iconst 0, 1) := by decide +kernel
theorem dX10_remember_10 : decode cX10_remember 10 = .ok (.istore_n 1, 1) := by decide +kernel
theorem dX10_remember_11 : decode cX10_remember 11 = .ok (.iload_n 1, 1) := by decide +kernel
theorem dX10_remember_12 : decode cX10_remember 12 = .ok (.bipush 56, 2) := by decide +kernel
theorem dX10_remember_14 : decode cX10_remember 14 = .ok (.if_icmp .ge 24, 3) := by decide +kernel
theorem dX10_remember_17 : decode cX10_remember 17 = .ok (.aload_n 0, 1) := by decide +kernel
theorem dX10_remember_18 : decode cX10_remember 18 = .ok (.getfield 35, 3) := by decide +kernel
theorem dX10_remember_21 : decode cX10_remember 21 = .ok (.iload_n 1, 1) := by decide +kernel
theorem dX10_remember_22 : decode cX10_remember 22 = .ok (.aload_n 0, 1) := by decide +kernel
theorem dX10_remember_23 : decode cX10_remember 23 = .ok (.getfield 35, 3) := by decide +kernel
theorem dX10_remember_26 : decode cX10_remember 26 = .ok (.iload_n 1, 1) := by decide +kernel
theorem dX10_remember_27 : decode cX10_remember 27 = .ok (.bipush 8, 2) := by decide +kernel
theorem dX10_remember_29 : decode cX10_remember 29 = .ok (.iadd, 1) := by decide +kernel
theorem dX10_remember_30 : decode cX10_remember 30 = .ok (.iaload, 1) := by decide +kernel
theorem dX10_remember_31 : decode cX10_remember 31 = .ok (.iastore, 1) := by decide +kernel
theorem dX10_remember_32 : decode cX10_remember 32 = .ok (.iinc 1 1, 3) := by decide +kernel
theorem dX10_remember_35 : decode cX10_remember 35 = .ok (.goto (-24), 3) := by decide +kernel
theorem dX10_remember_38 : decode cX10_remember 38 = .ok (.aload_n 0, 1) := by decide +kernel
theorem dX10_remember_39 : decode cX10_remember 39 = .ok (.dup, 1) := by decide +kernel
theorem dX10_remember_40 : decode cX10_remember 40 = .ok (.getfield 113, 3) := by decide +kernel
theorem dX10_remember_43 : decode cX10_remember 43 = .ok (.iconst 1, 1) := by decide +kernel
theorem dX10_remember_44 : decode cX10_remember 44 = .ok (.isub, 1) := by decide +kernel
theorem dX10_remember_45 : decode cX10_remember 45 = .ok (.putfield 113, 3) := by decide +kernel
theorem dX10_remember_48 : decode cX10_remember 48 = .ok (.aload_n 0, 1) := by decide +kernel
theorem dX10_remember_49 : decode cX10_remember 49 = .ok (.getfield 35, 3) := by decide +kernel
theorem dX10_remember_52 : decode cX10_remember 52 = .ok (.bipush 8, 2) := by decide +kernel
theorem dX10_remember_54 : decode cX10_remember 54 = .ok (.aload_n 0, 1) := by decide +kernel
theorem dX10_remember_55 : decode cX10_remember 55 = .ok (.getfield 113, 3) := by decide +kernel
theorem dX10_remember_58 : decode cX10_remember 58 = .ok (.imul, 1) := by decide +kernel
theorem dX10_remember_59 : decode cX10_remember 59 = .ok (.aload_n 0, 1) := by decide +kernel
theorem dX10_remember_60 : decode cX10_remember 60 = .ok (.getfield 107, 3) := by decide +kernel
theorem dX10_remember_63 : decode cX10_remember 63 = .ok (.iastore, 1) := by decide +kernel
theorem dX10_remember_64 : decode cX10_remember 64 = .ok (.iconst 0, 1) := by decide +kernel
theorem dX10_remember_65 : decode cX10_remember 65 = .ok (.istore_n 1, 1) := by decide +kernel
theorem dX10_remember_66 : decode cX10_remember 66 = .ok (.iload_n 1, 1) := by decide +kernel
theorem dX10_remember_67 : decode cX10_remember 67 = .ok (.bipush 7, 2) := by decide +kernel
theorem dX10_remember_69 : decode cX10_remember 69 = .ok (.if_icmp .ge 31, 3) := by decide +kernel
theorem dX10_remember_72 : decode cX10_remember 72 = .ok (.aload_n 0, 1) := by decide +kernel
theorem dX10_remember_73 : decode cX10_remember 73 = .ok (.getfield 35, 3) := by decide +kernel
theorem dX10_remember_76 : decode cX10_remember 76 = .ok (.bipush 8, 2) := by decide +kernel
theorem dX10_remember_78 : decode cX10_remember 78 = .ok (.aload_n 0, 1) := by decide +kernel
theorem dX10_remember_79 : decode cX10_remember 79 = .ok (.getfield 113, 3) := by decide +kernel
theorem dX10_remember_82 : decode cX10_remember 82 = .ok (.imul, 1) := by decide +kernel
theorem dX10_remember_83 : decode cX10_remember 83 = .ok (.iconst 1, 1) := by decide +kernel
theorem dX10_remember_84 : decode cX10_remember 84 = .ok (.iadd, 1) := by decide +kernel
theorem dX10_remember_85 : decode cX10_remember 85 = .ok (.iload_n 1, 1) := by decide +kernel
theorem dX10_remember_86 : decode cX10_remember 86 = .ok (.iadd, 1) := by decide +kernel
theorem dX10_remember_87 : decode cX10_remember 87 = .ok (.aload_n 0, 1) := by decide +kernel
theorem dX10_remember_88 : decode cX10_remember 88 = .ok (.getfield 29, 3) := by decide +kernel
theorem dX10_remember_91 : decode cX10_remember 91 = .ok (.iload_n 1, 1) := by decide +kernel
theorem dX10_remember_92 : decode cX10_remember 92 = .ok (.iaload, 1) := by decide +kernel
theorem dX10_remember_93 : decode cX10_remember 93 = .ok (.iastore, 1) := by decide +kernel
theorem dX10_remember_94 : decode cX10_remember 94 = .ok (.iinc 1 1, 3) := by decide +kernel
theorem dX10_remember_97 : decode cX10_remember 97 = .ok (.goto (-31), 3) := by decide +kernel
theorem dX10_remember_100 : decode cX10_remember 100 = .ok (.aload_n 0, 1) := by decide +kernel
theorem dX10_remember_101 : decode cX10_remember 101 = .ok (.dup, 1) := by decide +kernel
theorem dX10_remember_102 : decode cX10_remember 102 = .ok (.getfield 113, 3) := by decide +kernel
theorem dX10_remember_105 : decode cX10_remember 105 = .ok (.iconst 1, 1) := by decide +kernel
theorem dX10_remember_106 : decode cX10_remember 106 = .ok (.iadd, 1) := by decide +kernel
theorem dX10_remember_107 : decode cX10_remember 107 = .ok (.putfield 113, 3) := by decide +kernel
theorem dX10_remember_110 : decode cX10_remember 110 = .ok (.return_, 1) := by decide +kernel
theorem dX10_buy_0 : decode cX10_buy 0 = .ok (.iload_n 1, 1) := by decide +kernel
theorem dX10_buy_1 : decode cX10_buy 1 = .ok (.i2l, 1) := by decide +kernel
theorem dX10_buy_2 : decode cX10_buy 2 = .ok (.lconst 1, 1) := by decide +kernel
theorem dX10_buy_3 : decode cX10_buy 3 = .ok (.aload_n 0, 1) := by decide +kernel
theorem dX10_buy_4 : decode cX10_buy 4 = .ok (.invokevirtual 141, 3) := by decide +kernel
theorem dX10_buy_7 : decode cX10_buy 7 = .ok (.i2l, 1) := by decide +kernel
theorem dX10_buy_8 : decode cX10_buy 8 = .ok (.invokestatic 57, 3) := by decide +kernel
theorem dX10_buy_11 : decode cX10_buy 11 = .ok (.ifCond .ne 5, 3) := by decide +kernel
theorem dX10_buy_14 : decode cX10_buy 14 = .ok (.iconst (-1), 1) := by decide +kernel
theorem dX10_buy_15 : decode cX10_buy 15 = .ok (.ireturn, 1) := by decide +kernel
theorem dX10_buy_16 : decode cX10_buy 16 = .ok (.iconst 0, 1) := by decide +kernel
theorem dX10_buy_17 : decode cX10_buy 17 = .ok (.istore_n 2, 1) := by decide +kernel
theorem dX10_buy_18 : decode cX10_buy 18 = .ok (.iload_n 1, 1) := by decide +kernel
theorem dX10_buy_19 : decode cX10_buy 19 = .ok (.aload_n 0, 1) := by decide +kernel
theorem dX10_buy_20 : decode cX10_buy 20 = .ok (.getfield 107, 3) := by decide +kernel
theorem dX10_buy_23 : decode cX10_buy 23 = .ok (.iand, 1) := by decide +kernel
theorem dX10_buy_24 : decode cX10_buy 24 = .ok (.ifCond .ne 7, 3) := by decide +kernel
theorem dX10_buy_27 : decode cX10_buy 27 = .ok (.iconst 1, 1) := by decide +kernel
theorem dX10_buy_28 : decode cX10_buy 28 = .ok (.goto 4, 3) := by decide +kernel
theorem dX10_buy_31 : decode cX10_buy 31 = .ok (.iconst 0, 1) := by decide +kernel
theorem dX10_buy_32 : decode cX10_buy 32 = .ok (.istore_n 3, 1) := by decide +kernel
theorem dX10_buy_33 : decode cX10_buy 33 = .ok (.iconst 0, 1) := by decide +kernel
theorem dX10_buy_34 : decode cX10_buy 34 = .ok (.istore 4, 2) := by decide +kernel
theorem dX10_buy_36 : decode cX10_buy 36 = .ok (.iload 4, 2) := by decide +kernel
theorem dX10_buy_38 : decode cX10_buy 38 = .ok (.aload_n 0, 1) := by decide +kernel
theorem dX10_buy_39 : decode cX10_buy 39 = .ok (.getfield 13, 3) := by decide +kernel
theorem dX10_buy_42 : decode cX10_buy 42 = .ok (.if_icmp .ge 63, 3) := by decide +kernel
theorem dX10_buy_45 : decode cX10_buy 45 = .ok (.iload_n 1, 1) := by decide +kernel
theorem dX10_buy_46 : decode cX10_buy 46 = .ok (.iload 4, 2) := by decide +kernel
theorem dX10_buy_48 : decode cX10_buy 48 = .ok (.invokestatic 124, 3) := by decide +kernel
theorem dX10_buy_51 : decode cX10_buy 51 = .ok (.ifCond .eq 18, 3) := by decide +kernel
theorem dX10_buy_54 : decode cX10_buy 54 = .ok (.aload_n 0, 1) := by decide +kernel
theorem dX10_buy_55 : decode cX10_buy 55 = .ok (.iload 4, 2) := by decide +kernel
theorem dX10_buy_57 : decode cX10_buy 57 = .ok (.aload_n 0, 1) := by decide +kernel
theorem dX10_buy_58 : decode cX10_buy 58 = .ok (.getfield 107, 3) := by decide +kernel
theorem dX10_buy_61 : decode cX10_buy 61 = .ok (.iload_n 1, 1) := by decide +kernel
theorem dX10_buy_62 : decode cX10_buy 62 = .ok (.ior, 1) := by decide +kernel
theorem dX10_buy_63 : decode cX10_buy 63 = .ok (.invokevirtual 134, 3) := by decide +kernel
theorem dX10_buy_66 : decode cX10_buy 66 = .ok (.goto 4, 3) := by decide +kernel
theorem dX10_buy_69 : decode cX10_buy 69 = .ok (.iconst 0, 1) := by decide +kernel
theorem dX10_buy_70 : decode cX10_buy 70 = .ok (.istore 5, 2) := by decide +kernel
theorem dX10_buy_72 : decode cX10_buy 72 = .ok (.iload_n 3, 1) := by decide +kernel
theorem dX10_buy_73 : decode cX10_buy 73 = .ok (.ifCond .eq 19, 3) := by decide +kernel
theorem dX10_buy_76 : decode cX10_buy 76 = .ok (.iload 5, 2) := by decide +kernel
theorem dX10_buy_78 : decode cX10_buy 78 = .ok (.aload_n 0, 1) := by decide +kernel
theorem dX10_buy_79 : decode cX10_buy 79 = .ok (.getfield 29, 3) := by decide +kernel
theorem dX10_buy_82 : decode cX10_buy 82 = .ok (.iload 4, 2) := by decide +kernel
theorem dX10_buy_84 : decode cX10_buy 84 = .ok (.iaload, 1) := by decide +kernel
theorem dX10_buy_85 : decode cX10_buy 85 = .ok (.if_icmp .gt 7, 3) := by decide +kernel
theorem dX10_buy_88 : decode cX10_buy 88 = .ok (.iconst 1, 1) := by decide +kernel
theorem dX10_buy_89 : decode cX10_buy 89 = .ok (.goto 4, 3) := by decide +kernel
theorem dX10_buy_92 : decode cX10_buy 92 = .ok (.iconst 0, 1) := by decide +kernel
theorem dX10_buy_93 : decode cX10_buy 93 = .ok (.istore_n 3, 1) := by decide +kernel
theorem dX10_buy_94 : decode cX10_buy 94 = .ok (.iload_n 2, 1) := by decide +kernel
theorem dX10_buy_95 : decode cX10_buy 95 = .ok (.iload 5, 2) := by decide +kernel
theorem dX10_buy_97 : decode cX10_buy 97 = .ok (.iadd, 1) := by decide +kernel
theorem dX10_buy_98 : decode cX10_buy 98 = .ok (.istore_n 2, 1) := by decide +kernel
theorem dX10_buy_99 : decode cX10_buy 99 = .ok (.iinc 4 1, 3) := by decide +kernel
theorem dX10_buy_102 : decode cX10_buy 102 = .ok (.goto (-66), 3) := by decide +kernel
theorem dX10_buy_105 : decode cX10_buy 105 = .ok (.iload_n 3, 1) := by decide +kernel
theorem dX10_buy_106 : decode cX10_buy 106 = .ok (.ifCond .ne 6, 3) := by decide +kernel
theorem dX10_buy_109 : decode cX10_buy 109 = .ok (.bipush (-2), 2) := by decide +kernel
theorem dX10_buy_111 : decode cX10_buy 111 = .ok (.ireturn, 1) := by decide +kernel
theorem dX10_buy_112 : decode cX10_buy 112 = .ok (.aload_n 0, 1) := by decide +kernel
theorem dX10_buy_113 : decode cX10_buy 113 = .ok (.invokevirtual 147, 3) := by decide +kernel
theorem dX10_buy_116 : decode cX10_buy 116 = .ok (.iconst 0, 1) := by decide +kernel
theorem dX10_buy_117 : decode cX10_buy 117 = .ok (.istore 4, 2) := by decide +kernel
theorem dX10_buy_119 : decode cX10_buy 119 = .ok (.iload 4, 2) := by decide +kernel
theorem dX10_buy_121 : decode cX10_buy 121 = .ok (.aload_n 0, 1) := by decide +kernel
theorem dX10_buy_122 : decode cX10_buy 122 = .ok (.getfield 13, 3) := by decide +kernel
theorem dX10_buy_125 : decode cX10_buy 125 = .ok (.if_icmp .ge 44, 3) := by decide +kernel
theorem dX10_buy_128 : decode cX10_buy 128 = .ok (.aload_n 0, 1) := by decide +kernel
theorem dX10_buy_129 : decode cX10_buy 129 = .ok (.getfield 29, 3) := by decide +kernel
theorem dX10_buy_132 : decode cX10_buy 132 = .ok (.iload 4, 2) := by decide +kernel
theorem dX10_buy_134 : decode cX10_buy 134 = .ok (.dup2, 1) := by decide +kernel
theorem dX10_buy_135 : decode cX10_buy 135 = .ok (.iaload, 1) := by decide +kernel
theorem dX10_buy_136 : decode cX10_buy 136 = .ok (.iload_n 1, 1) := by decide +kernel
theorem dX10_buy_137 : decode cX10_buy 137 = .ok (.iload 4, 2) := by decide +kernel
theorem dX10_buy_139 : decode cX10_buy 139 = .ok (.invokestatic 124, 3) := by decide +kernel
theorem dX10_buy_142 : decode cX10_buy 142 = .ok (.ifCond .eq 18, 3) := by decide +kernel
theorem dX10_buy_145 : decode cX10_buy 145 = .ok (.aload_n 0, 1) := by decide +kernel
theorem dX10_buy_146 : decode cX10_buy 146 = .ok (.iload 4, 2) := by decide +kernel
theorem dX10_buy_148 : decode cX10_buy 148 = .ok (.aload_n 0, 1) := by decide +kernel
theorem dX10_buy_149 : decode cX10_buy 149 = .ok (.getfield 107, 3) := by decide +kernel
theorem dX10_buy_152 : decode cX10_buy 152 = .ok (.iload_n 1, 1) := by decide +kernel
theorem dX10_buy_153 : decode cX10_buy 153 = .ok (.ior, 1) := by decide +kernel
theorem dX10_buy_154 : decode cX10_buy 154 = .ok (.invokevirtual 134, 3) := by decide +kernel
theorem dX10_buy_157 : decode cX10_buy 157 = .ok (.goto 4, 3) := by decide +kernel
theorem dX10_buy_160 : decode cX10_buy 160 = .ok (.iconst 0, 1) := by decide +kernel
theorem dX10_buy_161 : decode cX10_buy 161 = .ok (.isub, 1) := by decide +kernel
theorem dX10_buy_162 : decode cX10_buy 162 = .ok (.iastore, 1) := by decide +kernel
theorem dX10_buy_163 : decode cX10_buy 163 = .ok (.iinc 4 1, 3) := by decide +kernel
theorem dX10_buy_166 : decode cX10_buy 166 = .ok (.goto (-47), 3) := by decide +kernel
theorem dX10_buy_169 : decode cX10_buy 169 = .ok (.aload_n 0, 1) := by decide +kernel
theorem dX10_buy_170 : decode cX10_buy 170 = .ok (.dup, 1) := by decide +kernel
theorem dX10_buy_171 : decode cX10_buy 171 = .ok (.getfield 107, 3) := by decide +kernel
theorem dX10_buy_174 : decode cX10_buy 174 = .ok (.iload_n 1, 1) := by decide +kernel
theorem dX10_buy_175 : decode cX10_buy 175 = .ok (.ior, 1) := by decide +kernel
theorem dX10_buy_176 : decode cX10_buy 176 = .ok (.putfield 107, 3) := by decide +kernel
theorem dX10_buy_179 : decode cX10_buy 179 = .ok (.iload_n 2, 1) := by decide +kernel
theorem dX10_buy_180 : decode cX10_buy 180 = .ok (.ireturn, 1) := by decide +kernel
theorem dX10_toss_0 : decode cX10_toss 0 = .ok (.aload_n 0, 1) := by decide +kernel
theorem dX10_toss_1 : decode cX10_toss 1 = .ok (.iload_n 1, 1) := by decide +kernel
theorem dX10_toss_2 : decode cX10_toss 2 = .ok (.invokevirtual 119, 3) := by decide +kernel
theorem dX10_toss_5 : decode cX10_toss 5 = .ok (.ifCond .ne 5, 3) := by decide +kernel
theorem dX10_toss_8 : decode cX10_toss 8 = .ok (.iconst (-1), 1) := by decide +kernel
theorem dX10_toss_9 : decode cX10_toss 9 = .ok (.ireturn, 1) := by decide +kernel
theorem dX10_toss_10 : decode cX10_toss 10 = .ok (.aload_n 0, 1) := by decide +kernel
theorem dX10_toss_11 : decode cX10_toss 11 = .ok (.getfield 107, 3) := by decide +kernel
theorem dX10_toss_14 : decode cX10_toss 14 = .ok (.iload_n 1, 1) := by decide +kernel
theorem dX10_toss_15 : decode cX10_toss 15 = .ok (.invokestatic 124, 3) := by decide +kernel
theorem dX10_toss_18 : decode cX10_toss 18 = .ok (.ifCond .ne 6, 3) := by decide +kernel
theorem dX10_toss_21 : decode cX10_toss 21 = .ok (.bipush (-2), 2) := by decide +kernel
theorem dX10_toss_23 : decode cX10_toss 23 = .ok (.ireturn, 1) := by decide +kernel
theorem dX10_toss_24 : decode cX10_toss 24 = .ok (.aload_n 0, 1) := by decide +kernel
theorem dX10_toss_25 : decode cX10_toss 25 = .ok (.invokevirtual 147, 3) := by decide +kernel
theorem dX10_toss_28 : decode cX10_toss 28 = .ok (.aload_n 0, 1) := by decide +kernel
theorem dX10_toss_29 : decode cX10_toss 29 = .ok (.dup, 1) := by decide +kernel
theorem dX10_toss_30 : decode cX10_toss 30 = .ok (.getfield 107, 3) := by decide +kernel
theorem dX10_toss_33 : decode cX10_toss 33 = .ok (.iconst 1, 1) := by decide +kernel
theorem dX10_toss_34 : decode cX10_toss 34 = .ok (.iload_n 1, 1) := by decide +kernel
theorem dX10_toss_35 : decode cX10_toss 35 = .ok (.ishl, 1) := by decide +kernel
theorem dX10_toss_36 : decode cX10_toss 36 = .ok (.ixor, 1) := by decide +kernel
theorem dX10_toss_37 : decode cX10_toss 37 = .ok (.putfield 107, 3) := by decide +kernel
theorem dX10_toss_40 : decode cX10_toss 40 = .ok (.aload_n 0, 1) := by decide +kernel
theorem dX10_toss_41 : decode cX10_toss 41 = .ok (.getfield 107, 3) := by decide +kernel
theorem dX10_toss_44 : decode cX10_toss 44 = .ok (.invokestatic 128, 3) := by decide +kernel
theorem dX10_toss_47 : decode cX10_toss 47 = .ok (.ireturn, 1) := by decide +kernel
theorem dX10_sell_0 : decode cX10_sell 0 = .ok (.aload_n 0, 1) := by decide +kernel
theorem dX10_sell_1 : decode cX10_sell 1 = .ok (.iload_n 1, 1) := by decide +kernel
theorem dX10_sell_2 : decode cX10_sell 2 = .ok (.invokevirtual 119, 3) := by decide +kernel
theorem dX10_sell_5 : decode cX10_sell 5 = .ok (.ifCond .eq 16, 3) := by decide +kernel
theorem dX10_sell_8 : decode cX10_sell 8 = .ok (.aload_n 0, 1) := by decide +kernel
theorem dX10_sell_9 : decode cX10_sell 9 = .ok (.iload_n 2, 1) := by decide +kernel
theorem dX10_sell_10 : decode cX10_sell 10 = .ok (.invokevirtual 119, 3) := by decide +kernel
theorem dX10_sell_13 : decode cX10_sell 13 = .ok (.ifCond .eq 8, 3) := by decide +kernel
theorem dX10_sell_16 : decode cX10_sell 16 = .ok (.iload_n 1, 1) := by decide +kernel
theorem dX10_sell_17 : decode cX10_sell 17 = .ok (.iload_n 2, 1) := by decide +kernel
theorem dX10_sell_18 : decode cX10_sell 18 = .ok (.if_icmp .ne 5, 3) := by decide +kernel
theorem dX10_sell_21 : decode cX10_sell 21 = .ok (.iconst (-1), 1) := by decide +kernel
theorem dX10_sell_22 : decode cX10_sell 22 = .ok (.ireturn, 1) := by decide +kernel
theorem dX10_sell_23 : decode cX10_sell 23 = .ok (.aload_n 0, 1) := by decide +kernel
theorem dX10_sell_24 : decode cX10_sell 24 = .ok (.iload_n 2, 1) := by decide +kernel
theorem dX10_sell_25 : decode cX10_sell 25 = .ok (.aload_n 0, 1) := by decide +kernel
theorem dX10_sell_26 : decode cX10_sell 26 = .ok (.getfield 107, 3) := by decide +kernel
theorem dX10_sell_29 : decode cX10_sell 29 = .ok (.iconst 1, 1) := by decide +kernel
theorem dX10_sell_30 : decode cX10_sell 30 = .ok (.iload_n 1, 1) := by decide +kernel
theorem dX10_sell_31 : decode cX10_sell 31 = .ok (.ishl, 1) := by decide +kernel
theorem dX10_sell_32 : decode cX10_sell 32 = .ok (.iconst (-1), 1) := by decide +kernel
theorem dX10_sell_33 : decode cX10_sell 33 = .ok (.ixor, 1) := by decide +kernel
theorem dX10_sell_34 : decode cX10_sell 34 = .ok (.iand, 1) := by decide +kernel
theorem dX10_sell_35 : decode cX10_sell 35 = .ok (.invokevirtual 134, 3) := by decide +kernel
theorem dX10_sell_38 : decode cX10_sell 38 = .ok (.istore_n 3, 1) := by decide +kernel
theorem dX10_sell_39 : decode cX10_sell 39 = .ok (.aload_n 0, 1) := by decide +kernel
theorem dX10_sell_40 : decode cX10_sell 40 = .ok (.getfield 107, 3) := by decide +kernel
theorem dX10_sell_43 : decode cX10_sell 43 = .ok (.iload_n 1, 1) := by decide +kernel
theorem dX10_sell_44 : decode cX10_sell 44 = .ok (.invokestatic 124, 3) := by decide +kernel
theorem dX10_sell_47 : decode cX10_sell 47 = .ok (.ifCond .eq 24, 3) := by decide +kernel
theorem dX10_sell_50 : decode cX10_sell 50 = .ok (.aload_n 0, 1) := by decide +kernel
theorem dX10_sell_51 : decode cX10_sell 51 = .ok (.getfield 107, 3) := by decide +kernel
theorem dX10_sell_54 : decode cX10_sell 54 = .ok (.iload_n 2, 1) := by decide +kernel
theorem dX10_sell_55 : decode cX10_sell 55 = .ok (.invokestatic 124, 3) := by decide +kernel
theorem dX10_sell_58 : decode cX10_sell 58 = .ok (.ifCond .ne 13, 3) := by decide +kernel
theorem dX10_sell_61 : decode cX10_sell 61 = .ok (.aload_n 0, 1) := by decide +kernel
theorem dX10_sell_62 : decode cX10_sell 62 = .ok (.getfield 29, 3) := by decide +kernel
theorem dX10_sell_65 : decode cX10_sell 65 = .ok (.iload_n 2, 1) := by decide +kernel
theorem dX10_sell_66 : decode cX10_sell 66 = .ok (.iaload, 1) := by decide +kernel
theorem dX10_sell_67 : decode cX10_sell 67 = .ok (.iload_n 3, 1) := by decide +kernel
theorem dX10_sell_68 : decode cX10_sell 68 = .ok (.if_icmp .ge 6, 3) := by decide +kernel
theorem dX10_sell_71 : decode cX10_sell 71 = .ok (.bipush (-2), 2) := by decide +kernel
theorem dX10_sell_73 : decode cX10_sell 73 = .ok (.ireturn, 1) := by decide +kernel
theorem dX10_sell_74 : decode cX10_sell 74 = .ok (.aload_n 0, 1) := by decide +kernel
theorem dX10_sell_75 : decode cX10_sell 75 = .ok (.invokevirtual 147, 3) := by decide +kernel
theorem dX10_sell_78 : decode cX10_sell 78 = .ok (.aload_n 0, 1) := by decide +kernel
theorem dX10_sell_79 : decode cX10_sell 79 = .ok (.getfield 29, 3) := by decide +kernel
theorem dX10_sell_82 : decode cX10_sell 82 = .ok (.iload_n 1, 1) := by decide +kernel
theorem dX10_sell_83 : decode cX10_sell 83 = .ok (.dup2, 1) := by decide +kernel
theorem dX10_sell_84 : decode cX10_sell 84 = .ok (.iaload, 1) := by decide +kernel
theorem dX10_sell_85 : decode cX10_sell 85 = .ok (.iload_n 3, 1) := by decide +kernel
theorem dX10_sell_86 : decode cX10_sell 86 = .ok (.iadd, 1) := by decide +kernel
theorem dX10_sell_87 : decode cX10_sell 87 = .ok (.iastore, 1) := by decide +kernel
theorem dX10_sell_88 : decode cX10_sell 88 = .ok (.aload_n 0, 1) := by decide +kernel
theorem dX10_sell_89 : decode cX10_sell 89 = .ok (.getfield 29, 3) := by decide +kernel
theorem dX10_sell_92 : decode cX10_sell 92 = .ok (.iload_n 2, 1) := by decide +kernel
theorem dX10_sell_93 : decode cX10_sell 93 = .ok (.dup2, 1) := by decide +kernel
theorem dX10_sell_94 : decode cX10_sell 94 = .ok (.iaload, 1) := by decide +kernel
theorem dX10_sell_95 : decode cX10_sell 95 = .ok (.iload_n 3, 1) := by decide +kernel
theorem dX10_sell_96 : decode cX10_sell 96 = .ok (.isub, 1) := by decide +kernel
theorem dX10_sell_97 : decode cX10_sell 97 = .ok (.iastore, 1) := by decide +kernel
theorem dX10_sell_98 : decode cX10_sell 98 = .ok (.aload_n 0, 1) := by decide +kernel
theorem dX10_sell_99 : decode cX10_sell 99 = .ok (.dup, 1) := by decide +kernel
theorem dX10_sell_100 : decode cX10_sell 100 = .ok (.getfield 107, 3) := by decide +kernel
theorem dX10_sell_103 : decode cX10_sell 103 = .ok (.iconst 1, 1) := by decide +kernel
theorem dX10_sell_104 : decode cX10_sell 104 = .ok (.iload_n 1, 1) := by decide +kernel
theorem dX10_sell_105 : decode cX10_sell 105 = .ok (.ishl, 1) := by decide +kernel
theorem dX10_sell_106 : decode cX10_sell 106 = .ok (.iconst 1, 1) := by decide +kernel
theorem dX10_sell_107 : decode cX10_sell 107 = .ok (.iload_n 2, 1) := by decide +kernel
theorem dX10_sell_108 : decode cX10_sell 108 = .ok (.ishl, 1) := by decide +kernel
theorem dX10_sell_109 : decode cX10_sell 109 = .ok (.ior, 1) := by decide +kernel
theorem dX10_sell_110 : decode cX10_sell 110 = .ok (.ixor, 1) := by decide +kernel
theorem dX10_sell_111 : decode cX10_sell 111 = .ok (.putfield 107, 3) := by decide +kernel
theorem dX10_sell_114 : decode cX10_sell 114 = .ok (.iload_n 3, 1) := by decide +kernel
theorem dX10_sell_115 : decode cX10_sell 115 = .ok (.ireturn, 1) := by decide +kernel
theorem dX10_undo_0 : decode cX10_undo 0 = .ok (.aload_n 0, 1) := by decide +kernel
theorem dX10_undo_1 : decode cX10_undo 1 = .ok (.getfield 113, 3) := by decide +kernel
theorem dX10_undo_4 : decode cX10_undo 4 = .ok (.ifCond .ne 6, 3) := by decide +kernel
theorem dX10_undo_7 : decode cX10_undo 7 = .ok (.bipush (-2), 2) := by decide +kernel
theorem dX10_undo_9 : decode cX10_undo 9 = .ok (.ireturn, 1) := by decide +kernel
theorem dX10_undo_10 : decode cX10_undo 10 = .ok (.aload_n 0, 1) := by decide +kernel
theorem dX10_undo_11 : decode cX10_undo 11 = .ok (.dup, 1) := by decide +kernel
theorem dX10_undo_12 : decode cX10_undo 12 = .ok (.getfield 113, 3) := by decide +kernel
theorem dX10_undo_15 : decode cX10_undo 15 = .ok (.iconst 1, 1) := by decide +kernel
theorem dX10_undo_16 : decode cX10_undo 16 = .ok (.isub, 1) := by decide +kernel
theorem dX10_undo_17 : decode cX10_undo 17 = .ok (.putfield 113, 3) := by decide +kernel
theorem dX10_undo_20 : decode cX10_undo 20 = .ok (.aload_n 0, 1) := by decide +kernel
theorem dX10_undo_21 : decode cX10_undo 21 = .ok (.aload_n 0, 1) := by decide +kernel
theorem dX10_undo_22 : decode cX10_undo 22 = .ok (.getfield 35, 3) := by decide +kernel
theorem dX10_undo_25 : decode cX10_undo 25 = .ok (.bipush 8, 2) := by decide +kernel
theorem dX10_undo_27 : decode cX10_undo 27 = .ok (.aload_n 0, 1) := by decide +kernel
theorem dX10_undo_28 : decode cX10_undo 28 = .ok (.getfield 113, 3) := by decide +kernel
theorem dX10_undo_31 : decode cX10_undo 31 = .ok (.imul, 1) := by decide +kernel
theorem dX10_undo_32 : decode cX10_undo 32 = .ok (.iaload, 1) := by decide +kernel
theorem dX10_undo_33 : decode cX10_undo 33 = .ok (.putfield 107, 3) := by decide +kernel
theorem dX10_undo_36 : decode cX10_undo 36 = .ok (.iconst 0, 1) := by decide +kernel
theorem dX10_undo_37 : decode cX10_undo 37 = .ok (.istore_n 1, 1) := by decide +kernel
theorem dX10_undo_38 : decode cX10_undo 38 = .ok (.iload_n 1, 1) := by decide +kernel
theorem dX10_undo_39 : decode cX10_undo 39 = .ok (.bipush 7, 2) := by decide +kernel
theorem dX10_undo_41 : decode cX10_undo 41 = .ok (.if_icmp .ge 31, 3) := by decide +kernel
theorem dX10_undo_44 : decode cX10_undo 44 = .ok (.aload_n 0, 1) := by decide +kernel
theorem dX10_undo_45 : decode cX10_undo 45 = .ok (.getfield 29, 3) := by decide +kernel
theorem dX10_undo_48 : decode cX10_undo 48 = .ok (.iload_n 1, 1) := by decide +kernel
theorem dX10_undo_49 : decode cX10_undo 49 = .ok (.aload_n 0, 1) := by decide +kernel
theorem dX10_undo_50 : decode cX10_undo 50 = .ok (.getfield 35, 3) := by decide +kernel
theorem dX10_undo_53 : decode cX10_undo 53 = .ok (.bipush 8, 2) := by decide +kernel
theorem dX10_undo_55 : decode cX10_undo 55 = .ok (.aload_n 0, 1) := by decide +kernel
theorem dX10_undo_56 : decode cX10_undo 56 = .ok (.getfield 113, 3) := by decide +kernel
theorem dX10_undo_59 : decode cX10_undo 59 = .ok (.imul, 1) := by decide +kernel
theorem dX10_undo_60 : decode cX10_undo 60 = .ok (.iconst 1, 1) := by decide +kernel
theorem dX10_undo_61 : decode cX10_undo 61 = .ok (.iadd, 1) := by decide +kernel
theorem dX10_undo_62 : decode cX10_undo 62 = .ok (.iload_n 1, 1) := by decide +kernel
theorem dX10_undo_63 : decode cX10_undo 63 = .ok (.iadd, 1) := by decide +kernel
theorem dX10_undo_64 : decode cX10_undo 64 = .ok (.iaload, 1) := by decide +kernel
theorem dX10_undo_65 : decode cX10_undo 65 = .ok (.iastore, 1) := by decide +kernel
theorem dX10_undo_66 : decode cX10_undo 66 = .ok (.iinc 1 1, 3) := by decide +kernel
theorem dX10_undo_69 : decode cX10_undo 69 = .ok (.goto (-31), 3) := by decide +kernel
theorem dX10_undo_72 : decode cX10_undo 72 = .ok (.aload_n 0, 1) := by decide +kernel
theorem dX10_undo_73 : decode cX10_undo 73 = .ok (.getfield 113, 3) := by decide +kernel
theorem dX10_undo_76 : decode cX10_undo 76 = .ok (.ireturn, 1) := by decide +kernel
theorem dX10_price_0 : decode cX10_price 0 = .ok (.aload_n 0, 1) := by decide +kernel
theorem dX10_price_1 : decode cX10_price 1 = .ok (.iload_n 1, 1) := by decide +kernel
theorem dX10_price_2 : decode cX10_price 2 = .ok (.invokevirtual 119, 3) := by decide +kernel
theorem dX10_price_5 : decode cX10_price 5 = .ok (.ifCond .ne 5, 3) := by decide +kernel
theorem dX10_price_8 : decode cX10_price 8 = .ok (.iconst (-1), 1) := by decide +kernel
theorem dX10_price_9 : decode cX10_price 9 = .ok (.ireturn, 1) := by decide +kernel
theorem dX10_price_10 : decode cX10_price 10 = .ok (.aload_n 0, 1) := by decide +kernel
theorem dX10_price_11 : decode cX10_price 11 = .ok (.getfield 107, 3) := by decide +kernel
theorem dX10_price_14 : decode cX10_price 14 = .ok (.iload_n 1, 1) := by decide +kernel
theorem dX10_price_15 : decode cX10_price 15 = .ok (.invokestatic 124, 3) := by decide +kernel
theorem dX10_price_18 : decode cX10_price 18 = .ok (.ifCond .eq 8, 3) := by decide +kernel
theorem dX10_price_21 : decode cX10_price 21 = .ok (.bipush (-2), 2) := by decide +kernel
theorem dX10_price_23 : decode cX10_price 23 = .ok (.goto 12, 3) := by decide +kernel
theorem dX10_price_26 : decode cX10_price 26 = .ok (.aload_n 0, 1) := by decide +kernel
theorem dX10_price_27 : decode cX10_price 27 = .ok (.iload_n 1, 1) := by decide +kernel
theorem dX10_price_28 : decode cX10_price 28 = .ok (.aload_n 0, 1) := by decide +kernel
theorem dX10_price_29 : decode cX10_price 29 = .ok (.getfield 107, 3) := by decide +kernel
theorem dX10_price_32 : decode cX10_price 32 = .ok (.invokevirtual 134, 3) := by decide +kernel
theorem dX10_price_35 : decode cX10_price 35 = .ok (.ireturn, 1) := by decide +kernel
theorem dX10_wouldBuy_0 : decode cX10_wouldBuy 0 = .ok (.iload_n 2, 1) := by decide +kernel
theorem dX10_wouldBuy_1 : decode cX10_wouldBuy 1 = .ok (.iload_n 1, 1) := by decide +kernel
theorem dX10_wouldBuy_2 : decode cX10_wouldBuy 2 = .ok (.invokestatic 124, 3) := by decide +kernel
theorem dX10_wouldBuy_5 : decode cX10_wouldBuy 5 = .ok (.ifCond .ne 22, 3) := by decide +kernel
theorem dX10_wouldBuy_8 : decode cX10_wouldBuy 8 = .ok (.aload_n 0, 1) := by decide +kernel
theorem dX10_wouldBuy_9 : decode cX10_wouldBuy 9 = .ok (.iload_n 1, 1) := by decide +kernel
theorem dX10_wouldBuy_10 : decode cX10_wouldBuy 10 = .ok (.iload_n 2, 1) := by decide +kernel
theorem dX10_wouldBuy_11 : decode cX10_wouldBuy 11 = .ok (.invokevirtual 144, 3) := by decide +kernel
theorem dX10_wouldBuy_14 : decode cX10_wouldBuy 14 = .ok (.aload_n 0, 1) := by decide +kernel
theorem dX10_wouldBuy_15 : decode cX10_wouldBuy 15 = .ok (.iload_n 1, 1) := by decide +kernel
theorem dX10_wouldBuy_16 : decode cX10_wouldBuy 16 = .ok (.iload_n 2, 1) := by decide +kernel
theorem dX10_wouldBuy_17 : decode cX10_wouldBuy 17 = .ok (.invokevirtual 134, 3) := by decide +kernel
theorem dX10_wouldBuy_20 : decode cX10_wouldBuy 20 = .ok (.if_icmp .le 7, 3) := by decide +kernel
theorem dX10_wouldBuy_23 : decode cX10_wouldBuy 23 = .ok (.iconst 1, 1) := by decide +kernel
theorem dX10_wouldBuy_24 : decode cX10_wouldBuy 24 = .ok (.goto 4, 3) := by decide +kernel
theorem dX10_wouldBuy_27 : decode cX10_wouldBuy 27 = .ok (.iconst 0, 1) := by decide +kernel
theorem dX10_wouldBuy_28 : decode cX10_wouldBuy 28 = .ok (.ireturn, 1) := by decide +kernel
theorem dX10_wouldThrow_0 : decode cX10_wouldThrow 0 = .ok (.iload_n 2, 1) := by decide +kernel
theorem dX10_wouldThrow_1 : decode cX10_wouldThrow 1 = .ok (.iload_n 1, 1) := by decide +kernel
theorem dX10_wouldThrow_2 : decode cX10_wouldThrow 2 = .ok (.invokestatic 124, 3) := by decide +kernel
theorem dX10_wouldThrow_5 : decode cX10_wouldThrow 5 = .ok (.ifCond .eq 16, 3) := by decide +kernel
theorem dX10_wouldThrow_8 : decode cX10_wouldThrow 8 = .ok (.aload_n 0, 1) := by decide +kernel
theorem dX10_wouldThrow_9 : decode cX10_wouldThrow 9 = .ok (.iload_n 1, 1) := by decide +kernel
theorem dX10_wouldThrow_10 : decode cX10_wouldThrow 10 = .ok (.iload_n 2, 1) := by decide +kernel
theorem dX10_wouldThrow_11 : decode cX10_wouldThrow 11 = .ok (.invokevirtual 144, 3) := by decide +kernel
theorem dX10_wouldThrow_14 : decode cX10_wouldThrow 14 = .ok (.ifCond .ge 7, 3) := by decide +kernel
theorem dX10_wouldThrow_17 : decode cX10_wouldThrow 17 = .ok (.iconst 1, 1) := by decide +kernel
theorem dX10_wouldThrow_18 : decode cX10_wouldThrow 18 = .ok (.goto 4, 3) := by decide +kernel
theorem dX10_wouldThrow_21 : decode cX10_wouldThrow 21 = .ok (.iconst 0, 1) := by decide +kernel
theorem dX10_wouldThrow_22 : decode cX10_wouldThrow 22 = .ok (.ireturn, 1) := by decide +kernel
theorem dX10_would_0 : decode cX10_would 0 = .ok (.iload_n 1, 1) := by decide +kernel
theorem dX10_would_1 : decode cX10_would 1 = .ok (.i2l, 1) := by decide +kernel
theorem dX10_would_2 : decode cX10_would 2 = .ok (.lconst 0, 1) := by decide +kernel
theorem dX10_would_3 : decode cX10_would 3 = .ok (.lconst 1, 1) := by decide +kernel
theorem dX10_would_4 : decode cX10_would 4 = .ok (.invokestatic 57, 3) := by decide +kernel
theorem dX10_would_7 : decode cX10_would 7 = .ok (.ifCond .ne 5, 3) := by decide +kernel
theorem dX10_would_10 : decode cX10_would 10 = .ok (.iconst (-1), 1) := by decide +kernel
theorem dX10_would_11 : decode cX10_would 11 = .ok (.ireturn, 1) := by decide +kernel
theorem dX10_would_12 : decode cX10_would 12 = .ok (.iconst 0, 1) := by decide +kernel
theorem dX10_would_13 : decode cX10_would 13 = .ok (.istore_n 2, 1) := by decide +kernel
theorem dX10_would_14 : decode cX10_would 14 = .ok (.iconst 0, 1) := by decide +kernel
theorem dX10_would_15 : decode cX10_would 15 = .ok (.istore_n 3, 1) := by decide +kernel
theorem dX10_would_16 : decode cX10_would 16 = .ok (.iload_n 3, 1) := by decide +kernel
theorem dX10_would_17 : decode cX10_would 17 = .ok (.aload_n 0, 1) := by decide +kernel
theorem dX10_would_18 : decode cX10_would 18 = .ok (.getfield 13, 3) := by decide +kernel
theorem dX10_would_21 : decode cX10_would 21 = .ok (.if_icmp .ge 50, 3) := by decide +kernel
theorem dX10_would_24 : decode cX10_would 24 = .ok (.iload_n 2, 1) := by decide +kernel
theorem dX10_would_25 : decode cX10_would 25 = .ok (.iload_n 1, 1) := by decide +kernel
theorem dX10_would_26 : decode cX10_would 26 = .ok (.ifCond .ne 18, 3) := by decide +kernel
theorem dX10_would_29 : decode cX10_would 29 = .ok (.aload_n 0, 1) := by decide +kernel
theorem dX10_would_30 : decode cX10_would 30 = .ok (.iload_n 3, 1) := by decide +kernel
theorem dX10_would_31 : decode cX10_would 31 = .ok (.aload_n 0, 1) := by decide +kernel
theorem dX10_would_32 : decode cX10_would 32 = .ok (.getfield 107, 3) := by decide +kernel
theorem dX10_would_35 : decode cX10_would 35 = .ok (.invokevirtual 150, 3) := by decide +kernel
theorem dX10_would_38 : decode cX10_would 38 = .ok (.ifCond .eq 24, 3) := by decide +kernel
theorem dX10_would_41 : decode cX10_would 41 = .ok (.goto 15, 3) := by decide +kernel
theorem dX10_would_44 : decode cX10_would 44 = .ok (.aload_n 0, 1) := by decide +kernel
theorem dX10_would_45 : decode cX10_would 45 = .ok (.iload_n 3, 1) := by decide +kernel
theorem dX10_would_46 : decode cX10_would 46 = .ok (.aload_n 0, 1) := by decide +kernel
theorem dX10_would_47 : decode cX10_would 47 = .ok (.getfield 107, 3) := by decide +kernel
theorem dX10_would_50 : decode cX10_would 50 = .ok (.invokevirtual 153, 3) := by decide +kernel
theorem dX10_would_53 : decode cX10_would 53 = .ok (.ifCond .eq 9, 3) := by decide +kernel
theorem dX10_would_56 : decode cX10_would 56 = .ok (.iconst 1, 1) := by decide +kernel
theorem dX10_would_57 : decode cX10_would 57 = .ok (.iload_n 3, 1) := by decide +kernel
theorem dX10_would_58 : decode cX10_would 58 = .ok (.ishl, 1) := by decide +kernel
theorem dX10_would_59 : decode cX10_would 59 = .ok (.goto 4, 3) := by decide +kernel
theorem dX10_would_62 : decode cX10_would 62 = .ok (.iconst 0, 1) := by decide +kernel
theorem dX10_would_63 : decode cX10_would 63 = .ok (.ior, 1) := by decide +kernel
theorem dX10_would_64 : decode cX10_would 64 = .ok (.istore_n 2, 1) := by decide +kernel
theorem dX10_would_65 : decode cX10_would 65 = .ok (.iinc 3 1, 3) := by decide +kernel
theorem dX10_would_68 : decode cX10_would 68 = .ok (.goto (-52), 3) := by decide +kernel
theorem dX10_would_71 : decode cX10_would 71 = .ok (.iload_n 2, 1) := by decide +kernel
theorem dX10_would_72 : decode cX10_would 72 = .ok (.ireturn, 1) := by decide +kernel
theorem dX10_round_0 : decode cX10_round 0 = .ok (.iload_n 1, 1) := by decide +kernel
theorem dX10_round_1 : decode cX10_round 1 = .ok (.istore_n 3, 1) := by decide +kernel
theorem dX10_round_2 : decode cX10_round 2 = .ok (.iconst 0, 1) := by decide +kernel
theorem dX10_round_3 : decode cX10_round 3 = .ok (.istore 4, 2) := by decide +kernel
theorem dX10_round_5 : decode cX10_round 5 = .ok (.iload 4, 2) := by decide +kernel
theorem dX10_round_7 : decode cX10_round 7 = .ok (.aload_n 0, 1) := by decide +kernel
theorem dX10_round_8 : decode cX10_round 8 = .ok (.getfield 13, 3) := by decide +kernel
theorem dX10_round_11 : decode cX10_round 11 = .ok (.if_icmp .ge 53, 3) := by decide +kernel
theorem dX10_round_14 : decode cX10_round 14 = .ok (.iload_n 2, 1) := by decide +kernel
theorem dX10_round_15 : decode cX10_round 15 = .ok (.ifCond .eq 7, 3) := by decide +kernel
theorem dX10_round_18 : decode cX10_round 18 = .ok (.iload_n 3, 1) := by decide +kernel
theorem dX10_round_19 : decode cX10_round 19 = .ok (.goto 4, 3) := by decide +kernel
theorem dX10_round_22 : decode cX10_round 22 = .ok (.iload_n 1, 1) := by decide +kernel
theorem dX10_round_23 : decode cX10_round 23 = .ok (.istore 5, 2) := by decide +kernel
theorem dX10_round_25 : decode cX10_round 25 = .ok (.iload_n 3, 1) := by decide +kernel
theorem dX10_round_26 : decode cX10_round 26 = .ok (.aload_n 0, 1) := by decide +kernel
theorem dX10_round_27 : decode cX10_round 27 = .ok (.iload 4, 2) := by decide +kernel
theorem dX10_round_29 : decode cX10_round 29 = .ok (.iload 5, 2) := by decide +kernel
theorem dX10_round_31 : decode cX10_round 31 = .ok (.invokevirtual 150, 3) := by decide +kernel
theorem dX10_round_34 : decode cX10_round 34 = .ok (.ifCond .ne 14, 3) := by decide +kernel
theorem dX10_round_37 : decode cX10_round 37 = .ok (.aload_n 0, 1) := by decide +kernel
theorem dX10_round_38 : decode cX10_round 38 = .ok (.iload 4, 2) := by decide +kernel
theorem dX10_round_40 : decode cX10_round 40 = .ok (.iload 5, 2) := by decide +kernel
theorem dX10_round_42 : decode cX10_round 42 = .ok (.invokevirtual 153, 3) := by decide +kernel
theorem dX10_round_45 : decode cX10_round 45 = .ok (.ifCond .eq 10, 3) := by decide +kernel
theorem dX10_round_48 : decode cX10_round 48 = .ok (.iconst 1, 1) := by decide +kernel
theorem dX10_round_49 : decode cX10_round 49 = .ok (.iload 4, 2) := by decide +kernel
theorem dX10_round_51 : decode cX10_round 51 = .ok (.ishl, 1) := by decide +kernel
theorem dX10_round_52 : decode cX10_round 52 = .ok (.goto 4, 3) := by decide +kernel
theorem dX10_round_55 : decode cX10_round 55 = .ok (.iconst 0, 1) := by decide +kernel
theorem dX10_round_56 : decode cX10_round 56 = .ok (.ixor, 1) := by decide +kernel
theorem dX10_round_57 : decode cX10_round 57 = .ok (.istore_n 3, 1) := by decide +kernel
theorem dX10_round_58 : decode cX10_round 58 = .ok (.iinc 4 1, 3) := by decide +kernel
theorem dX10_round_61 : decode cX10_round 61 = .ok (.goto (-56), 3) := by decide +kernel
theorem dX10_round_64 : decode cX10_round 64 = .ok (.iload_n 3, 1) := by decide +kernel
theorem dX10_round_65 : decode cX10_round 65 = .ok (.ireturn, 1) := by decide +kernel
theorem dX10_tells_0 : decode cX10_tells 0 = .ok (.iconst 0, 1) := by decide +kernel
theorem dX10_tells_1 : decode cX10_tells 1 = .ok (.istore_n 2, 1) := by decide +kernel
theorem dX10_tells_2 : decode cX10_tells 2 = .ok (.iload_n 2, 1) := by decide +kernel
theorem dX10_tells_3 : decode cX10_tells 3 = .ok (.aload_n 0, 1) := by decide +kernel
theorem dX10_tells_4 : decode cX10_tells 4 = .ok (.invokevirtual 141, 3) := by decide +kernel
theorem dX10_tells_7 : decode cX10_tells 7 = .ok (.if_icmp .gt 21, 3) := by decide +kernel
theorem dX10_tells_10 : decode cX10_tells 10 = .ok (.aload_n 0, 1) := by decide +kernel
theorem dX10_tells_11 : decode cX10_tells 11 = .ok (.getfield 54, 3) := by decide +kernel
theorem dX10_tells_14 : decode cX10_tells 14 = .ok (.iload_n 2, 1) := by decide +kernel
theorem dX10_tells_15 : decode cX10_tells 15 = .ok (.aload_n 0, 1) := by decide +kernel
theorem dX10_tells_16 : decode cX10_tells 16 = .ok (.iload_n 2, 1) := by decide +kernel
theorem dX10_tells_17 : decode cX10_tells 17 = .ok (.iload_n 1, 1) := by decide +kernel
theorem dX10_tells_18 : decode cX10_tells 18 = .ok (.invokevirtual 156, 3) := by decide +kernel
theorem dX10_tells_21 : decode cX10_tells 21 = .ok (.iastore, 1) := by decide +kernel
theorem dX10_tells_22 : decode cX10_tells 22 = .ok (.iinc 2 1, 3) := by decide +kernel
theorem dX10_tells_25 : decode cX10_tells 25 = .ok (.goto (-23), 3) := by decide +kernel
theorem dX10_tells_28 : decode cX10_tells 28 = .ok (.return_, 1) := by decide +kernel
theorem dX10_behind_0 : decode cX10_behind 0 = .ok (.iload_n 1, 1) := by decide +kernel
theorem dX10_behind_1 : decode cX10_behind 1 = .ok (.i2l, 1) := by decide +kernel
theorem dX10_behind_2 : decode cX10_behind 2 = .ok (.lconst 0, 1) := by decide +kernel
theorem dX10_behind_3 : decode cX10_behind 3 = .ok (.ldc2_w 160, 3) := by decide +kernel
theorem dX10_behind_6 : decode cX10_behind 6 = .ok (.invokestatic 57, 3) := by decide +kernel
theorem dX10_behind_9 : decode cX10_behind 9 = .ok (.ifCond .ne 5, 3) := by decide +kernel
theorem dX10_behind_12 : decode cX10_behind 12 = .ok (.iconst (-1), 1) := by decide +kernel
theorem dX10_behind_13 : decode cX10_behind 13 = .ok (.ireturn, 1) := by decide +kernel
theorem dX10_behind_14 : decode cX10_behind 14 = .ok (.aload_n 0, 1) := by decide +kernel
theorem dX10_behind_15 : decode cX10_behind 15 = .ok (.getfield 107, 3) := by decide +kernel
theorem dX10_behind_18 : decode cX10_behind 18 = .ok (.istore_n 3, 1) := by decide +kernel
theorem dX10_behind_19 : decode cX10_behind 19 = .ok (.iconst 0, 1) := by decide +kernel
theorem dX10_behind_20 : decode cX10_behind 20 = .ok (.istore 4, 2) := by decide +kernel
theorem dX10_behind_22 : decode cX10_behind 22 = .ok (.iload 4, 2) := by decide +kernel
theorem dX10_behind_24 : decode cX10_behind 24 = .ok (.iload_n 1, 1) := by decide +kernel
theorem dX10_behind_25 : decode cX10_behind 25 = .ok (.if_icmp .ge 16, 3) := by decide +kernel
theorem dX10_behind_28 : decode cX10_behind 28 = .ok (.aload_n 0, 1) := by decide +kernel
theorem dX10_behind_29 : decode cX10_behind 29 = .ok (.iload_n 3, 1) := by decide +kernel
theorem dX10_behind_30 : decode cX10_behind 30 = .ok (.iload_n 2, 1) := by decide +kernel
theorem dX10_behind_31 : decode cX10_behind 31 = .ok (.invokevirtual 156, 3) := by decide +kernel
theorem dX10_behind_34 : decode cX10_behind 34 = .ok (.istore_n 3, 1) := by decide +kernel
theorem dX10_behind_35 : decode cX10_behind 35 = .ok (.iinc 4 1, 3) := by decide +kernel
theorem dX10_behind_38 : decode cX10_behind 38 = .ok (.goto (-16), 3) := by decide +kernel
theorem dX10_behind_41 : decode cX10_behind 41 = .ok (.iload_n 3, 1) := by decide +kernel
theorem dX10_behind_42 : decode cX10_behind 42 = .ok (.ireturn, 1) := by decide +kernel
theorem dX10_rest_0 : decode cX10_rest 0 = .ok (.iload_n 2, 1) := by decide +kernel
theorem dX10_rest_1 : decode cX10_rest 1 = .ok (.i2l, 1) := by decide +kernel
theorem dX10_rest_2 : decode cX10_rest 2 = .ok (.lconst 0, 1) := by decide +kernel
theorem dX10_rest_3 : decode cX10_rest 3 = .ok (.lconst 1, 1) := by decide +kernel
theorem dX10_rest_4 : decode cX10_rest 4 = .ok (.invokestatic 57, 3) := by decide +kernel
theorem dX10_rest_7 : decode cX10_rest 7 = .ok (.ifCond .ne 5, 3) := by decide +kernel
theorem dX10_rest_10 : decode cX10_rest 10 = .ok (.iconst (-1), 1) := by decide +kernel
theorem dX10_rest_11 : decode cX10_rest 11 = .ok (.ireturn, 1) := by decide +kernel
theorem dX10_rest_12 : decode cX10_rest 12 = .ok (.aload_n 0, 1) := by decide +kernel
theorem dX10_rest_13 : decode cX10_rest 13 = .ok (.iload_n 1, 1) := by decide +kernel
theorem dX10_rest_14 : decode cX10_rest 14 = .ok (.invokevirtual 162, 3) := by decide +kernel
theorem dX10_rest_17 : decode cX10_rest 17 = .ok (.aload_n 0, 1) := by decide +kernel
theorem dX10_rest_18 : decode cX10_rest 18 = .ok (.getfield 107, 3) := by decide +kernel
theorem dX10_rest_21 : decode cX10_rest 21 = .ok (.istore_n 3, 1) := by decide +kernel
theorem dX10_rest_22 : decode cX10_rest 22 = .ok (.iconst 0, 1) := by decide +kernel
theorem dX10_rest_23 : decode cX10_rest 23 = .ok (.istore 4, 2) := by decide +kernel
theorem dX10_rest_25 : decode cX10_rest 25 = .ok (.aload_n 0, 1) := by decide +kernel
theorem dX10_rest_26 : decode cX10_rest 26 = .ok (.getfield 54, 3) := by decide +kernel
theorem dX10_rest_29 : decode cX10_rest 29 = .ok (.iload_n 3, 1) := by decide +kernel
theorem dX10_rest_30 : decode cX10_rest 30 = .ok (.iaload, 1) := by decide +kernel
theorem dX10_rest_31 : decode cX10_rest 31 = .ok (.iload_n 3, 1) := by decide +kernel
theorem dX10_rest_32 : decode cX10_rest 32 = .ok (.if_icmp .eq 24, 3) := by decide +kernel
theorem dX10_rest_35 : decode cX10_rest 35 = .ok (.iload 4, 2) := by decide +kernel
theorem dX10_rest_37 : decode cX10_rest 37 = .ok (.sipush 128, 3) := by decide +kernel
theorem dX10_rest_40 : decode cX10_rest 40 = .ok (.if_icmp .ge 16, 3) := by decide +kernel
theorem dX10_rest_43 : decode cX10_rest 43 = .ok (.aload_n 0, 1) := by decide +kernel
theorem dX10_rest_44 : decode cX10_rest 44 = .ok (.getfield 54, 3) := by decide +kernel
theorem dX10_rest_47 : decode cX10_rest 47 = .ok (.iload_n 3, 1) := by decide +kernel
theorem dX10_rest_48 : decode cX10_rest 48 = .ok (.iaload, 1) := by decide +kernel
theorem dX10_rest_49 : decode cX10_rest 49 = .ok (.istore_n 3, 1) := by decide +kernel
theorem dX10_rest_50 : decode cX10_rest 50 = .ok (.iinc 4 1, 3) := by decide +kernel
theorem dX10_rest_53 : decode cX10_rest 53 = .ok (.goto (-28), 3) := by decide +kernel
theorem dX10_rest_56 : decode cX10_rest 56 = .ok (.iload_n 2, 1) := by decide +kernel
theorem dX10_rest_57 : decode cX10_rest 57 = .ok (.ifCond .ne 21, 3) := by decide +kernel
theorem dX10_rest_60 : decode cX10_rest 60 = .ok (.aload_n 0, 1) := by decide +kernel
theorem dX10_rest_61 : decode cX10_rest 61 = .ok (.getfield 54, 3) := by decide +kernel
theorem dX10_rest_64 : decode cX10_rest 64 = .ok (.iload_n 3, 1) := by decide +kernel
theorem dX10_rest_65 : decode cX10_rest 65 = .ok (.iaload, 1) := by decide +kernel
theorem dX10_rest_66 : decode cX10_rest 66 = .ok (.iload_n 3, 1) := by decide +kernel
theorem dX10_rest_67 : decode cX10_rest 67 = .ok (.if_icmp .ne 8, 3) := by decide +kernel
theorem dX10_rest_70 : decode cX10_rest 70 = .ok (.iload 4, 2) := by decide +kernel
theorem dX10_rest_72 : decode cX10_rest 72 = .ok (.goto 5, 3) := by decide +kernel
theorem dX10_rest_75 : decode cX10_rest 75 = .ok (.bipush (-4), 2) := by decide +kernel
theorem dX10_rest_77 : decode cX10_rest 77 = .ok (.ireturn, 1) := by decide +kernel
theorem dX10_rest_78 : decode cX10_rest 78 = .ok (.iconst 1, 1) := by decide +kernel
theorem dX10_rest_79 : decode cX10_rest 79 = .ok (.istore 5, 2) := by decide +kernel
theorem dX10_rest_81 : decode cX10_rest 81 = .ok (.aload_n 0, 1) := by decide +kernel
theorem dX10_rest_82 : decode cX10_rest 82 = .ok (.getfield 54, 3) := by decide +kernel
theorem dX10_rest_85 : decode cX10_rest 85 = .ok (.iload_n 3, 1) := by decide +kernel
theorem dX10_rest_86 : decode cX10_rest 86 = .ok (.iaload, 1) := by decide +kernel
theorem dX10_rest_87 : decode cX10_rest 87 = .ok (.istore 6, 2) := by decide +kernel
theorem dX10_rest_89 : decode cX10_rest 89 = .ok (.iload 6, 2) := by decide +kernel
theorem dX10_rest_91 : decode cX10_rest 91 = .ok (.iload_n 3, 1) := by decide +kernel
theorem dX10_rest_92 : decode cX10_rest 92 = .ok (.if_icmp .eq 18, 3) := by decide +kernel
theorem dX10_rest_95 : decode cX10_rest 95 = .ok (.iinc 5 1, 3) := by decide +kernel
theorem dX10_rest_98 : decode cX10_rest 98 = .ok (.aload_n 0, 1) := by decide +kernel
theorem dX10_rest_99 : decode cX10_rest 99 = .ok (.getfield 54, 3) := by decide +kernel
theorem dX10_rest_102 : decode cX10_rest 102 = .ok (.iload 6, 2) := by decide +kernel
theorem dX10_rest_104 : decode cX10_rest 104 = .ok (.iaload, 1) := by decide +kernel
theorem dX10_rest_105 : decode cX10_rest 105 = .ok (.istore 6, 2) := by decide +kernel
theorem dX10_rest_107 : decode cX10_rest 107 = .ok (.goto (-18), 3) := by decide +kernel
theorem dX10_rest_110 : decode cX10_rest 110 = .ok (.iload 5, 2) := by decide +kernel
theorem dX10_rest_112 : decode cX10_rest 112 = .ok (.ireturn, 1) := by decide +kernel
theorem dX10_rests_0 : decode cX10_rests 0 = .ok (.iload_n 1, 1) := by decide +kernel
theorem dX10_rests_1 : decode cX10_rests 1 = .ok (.iconst (-1), 1) := by decide +kernel
theorem dX10_rests_2 : decode cX10_rests 2 = .ok (.if_icmp .ge 5, 3) := by decide +kernel
theorem dX10_rests_5 : decode cX10_rests 5 = .ok (.iconst (-1), 1) := by decide +kernel
theorem dX10_rests_6 : decode cX10_rests 6 = .ok (.ireturn, 1) := by decide +kernel
theorem dX10_rests_7 : decode cX10_rests 7 = .ok (.aload_n 0, 1) := by decide +kernel
theorem dX10_rests_8 : decode cX10_rests 8 = .ok (.iconst 0, 1) := by decide +kernel
theorem dX10_rests_9 : decode cX10_rests 9 = .ok (.invokevirtual 162, 3) := by decide +kernel
theorem dX10_rests_12 : decode cX10_rests 12 = .ok (.iconst 0, 1) := by decide +kernel
theorem dX10_rests_13 : decode cX10_rests 13 = .ok (.istore_n 2, 1) := by decide +kernel
theorem dX10_rests_14 : decode cX10_rests 14 = .ok (.iconst 0, 1) := by decide +kernel
theorem dX10_rests_15 : decode cX10_rests 15 = .ok (.istore_n 3, 1) := by decide +kernel
theorem dX10_rests_16 : decode cX10_rests 16 = .ok (.iload_n 3, 1) := by decide +kernel
theorem dX10_rests_17 : decode cX10_rests 17 = .ok (.aload_n 0, 1) := by decide +kernel
theorem dX10_rests_18 : decode cX10_rests 18 = .ok (.invokevirtual 141, 3) := by decide +kernel
theorem dX10_rests_21 : decode cX10_rests 21 = .ok (.if_icmp .gt 29, 3) := by decide +kernel
theorem dX10_rests_24 : decode cX10_rests 24 = .ok (.aload_n 0, 1) := by decide +kernel
theorem dX10_rests_25 : decode cX10_rests 25 = .ok (.getfield 54, 3) := by decide +kernel
theorem dX10_rests_28 : decode cX10_rests 28 = .ok (.iload_n 3, 1) := by decide +kernel
theorem dX10_rests_29 : decode cX10_rests 29 = .ok (.iaload, 1) := by decide +kernel
theorem dX10_rests_30 : decode cX10_rests 30 = .ok (.iload_n 3, 1) := by decide +kernel
theorem dX10_rests_31 : decode cX10_rests 31 = .ok (.if_icmp .ne 13, 3) := by decide +kernel
theorem dX10_rests_34 : decode cX10_rests 34 = .ok (.iload_n 2, 1) := by decide +kernel
theorem dX10_rests_35 : decode cX10_rests 35 = .ok (.iload_n 1, 1) := by decide +kernel
theorem dX10_rests_36 : decode cX10_rests 36 = .ok (.if_icmp .ne 5, 3) := by decide +kernel
theorem dX10_rests_39 : decode cX10_rests 39 = .ok (.iload_n 3, 1) := by decide +kernel
theorem dX10_rests_40 : decode cX10_rests 40 = .ok (.ireturn, 1) := by decide +kernel
theorem dX10_rests_41 : decode cX10_rests 41 = .ok (.iinc 2 1, 3) := by decide +kernel
theorem dX10_rests_44 : decode cX10_rests 44 = .ok (.iinc 3 1, 3) := by decide +kernel
theorem dX10_rests_47 : decode cX10_rests 47 = .ok (.goto (-31), 3) := by decide +kernel
theorem dX10_rests_50 : decode cX10_rests 50 = .ok (.iload_n 1, 1) := by decide +kernel
theorem dX10_rests_51 : decode cX10_rests 51 = .ok (.ifCond .ge 7, 3) := by decide +kernel
theorem dX10_rests_54 : decode cX10_rests 54 = .ok (.iload_n 2, 1) := by decide +kernel
theorem dX10_rests_55 : decode cX10_rests 55 = .ok (.goto 5, 3) := by decide +kernel
theorem dX10_rests_58 : decode cX10_rests 58 = .ok (.bipush (-4), 2) := by decide +kernel
theorem dX10_rests_60 : decode cX10_rests 60 = .ok (.ireturn, 1) := by decide +kernel
theorem dX10_tip_0 : decode cX10_tip 0 = .ok (.iload_n 1, 1) := by decide +kernel
theorem dX10_tip_1 : decode cX10_tip 1 = .ok (.i2l, 1) := by decide +kernel
theorem dX10_tip_2 : decode cX10_tip 2 = .ok (.lconst 0, 1) := by decide +kernel
theorem dX10_tip_3 : decode cX10_tip 3 = .ok (.aload_n 0, 1) := by decide +kernel
theorem dX10_tip_4 : decode cX10_tip 4 = .ok (.invokevirtual 141, 3) := by decide +kernel
theorem dX10_tip_7 : decode cX10_tip 7 = .ok (.i2l, 1) := by decide +kernel
theorem dX10_tip_8 : decode cX10_tip 8 = .ok (.invokestatic 57, 3) := by decide +kernel
theorem dX10_tip_11 : decode cX10_tip 11 = .ok (.ifCond .eq 13, 3) := by decide +kernel
theorem dX10_tip_14 : decode cX10_tip 14 = .ok (.iload_n 3, 1) := by decide +kernel
theorem dX10_tip_15 : decode cX10_tip 15 = .ok (.i2l, 1) := by decide +kernel
theorem dX10_tip_16 : decode cX10_tip 16 = .ok (.lconst 0, 1) := by decide +kernel
theorem dX10_tip_17 : decode cX10_tip 17 = .ok (.lconst 1, 1) := by decide +kernel
theorem dX10_tip_18 : decode cX10_tip 18 = .ok (.invokestatic 57, 3) := by decide +kernel
theorem dX10_tip_21 : decode cX10_tip 21 = .ok (.ifCond .ne 5, 3) := by decide +kernel
theorem dX10_tip_24 : decode cX10_tip 24 = .ok (.iconst (-1), 1) := by decide +kernel
theorem dX10_tip_25 : decode cX10_tip 25 = .ok (.ireturn, 1) := by decide +kernel
theorem dX10_tip_26 : decode cX10_tip 26 = .ok (.aload_n 0, 1) := by decide +kernel
theorem dX10_tip_27 : decode cX10_tip 27 = .ok (.iload_n 2, 1) := by decide +kernel
theorem dX10_tip_28 : decode cX10_tip 28 = .ok (.invokevirtual 162, 3) := by decide +kernel
theorem dX10_tip_31 : decode cX10_tip 31 = .ok (.bipush (-4), 2) := by decide +kernel
theorem dX10_tip_33 : decode cX10_tip 33 = .ok (.istore 4, 2) := by decide +kernel
theorem dX10_tip_35 : decode cX10_tip 35 = .ok (.iconst 0, 1) := by decide +kernel
theorem dX10_tip_36 : decode cX10_tip 36 = .ok (.istore 5, 2) := by decide +kernel
theorem dX10_tip_38 : decode cX10_tip 38 = .ok (.iload 5, 2) := by decide +kernel
theorem dX10_tip_40 : decode cX10_tip 40 = .ok (.aload_n 0, 1) := by decide +kernel
theorem dX10_tip_41 : decode cX10_tip 41 = .ok (.invokevirtual 141, 3) := by decide +kernel
theorem dX10_tip_44 : decode cX10_tip 44 = .ok (.if_icmp .gt 101, 3) := by decide +kernel
theorem dX10_tip_47 : decode cX10_tip 47 = .ok (.aload_n 0, 1) := by decide +kernel
theorem dX10_tip_48 : decode cX10_tip 48 = .ok (.getfield 107, 3) := by decide +kernel
theorem dX10_tip_51 : decode cX10_tip 51 = .ok (.iload 5, 2) := by decide +kernel
theorem dX10_tip_53 : decode cX10_tip 53 = .ok (.ixor, 1) := by decide +kernel
theorem dX10_tip_54 : decode cX10_tip 54 = .ok (.istore 6, 2) := by decide +kernel
theorem dX10_tip_56 : decode cX10_tip 56 = .ok (.iconst 0, 1) := by decide +kernel
theorem dX10_tip_57 : decode cX10_tip 57 = .ok (.istore 7, 2) := by decide +kernel
theorem dX10_tip_59 : decode cX10_tip 59 = .ok (.iload 7, 2) := by decide +kernel
theorem dX10_tip_61 : decode cX10_tip 61 = .ok (.sipush 128, 3) := by decide +kernel
theorem dX10_tip_64 : decode cX10_tip 64 = .ok (.if_icmp .ge 18, 3) := by decide +kernel
theorem dX10_tip_67 : decode cX10_tip 67 = .ok (.aload_n 0, 1) := by decide +kernel
theorem dX10_tip_68 : decode cX10_tip 68 = .ok (.getfield 54, 3) := by decide +kernel
theorem dX10_tip_71 : decode cX10_tip 71 = .ok (.iload 6, 2) := by decide +kernel
theorem dX10_tip_73 : decode cX10_tip 73 = .ok (.iaload, 1) := by decide +kernel
theorem dX10_tip_74 : decode cX10_tip 74 = .ok (.istore 6, 2) := by decide +kernel
theorem dX10_tip_76 : decode cX10_tip 76 = .ok (.iinc 7 1, 3) := by decide +kernel
theorem dX10_tip_79 : decode cX10_tip 79 = .ok (.goto (-20), 3) := by decide +kernel
theorem dX10_tip_82 : decode cX10_tip 82 = .ok (.iload 6, 2) := by decide +kernel
theorem dX10_tip_84 : decode cX10_tip 84 = .ok (.iload_n 1, 1) := by decide +kernel
theorem dX10_tip_85 : decode cX10_tip 85 = .ok (.if_icmp .ne 17, 3) := by decide +kernel
theorem dX10_tip_88 : decode cX10_tip 88 = .ok (.aload_n 0, 1) := by decide +kernel
theorem dX10_tip_89 : decode cX10_tip 89 = .ok (.getfield 54, 3) := by decide +kernel
theorem dX10_tip_92 : decode cX10_tip 92 = .ok (.iload_n 1, 1) := by decide +kernel
theorem dX10_tip_93 : decode cX10_tip 93 = .ok (.iaload, 1) := by decide +kernel
theorem dX10_tip_94 : decode cX10_tip 94 = .ok (.iload_n 1, 1) := by decide +kernel
theorem dX10_tip_95 : decode cX10_tip 95 = .ok (.if_icmp .ne 7, 3) := by decide +kernel
theorem dX10_tip_98 : decode cX10_tip 98 = .ok (.iconst 1, 1) := by decide +kernel
theorem dX10_tip_99 : decode cX10_tip 99 = .ok (.goto 4, 3) := by decide +kernel
theorem dX10_tip_102 : decode cX10_tip 102 = .ok (.iconst 0, 1) := by decide +kernel
theorem dX10_tip_103 : decode cX10_tip 103 = .ok (.istore 7, 2) := by decide +kernel
theorem dX10_tip_105 : decode cX10_tip 105 = .ok (.iload 7, 2) := by decide +kernel
theorem dX10_tip_107 : decode cX10_tip 107 = .ok (.ifCond .eq 28, 3) := by decide +kernel
theorem dX10_tip_110 : decode cX10_tip 110 = .ok (.iload 4, 2) := by decide +kernel
theorem dX10_tip_112 : decode cX10_tip 112 = .ok (.bipush (-4), 2) := by decide +kernel
theorem dX10_tip_114 : decode cX10_tip 114 = .ok (.if_icmp .eq 16, 3) := by decide +kernel
theorem dX10_tip_117 : decode cX10_tip 117 = .ok (.iload 5, 2) := by decide +kernel
theorem dX10_tip_119 : decode cX10_tip 119 = .ok (.invokestatic 128, 3) := by decide +kernel
theorem dX10_tip_122 : decode cX10_tip 122 = .ok (.iload 4, 2) := by decide +kernel
theorem dX10_tip_124 : decode cX10_tip 124 = .ok (.invokestatic 128, 3) := by decide +kernel
theorem dX10_tip_127 : decode cX10_tip 127 = .ok (.if_icmp .ge 8, 3) := by decide +kernel
theorem dX10_tip_130 : decode cX10_tip 130 = .ok (.iload 5, 2) := by decide +kernel
theorem dX10_tip_132 : decode cX10_tip 132 = .ok (.goto 5, 3) := by decide +kernel
theorem dX10_tip_135 : decode cX10_tip 135 = .ok (.iload 4, 2) := by decide +kernel
theorem dX10_tip_137 : decode cX10_tip 137 = .ok (.istore 4, 2) := by decide +kernel
theorem dX10_tip_139 : decode cX10_tip 139 = .ok (.iinc 5 1, 3) := by decide +kernel
theorem dX10_tip_142 : decode cX10_tip 142 = .ok (.goto (-104), 3) := by decide +kernel
theorem dX10_tip_145 : decode cX10_tip 145 = .ok (.iload 4, 2) := by decide +kernel
theorem dX10_tip_147 : decode cX10_tip 147 = .ok (.bipush (-4), 2) := by decide +kernel
theorem dX10_tip_149 : decode cX10_tip 149 = .ok (.if_icmp .eq 8, 3) := by decide +kernel
theorem dX10_tip_152 : decode cX10_tip 152 = .ok (.iload_n 3, 1) := by decide +kernel
theorem dX10_tip_153 : decode cX10_tip 153 = .ok (.iconst 1, 1) := by decide +kernel
theorem dX10_tip_154 : decode cX10_tip 154 = .ok (.if_icmp .ne 8, 3) := by decide +kernel
theorem dX10_tip_157 : decode cX10_tip 157 = .ok (.iload 4, 2) := by decide +kernel
theorem dX10_tip_159 : decode cX10_tip 159 = .ok (.goto 8, 3) := by decide +kernel
theorem dX10_tip_162 : decode cX10_tip 162 = .ok (.iload 4, 2) := by decide +kernel
theorem dX10_tip_164 : decode cX10_tip 164 = .ok (.invokestatic 128, 3) := by decide +kernel
theorem dX10_tip_167 : decode cX10_tip 167 = .ok (.ireturn, 1) := by decide +kernel
theorem dX10_place_0 : decode cX10_place 0 = .ok (.aload_n 0, 1) := by decide +kernel
theorem dX10_place_1 : decode cX10_place 1 = .ok (.iload_n 1, 1) := by decide +kernel
theorem dX10_place_2 : decode cX10_place 2 = .ok (.invokevirtual 119, 3) := by decide +kernel
theorem dX10_place_5 : decode cX10_place 5 = .ok (.ifCond .eq 13, 3) := by decide +kernel
theorem dX10_place_8 : decode cX10_place 8 = .ok (.iload_n 2, 1) := by decide +kernel
theorem dX10_place_9 : decode cX10_place 9 = .ok (.i2l, 1) := by decide +kernel
theorem dX10_place_10 : decode cX10_place 10 = .ok (.lconst 0, 1) := by decide +kernel
theorem dX10_place_11 : decode cX10_place 11 = .ok (.lconst 1, 1) := by decide +kernel
theorem dX10_place_12 : decode cX10_place 12 = .ok (.invokestatic 57, 3) := by decide +kernel
theorem dX10_place_15 : decode cX10_place 15 = .ok (.ifCond .ne 5, 3) := by decide +kernel
theorem dX10_place_18 : decode cX10_place 18 = .ok (.iconst (-1), 1) := by decide +kernel
theorem dX10_place_19 : decode cX10_place 19 = .ok (.ireturn, 1) := by decide +kernel
theorem dX10_place_20 : decode cX10_place 20 = .ok (.aload_n 0, 1) := by decide +kernel
theorem dX10_place_21 : decode cX10_place 21 = .ok (.getfield 107, 3) := by decide +kernel
theorem dX10_place_24 : decode cX10_place 24 = .ok (.iload_n 1, 1) := by decide +kernel
theorem dX10_place_25 : decode cX10_place 25 = .ok (.invokestatic 124, 3) := by decide +kernel
theorem dX10_place_28 : decode cX10_place 28 = .ok (.ifCond .eq 6, 3) := by decide +kernel
theorem dX10_place_31 : decode cX10_place 31 = .ok (.bipush (-2), 2) := by decide +kernel
theorem dX10_place_33 : decode cX10_place 33 = .ok (.ireturn, 1) := by decide +kernel
theorem dX10_place_34 : decode cX10_place 34 = .ok (.aload_n 0, 1) := by decide +kernel
theorem dX10_place_35 : decode cX10_place 35 = .ok (.getfield 13, 3) := by decide +kernel
theorem dX10_place_38 : decode cX10_place 38 = .ok (.iconst 1, 1) := by decide +kernel
theorem dX10_place_39 : decode cX10_place 39 = .ok (.isub, 1) := by decide +kernel
theorem dX10_place_40 : decode cX10_place 40 = .ok (.aload_n 0, 1) := by decide +kernel
theorem dX10_place_41 : decode cX10_place 41 = .ok (.getfield 107, 3) := by decide +kernel
theorem dX10_place_44 : decode cX10_place 44 = .ok (.invokestatic 128, 3) := by decide +kernel
theorem dX10_place_47 : decode cX10_place 47 = .ok (.isub, 1) := by decide +kernel
theorem dX10_place_48 : decode cX10_place 48 = .ok (.istore_n 3, 1) := by decide +kernel
theorem dX10_place_49 : decode cX10_place 49 = .ok (.bipush (-4), 2) := by decide +kernel
theorem dX10_place_51 : decode cX10_place 51 = .ok (.istore 4, 2) := by decide +kernel
theorem dX10_place_53 : decode cX10_place 53 = .ok (.iconst 0, 1) := by decide +kernel
theorem dX10_place_54 : decode cX10_place 54 = .ok (.istore 5, 2) := by decide +kernel
theorem dX10_place_56 : decode cX10_place 56 = .ok (.iconst 0, 1) := by decide +kernel
theorem dX10_place_57 : decode cX10_place 57 = .ok (.istore 6, 2) := by decide +kernel
theorem dX10_place_59 : decode cX10_place 59 = .ok (.iload 6, 2) := by decide +kernel
theorem dX10_place_61 : decode cX10_place 61 = .ok (.iload_n 3, 1) := by decide +kernel
theorem dX10_place_62 : decode cX10_place 62 = .ok (.if_icmp .gt 160, 3) := by decide +kernel
theorem dX10_place_65 : decode cX10_place 65 = .ok (.aload_n 0, 1) := by decide +kernel
theorem dX10_place_66 : decode cX10_place 66 = .ok (.getfield 107, 3) := by decide +kernel
theorem dX10_place_69 : decode cX10_place 69 = .ok (.istore 7, 2) := by decide +kernel
theorem dX10_place_71 : decode cX10_place 71 = .ok (.iconst 0, 1) := by decide +kernel
theorem dX10_place_72 : decode cX10_place 72 = .ok (.istore 8, 2) := by decide +kernel
theorem dX10_place_74 : decode cX10_place 74 = .ok (.iconst 0, 1) := by decide +kernel
theorem dX10_place_75 : decode cX10_place 75 = .ok (.istore 9, 2) := by decide +kernel
theorem dX10_place_77 : decode cX10_place 77 = .ok (.iconst 0, 1) := by decide +kernel
theorem dX10_place_78 : decode cX10_place 78 = .ok (.istore 10, 2) := by decide +kernel
theorem dX10_place_80 : decode cX10_place 80 = .ok (.iload 10, 2) := by decide +kernel
theorem dX10_place_82 : decode cX10_place 82 = .ok (.aload_n 0, 1) := by decide +kernel
theorem dX10_place_83 : decode cX10_place 83 = .ok (.getfield 13, 3) := by decide +kernel
theorem dX10_place_86 : decode cX10_place 86 = .ok (.if_icmp .gt 96, 3) := by decide +kernel
theorem dX10_place_89 : decode cX10_place 89 = .ok (.iload 8, 2) := by decide +kernel
theorem dX10_place_91 : decode cX10_place 91 = .ok (.iload 6, 2) := by decide +kernel
theorem dX10_place_93 : decode cX10_place 93 = .ok (.if_icmp .ne 29, 3) := by decide +kernel
theorem dX10_place_96 : decode cX10_place 96 = .ok (.iload 7, 2) := by decide +kernel
theorem dX10_place_98 : decode cX10_place 98 = .ok (.iload_n 1, 1) := by decide +kernel
theorem dX10_place_99 : decode cX10_place 99 = .ok (.invokestatic 124, 3) := by decide +kernel
theorem dX10_place_102 : decode cX10_place 102 = .ok (.ifCond .ne 20, 3) := by decide +kernel
theorem dX10_place_105 : decode cX10_place 105 = .ok (.aload_n 0, 1) := by decide +kernel
theorem dX10_place_106 : decode cX10_place 106 = .ok (.iload_n 1, 1) := by decide +kernel
theorem dX10_place_107 : decode cX10_place 107 = .ok (.iload 7, 2) := by decide +kernel
theorem dX10_place_109 : decode cX10_place 109 = .ok (.invokevirtual 134, 3) := by decide +kernel
theorem dX10_place_112 : decode cX10_place 112 = .ok (.istore 9, 2) := by decide +kernel
theorem dX10_place_114 : decode cX10_place 114 = .ok (.iload 7, 2) := by decide +kernel
theorem dX10_place_116 : decode cX10_place 116 = .ok (.iconst 1, 1) := by decide +kernel
theorem dX10_place_117 : decode cX10_place 117 = .ok (.iload_n 1, 1) := by decide +kernel
theorem dX10_place_118 : decode cX10_place 118 = .ok (.ishl, 1) := by decide +kernel
theorem dX10_place_119 : decode cX10_place 119 = .ok (.ior, 1) := by decide +kernel
theorem dX10_place_120 : decode cX10_place 120 = .ok (.istore 7, 2) := by decide +kernel
theorem dX10_place_122 : decode cX10_place 122 = .ok (.iload 10, 2) := by decide +kernel
theorem dX10_place_124 : decode cX10_place 124 = .ok (.aload_n 0, 1) := by decide +kernel
theorem dX10_place_125 : decode cX10_place 125 = .ok (.getfield 13, 3) := by decide +kernel
theorem dX10_place_128 : decode cX10_place 128 = .ok (.if_icmp .ge 48, 3) := by decide +kernel
theorem dX10_place_131 : decode cX10_place 131 = .ok (.iload 10, 2) := by decide +kernel
theorem dX10_place_133 : decode cX10_place 133 = .ok (.iload_n 1, 1) := by decide +kernel
theorem dX10_place_134 : decode cX10_place 134 = .ok (.if_icmp .eq 42, 3) := by decide +kernel
theorem dX10_place_137 : decode cX10_place 137 = .ok (.aload_n 0, 1) := by decide +kernel
theorem dX10_place_138 : decode cX10_place 138 = .ok (.getfield 107, 3) := by decide +kernel
theorem dX10_place_141 : decode cX10_place 141 = .ok (.iload 10, 2) := by decide +kernel
theorem dX10_place_143 : decode cX10_place 143 = .ok (.invokestatic 124, 3) := by decide +kernel
theorem dX10_place_146 : decode cX10_place 146 = .ok (.ifCond .ne 30, 3) := by decide +kernel
theorem dX10_place_149 : decode cX10_place 149 = .ok (.iload 7, 2) := by decide +kernel
theorem dX10_place_151 : decode cX10_place 151 = .ok (.aload_n 0, 1) := by decide +kernel
theorem dX10_place_152 : decode cX10_place 152 = .ok (.iload 10, 2) := by decide +kernel
theorem dX10_place_154 : decode cX10_place 154 = .ok (.iload 7, 2) := by decide +kernel
theorem dX10_place_156 : decode cX10_place 156 = .ok (.invokevirtual 150, 3) := by decide +kernel
theorem dX10_place_159 : decode cX10_place 159 = .ok (.ifCond .eq 10, 3) := by decide +kernel
theorem dX10_place_162 : decode cX10_place 162 = .ok (.iconst 1, 1) := by decide +kernel
theorem dX10_place_163 : decode cX10_place 163 = .ok (.iload 10, 2) := by decide +kernel
theorem dX10_place_165 : decode cX10_place 165 = .ok (.ishl, 1) := by decide +kernel
theorem dX10_place_166 : decode cX10_place 166 = .ok (.goto 4, 3) := by decide +kernel
theorem dX10_place_169 : decode cX10_place 169 = .ok (.iconst 0, 1) := by decide +kernel
theorem dX10_place_170 : decode cX10_place 170 = .ok (.ior, 1) := by decide +kernel
theorem dX10_place_171 : decode cX10_place 171 = .ok (.istore 7, 2) := by decide +kernel
theorem dX10_place_173 : decode cX10_place 173 = .ok (.iinc 8 1, 3) := by decide +kernel
theorem dX10_place_176 : decode cX10_place 176 = .ok (.iinc 10 1, 3) := by decide +kernel
theorem dX10_place_179 : decode cX10_place 179 = .ok (.goto (-99), 3) := by decide +kernel
theorem dX10_place_182 : decode cX10_place 182 = .ok (.aload_n 0, 1) := by decide +kernel
theorem dX10_place_183 : decode cX10_place 183 = .ok (.iload_n 1, 1) := by decide +kernel
theorem dX10_place_184 : decode cX10_place 184 = .ok (.iload 7, 2) := by decide +kernel
theorem dX10_place_186 : decode cX10_place 186 = .ok (.invokevirtual 144, 3) := by decide +kernel
theorem dX10_place_189 : decode cX10_place 189 = .ok (.iload 9, 2) := by decide +kernel
theorem dX10_place_191 : decode cX10_place 191 = .ok (.isub, 1) := by decide +kernel
theorem dX10_place_192 : decode cX10_place 192 = .ok (.istore 10, 2) := by decide +kernel
theorem dX10_place_194 : decode cX10_place 194 = .ok (.iload 4, 2) := by decide +kernel
theorem dX10_place_196 : decode cX10_place 196 = .ok (.bipush (-4), 2) := by decide +kernel
theorem dX10_place_198 : decode cX10_place 198 = .ok (.if_icmp .eq 10, 3) := by decide +kernel
theorem dX10_place_201 : decode cX10_place 201 = .ok (.iload 10, 2) := by decide +kernel
theorem dX10_place_203 : decode cX10_place 203 = .ok (.iload 5, 2) := by decide +kernel
theorem dX10_place_205 : decode cX10_place 205 = .ok (.if_icmp .le 11, 3) := by decide +kernel
theorem dX10_place_208 : decode cX10_place 208 = .ok (.iload 6, 2) := by decide +kernel
theorem dX10_place_210 : decode cX10_place 210 = .ok (.istore 4, 2) := by decide +kernel
theorem dX10_place_212 : decode cX10_place 212 = .ok (.iload 10, 2) := by decide +kernel
theorem dX10_place_214 : decode cX10_place 214 = .ok (.istore 5, 2) := by decide +kernel
theorem dX10_place_216 : decode cX10_place 216 = .ok (.iinc 6 1, 3) := by decide +kernel
theorem dX10_place_219 : decode cX10_place 219 = .ok (.goto (-160), 3) := by decide +kernel
theorem dX10_place_222 : decode cX10_place 222 = .ok (.iload_n 2, 1) := by decide +kernel
theorem dX10_place_223 : decode cX10_place 223 = .ok (.ifCond .ne 8, 3) := by decide +kernel
theorem dX10_place_226 : decode cX10_place 226 = .ok (.iload 4, 2) := by decide +kernel
theorem dX10_place_228 : decode cX10_place 228 = .ok (.goto 9, 3) := by decide +kernel
theorem dX10_place_231 : decode cX10_place 231 = .ok (.iload 5, 2) := by decide +kernel
theorem dX10_place_233 : decode cX10_place 233 = .ok (.sipush 1000, 3) := by decide +kernel
theorem dX10_place_236 : decode cX10_place 236 = .ok (.iadd, 1) := by decide +kernel
theorem dX10_place_237 : decode cX10_place 237 = .ok (.ireturn, 1) := by decide +kernel
theorem dX10_burn_0 : decode cX10_burn 0 = .ok (.aload_n 0, 1) := by decide +kernel
theorem dX10_burn_1 : decode cX10_burn 1 = .ok (.iload_n 1, 1) := by decide +kernel
theorem dX10_burn_2 : decode cX10_burn 2 = .ok (.invokevirtual 119, 3) := by decide +kernel
theorem dX10_burn_5 : decode cX10_burn 5 = .ok (.ifCond .ne 5, 3) := by decide +kernel
theorem dX10_burn_8 : decode cX10_burn 8 = .ok (.iconst (-1), 1) := by decide +kernel
theorem dX10_burn_9 : decode cX10_burn 9 = .ok (.ireturn, 1) := by decide +kernel
theorem dX10_burn_10 : decode cX10_burn 10 = .ok (.aload_n 0, 1) := by decide +kernel
theorem dX10_burn_11 : decode cX10_burn 11 = .ok (.getfield 107, 3) := by decide +kernel
theorem dX10_burn_14 : decode cX10_burn 14 = .ok (.iload_n 1, 1) := by decide +kernel
theorem dX10_burn_15 : decode cX10_burn 15 = .ok (.invokestatic 124, 3) := by decide +kernel
theorem dX10_burn_18 : decode cX10_burn 18 = .ok (.ifCond .eq 6, 3) := by decide +kernel
theorem dX10_burn_21 : decode cX10_burn 21 = .ok (.bipush (-2), 2) := by decide +kernel
theorem dX10_burn_23 : decode cX10_burn 23 = .ok (.ireturn, 1) := by decide +kernel
theorem dX10_burn_24 : decode cX10_burn 24 = .ok (.bipush (-4), 2) := by decide +kernel
theorem dX10_burn_26 : decode cX10_burn 26 = .ok (.istore_n 2, 1) := by decide +kernel
theorem dX10_burn_27 : decode cX10_burn 27 = .ok (.iconst 0, 1) := by decide +kernel
theorem dX10_burn_28 : decode cX10_burn 28 = .ok (.istore_n 3, 1) := by decide +kernel
theorem dX10_burn_29 : decode cX10_burn 29 = .ok (.iload_n 3, 1) := by decide +kernel
theorem dX10_burn_30 : decode cX10_burn 30 = .ok (.aload_n 0, 1) := by decide +kernel
theorem dX10_burn_31 : decode cX10_burn 31 = .ok (.invokevirtual 141, 3) := by decide +kernel
theorem dX10_burn_34 : decode cX10_burn 34 = .ok (.if_icmp .gt 71, 3) := by decide +kernel
theorem dX10_burn_37 : decode cX10_burn 37 = .ok (.iload_n 3, 1) := by decide +kernel
theorem dX10_burn_38 : decode cX10_burn 38 = .ok (.aload_n 0, 1) := by decide +kernel
theorem dX10_burn_39 : decode cX10_burn 39 = .ok (.getfield 107, 3) := by decide +kernel
theorem dX10_burn_42 : decode cX10_burn 42 = .ok (.iconst (-1), 1) := by decide +kernel
theorem dX10_burn_43 : decode cX10_burn 43 = .ok (.ixor, 1) := by decide +kernel
theorem dX10_burn_44 : decode cX10_burn 44 = .ok (.iand, 1) := by decide +kernel
theorem dX10_burn_45 : decode cX10_burn 45 = .ok (.ifCond .ne 23, 3) := by decide +kernel
theorem dX10_burn_48 : decode cX10_burn 48 = .ok (.aload_n 0, 1) := by decide +kernel
theorem dX10_burn_49 : decode cX10_burn 49 = .ok (.iload_n 1, 1) := by decide +kernel
theorem dX10_burn_50 : decode cX10_burn 50 = .ok (.aload_n 0, 1) := by decide +kernel
theorem dX10_burn_51 : decode cX10_burn 51 = .ok (.getfield 107, 3) := by decide +kernel
theorem dX10_burn_54 : decode cX10_burn 54 = .ok (.iload_n 3, 1) := by decide +kernel
theorem dX10_burn_55 : decode cX10_burn 55 = .ok (.iconst (-1), 1) := by decide +kernel
theorem dX10_burn_56 : decode cX10_burn 56 = .ok (.ixor, 1) := by decide +kernel
theorem dX10_burn_57 : decode cX10_burn 57 = .ok (.iand, 1) := by decide +kernel
theorem dX10_burn_58 : decode cX10_burn 58 = .ok (.invokevirtual 150, 3) := by decide +kernel
theorem dX10_burn_61 : decode cX10_burn 61 = .ok (.ifCond .eq 7, 3) := by decide +kernel
theorem dX10_burn_64 : decode cX10_burn 64 = .ok (.iconst 1, 1) := by decide +kernel
theorem dX10_burn_65 : decode cX10_burn 65 = .ok (.goto 4, 3) := by decide +kernel
theorem dX10_burn_68 : decode cX10_burn 68 = .ok (.iconst 0, 1) := by decide +kernel
theorem dX10_burn_69 : decode cX10_burn 69 = .ok (.istore 4, 2) := by decide +kernel
theorem dX10_burn_71 : decode cX10_burn 71 = .ok (.iload 4, 2) := by decide +kernel
theorem dX10_burn_73 : decode cX10_burn 73 = .ok (.ifCond .eq 24, 3) := by decide +kernel
theorem dX10_burn_76 : decode cX10_burn 76 = .ok (.iload_n 2, 1) := by decide +kernel
theorem dX10_burn_77 : decode cX10_burn 77 = .ok (.bipush (-4), 2) := by decide +kernel
theorem dX10_burn_79 : decode cX10_burn 79 = .ok (.if_icmp .eq 14, 3) := by decide +kernel
theorem dX10_burn_82 : decode cX10_burn 82 = .ok (.iload_n 3, 1) := by decide +kernel
theorem dX10_burn_83 : decode cX10_burn 83 = .ok (.invokestatic 128, 3) := by decide +kernel
theorem dX10_burn_86 : decode cX10_burn 86 = .ok (.iload_n 2, 1) := by decide +kernel
theorem dX10_burn_87 : decode cX10_burn 87 = .ok (.invokestatic 128, 3) := by decide +kernel
theorem dX10_burn_90 : decode cX10_burn 90 = .ok (.if_icmp .ge 7, 3) := by decide +kernel
theorem dX10_burn_93 : decode cX10_burn 93 = .ok (.iload_n 3, 1) := by decide +kernel
theorem dX10_burn_94 : decode cX10_burn 94 = .ok (.goto 4, 3) := by decide +kernel
theorem dX10_burn_97 : decode cX10_burn 97 = .ok (.iload_n 2, 1) := by decide +kernel
theorem dX10_burn_98 : decode cX10_burn 98 = .ok (.istore_n 2, 1) := by decide +kernel
theorem dX10_burn_99 : decode cX10_burn 99 = .ok (.iinc 3 1, 3) := by decide +kernel
theorem dX10_burn_102 : decode cX10_burn 102 = .ok (.goto (-73), 3) := by decide +kernel
theorem dX10_burn_105 : decode cX10_burn 105 = .ok (.iload_n 2, 1) := by decide +kernel
theorem dX10_burn_106 : decode cX10_burn 106 = .ok (.ireturn, 1) := by decide +kernel
theorem dX10_share_0 : decode cX10_share 0 = .ok (.bipush (-4), 2) := by decide +kernel
theorem dX10_share_2 : decode cX10_share 2 = .ok (.istore_n 1, 1) := by decide +kernel
theorem dX10_share_3 : decode cX10_share 3 = .ok (.iconst 0, 1) := by decide +kernel
theorem dX10_share_4 : decode cX10_share 4 = .ok (.istore_n 2, 1) := by decide +kernel
theorem dX10_share_5 : decode cX10_share 5 = .ok (.iconst 0, 1) := by decide +kernel
theorem dX10_share_6 : decode cX10_share 6 = .ok (.istore_n 3, 1) := by decide +kernel
theorem dX10_share_7 : decode cX10_share 7 = .ok (.iload_n 3, 1) := by decide +kernel
theorem dX10_share_8 : decode cX10_share 8 = .ok (.aload_n 0, 1) := by decide +kernel
theorem dX10_share_9 : decode cX10_share 9 = .ok (.getfield 13, 3) := by decide +kernel
theorem dX10_share_12 : decode cX10_share 12 = .ok (.if_icmp .ge 146, 3) := by decide +kernel
theorem dX10_share_15 : decode cX10_share 15 = .ok (.iload_n 3, 1) := by decide +kernel
theorem dX10_share_16 : decode cX10_share 16 = .ok (.iconst 1, 1) := by decide +kernel
theorem dX10_share_17 : decode cX10_share 17 = .ok (.iadd, 1) := by decide +kernel
theorem dX10_share_18 : decode cX10_share 18 = .ok (.istore 4, 2) := by decide +kernel
theorem dX10_share_20 : decode cX10_share 20 = .ok (.iload 4, 2) := by decide +kernel
theorem dX10_share_22 : decode cX10_share 22 = .ok (.aload_n 0, 1) := by decide +kernel
theorem dX10_share_23 : decode cX10_share 23 = .ok (.getfield 13, 3) := by decide +kernel
theorem dX10_share_26 : decode cX10_share 26 = .ok (.if_icmp .ge 126, 3) := by decide +kernel
theorem dX10_share_29 : decode cX10_share 29 = .ok (.aload_n 0, 1) := by decide +kernel
theorem dX10_share_30 : decode cX10_share 30 = .ok (.getfield 107, 3) := by decide +kernel
theorem dX10_share_33 : decode cX10_share 33 = .ok (.iload_n 3, 1) := by decide +kernel
theorem dX10_share_34 : decode cX10_share 34 = .ok (.invokestatic 124, 3) := by decide +kernel
theorem dX10_share_37 : decode cX10_share 37 = .ok (.ifCond .ne 109, 3) := by decide +kernel
theorem dX10_share_40 : decode cX10_share 40 = .ok (.aload_n 0, 1) := by decide +kernel
theorem dX10_share_41 : decode cX10_share 41 = .ok (.getfield 107, 3) := by decide +kernel
theorem dX10_share_44 : decode cX10_share 44 = .ok (.iload 4, 2) := by decide +kernel
theorem dX10_share_46 : decode cX10_share 46 = .ok (.invokestatic 124, 3) := by decide +kernel
theorem dX10_share_49 : decode cX10_share 49 = .ok (.ifCond .eq 6, 3) := by decide +kernel
theorem dX10_share_52 : decode cX10_share 52 = .ok (.goto 94, 3) := by decide +kernel
theorem dX10_share_55 : decode cX10_share 55 = .ok (.aload_n 0, 1) := by decide +kernel
theorem dX10_share_56 : decode cX10_share 56 = .ok (.iload_n 3, 1) := by decide +kernel
theorem dX10_share_57 : decode cX10_share 57 = .ok (.aload_n 0, 1) := by decide +kernel
theorem dX10_share_58 : decode cX10_share 58 = .ok (.getfield 107, 3) := by decide +kernel
theorem dX10_share_61 : decode cX10_share 61 = .ok (.invokevirtual 134, 3) := by decide +kernel
theorem dX10_share_64 : decode cX10_share 64 = .ok (.istore 5, 2) := by decide +kernel
theorem dX10_share_66 : decode cX10_share 66 = .ok (.aload_n 0, 1) := by decide +kernel
theorem dX10_share_67 : decode cX10_share 67 = .ok (.iload_n 3, 1) := by decide +kernel
theorem dX10_share_68 : decode cX10_share 68 = .ok (.aload_n 0, 1) := by decide +kernel
theorem dX10_share_69 : decode cX10_share 69 = .ok (.getfield 107, 3) := by decide +kernel
theorem dX10_share_72 : decode cX10_share 72 = .ok (.invokevirtual 144, 3) := by decide +kernel
theorem dX10_share_75 : decode cX10_share 75 = .ok (.aload_n 0, 1) := by decide +kernel
theorem dX10_share_76 : decode cX10_share 76 = .ok (.getfield 17, 3) := by decide +kernel
theorem dX10_share_79 : decode cX10_share 79 = .ok (.iload 4, 2) := by decide +kernel
theorem dX10_share_81 : decode cX10_share 81 = .ok (.iaload, 1) := by decide +kernel
theorem dX10_share_82 : decode cX10_share 82 = .ok (.aload_n 0, 1) := by decide +kernel
theorem dX10_share_83 : decode cX10_share 83 = .ok (.getfield 20, 3) := by decide +kernel
theorem dX10_share_86 : decode cX10_share 86 = .ok (.iload 4, 2) := by decide +kernel
theorem dX10_share_88 : decode cX10_share 88 = .ok (.iaload, 1) := by decide +kernel
theorem dX10_share_89 : decode cX10_share 89 = .ok (.aload_n 0, 1) := by decide +kernel
theorem dX10_share_90 : decode cX10_share 90 = .ok (.getfield 32, 3) := by decide +kernel
theorem dX10_share_93 : decode cX10_share 93 = .ok (.iadd, 1) := by decide +kernel
theorem dX10_share_94 : decode cX10_share 94 = .ok (.bipush 50, 2) := by decide +kernel
theorem dX10_share_96 : decode cX10_share 96 = .ok (.isub, 1) := by decide +kernel
theorem dX10_share_97 : decode cX10_share 97 = .ok (.aload_n 0, 1) := by decide +kernel
theorem dX10_share_98 : decode cX10_share 98 = .ok (.getfield 23, 3) := by decide +kernel
theorem dX10_share_101 : decode cX10_share 101 = .ok (.iload 4, 2) := by decide +kernel
theorem dX10_share_103 : decode cX10_share 103 = .ok (.iaload, 1) := by decide +kernel
theorem dX10_share_104 : decode cX10_share 104 = .ok (.iload 5, 2) := by decide +kernel
theorem dX10_share_106 : decode cX10_share 106 = .ok (.invokestatic 137, 3) := by decide +kernel
theorem dX10_share_109 : decode cX10_share 109 = .ok (.iadd, 1) := by decide +kernel
theorem dX10_share_110 : decode cX10_share 110 = .ok (.iload 5, 2) := by decide +kernel
theorem dX10_share_112 : decode cX10_share 112 = .ok (.isub, 1) := by decide +kernel
theorem dX10_share_113 : decode cX10_share 113 = .ok (.istore 6, 2) := by decide +kernel
theorem dX10_share_115 : decode cX10_share 115 = .ok (.iload 6, 2) := by decide +kernel
theorem dX10_share_117 : decode cX10_share 117 = .ok (.iload_n 2, 1) := by decide +kernel
theorem dX10_share_118 : decode cX10_share 118 = .ok (.if_icmp .le 13, 3) := by decide +kernel
theorem dX10_share_121 : decode cX10_share 121 = .ok (.bipush 10, 2) := by decide +kernel
theorem dX10_share_123 : decode cX10_share 123 = .ok (.iload_n 3, 1) := by decide +kernel
theorem dX10_share_124 : decode cX10_share 124 = .ok (.imul, 1) := by decide +kernel
theorem dX10_share_125 : decode cX10_share 125 = .ok (.iload 4, 2) := by decide +kernel
theorem dX10_share_127 : decode cX10_share 127 = .ok (.iadd, 1) := by decide +kernel
theorem dX10_share_128 : decode cX10_share 128 = .ok (.goto 4, 3) := by decide +kernel
theorem dX10_share_131 : decode cX10_share 131 = .ok (.iload_n 1, 1) := by decide +kernel
theorem dX10_share_132 : decode cX10_share 132 = .ok (.istore_n 1, 1) := by decide +kernel
theorem dX10_share_133 : decode cX10_share 133 = .ok (.iload 6, 2) := by decide +kernel
theorem dX10_share_135 : decode cX10_share 135 = .ok (.iload_n 2, 1) := by decide +kernel
theorem dX10_share_136 : decode cX10_share 136 = .ok (.if_icmp .le 8, 3) := by decide +kernel
theorem dX10_share_139 : decode cX10_share 139 = .ok (.iload 6, 2) := by decide +kernel
theorem dX10_share_141 : decode cX10_share 141 = .ok (.goto 4, 3) := by decide +kernel
theorem dX10_share_144 : decode cX10_share 144 = .ok (.iload_n 2, 1) := by decide +kernel
theorem dX10_share_145 : decode cX10_share 145 = .ok (.istore_n 2, 1) := by decide +kernel
theorem dX10_share_146 : decode cX10_share 146 = .ok (.iinc 4 1, 3) := by decide +kernel
theorem dX10_share_149 : decode cX10_share 149 = .ok (.goto (-129), 3) := by decide +kernel
theorem dX10_share_152 : decode cX10_share 152 = .ok (.iinc 3 1, 3) := by decide +kernel
theorem dX10_share_155 : decode cX10_share 155 = .ok (.goto (-148), 3) := by decide +kernel
theorem dX10_share_158 : decode cX10_share 158 = .ok (.iload_n 1, 1) := by decide +kernel
theorem dX10_share_159 : decode cX10_share 159 = .ok (.ireturn, 1) := by decide +kernel
theorem dX10_seen_0 : decode cX10_seen 0 = .ok (.aload_n 0, 1) := by decide +kernel
theorem dX10_seen_1 : decode cX10_seen 1 = .ok (.iload_n 1, 1) := by decide +kernel
theorem dX10_seen_2 : decode cX10_seen 2 = .ok (.invokevirtual 119, 3) := by decide +kernel
theorem dX10_seen_5 : decode cX10_seen 5 = .ok (.ifCond .eq 15, 3) := by decide +kernel
theorem dX10_seen_8 : decode cX10_seen 8 = .ok (.iload_n 2, 1) := by decide +kernel
theorem dX10_seen_9 : decode cX10_seen 9 = .ok (.i2l, 1) := by decide +kernel
theorem dX10_seen_10 : decode cX10_seen 10 = .ok (.lconst 0, 1) := by decide +kernel
theorem dX10_seen_11 : decode cX10_seen 11 = .ok (.ldc2_w 166, 3) := by decide +kernel
theorem dX10_seen_14 : decode cX10_seen 14 = .ok (.invokestatic 57, 3) := by decide +kernel
theorem dX10_seen_17 : decode cX10_seen 17 = .ok (.ifCond .ne 5, 3) := by decide +kernel
theorem dX10_seen_20 : decode cX10_seen 20 = .ok (.iconst (-1), 1) := by decide +kernel
theorem dX10_seen_21 : decode cX10_seen 21 = .ok (.ireturn, 1) := by decide +kernel
theorem dX10_seen_22 : decode cX10_seen 22 = .ok (.aload_n 0, 1) := by decide +kernel
theorem dX10_seen_23 : decode cX10_seen 23 = .ok (.getfield 110, 3) := by decide +kernel
theorem dX10_seen_26 : decode cX10_seen 26 = .ok (.bipush 8, 2) := by decide +kernel
theorem dX10_seen_28 : decode cX10_seen 28 = .ok (.if_icmp .ne 6, 3) := by decide +kernel
theorem dX10_seen_31 : decode cX10_seen 31 = .ok (.bipush (-3), 2) := by decide +kernel
theorem dX10_seen_33 : decode cX10_seen 33 = .ok (.ireturn, 1) := by decide +kernel
theorem dX10_seen_34 : decode cX10_seen 34 = .ok (.aload_n 0, 1) := by decide +kernel
theorem dX10_seen_35 : decode cX10_seen 35 = .ok (.getfield 41, 3) := by decide +kernel
theorem dX10_seen_38 : decode cX10_seen 38 = .ok (.aload_n 0, 1) := by decide +kernel
theorem dX10_seen_39 : decode cX10_seen 39 = .ok (.getfield 110, 3) := by decide +kernel
theorem dX10_seen_42 : decode cX10_seen 42 = .ok (.iload_n 1, 1) := by decide +kernel
theorem dX10_seen_43 : decode cX10_seen 43 = .ok (.iastore, 1) := by decide +kernel
theorem dX10_seen_44 : decode cX10_seen 44 = .ok (.aload_n 0, 1) := by decide +kernel
theorem dX10_seen_45 : decode cX10_seen 45 = .ok (.getfield 44, 3) := by decide +kernel
theorem dX10_seen_48 : decode cX10_seen 48 = .ok (.aload_n 0, 1) := by decide +kernel
theorem dX10_seen_49 : decode cX10_seen 49 = .ok (.getfield 110, 3) := by decide +kernel
theorem dX10_seen_52 : decode cX10_seen 52 = .ok (.iload_n 2, 1) := by decide +kernel
theorem dX10_seen_53 : decode cX10_seen 53 = .ok (.iastore, 1) := by decide +kernel
theorem dX10_seen_54 : decode cX10_seen 54 = .ok (.aload_n 0, 1) := by decide +kernel
theorem dX10_seen_55 : decode cX10_seen 55 = .ok (.getfield 47, 3) := by decide +kernel
theorem dX10_seen_58 : decode cX10_seen 58 = .ok (.aload_n 0, 1) := by decide +kernel
theorem dX10_seen_59 : decode cX10_seen 59 = .ok (.getfield 110, 3) := by decide +kernel
theorem dX10_seen_62 : decode cX10_seen 62 = .ok (.iload_n 3, 1) := by decide +kernel
theorem dX10_seen_63 : decode cX10_seen 63 = .ok (.bastore, 1) := by decide +kernel
theorem dX10_seen_64 : decode cX10_seen 64 = .ok (.aload_n 0, 1) := by decide +kernel
theorem dX10_seen_65 : decode cX10_seen 65 = .ok (.dup, 1) := by decide +kernel
theorem dX10_seen_66 : decode cX10_seen 66 = .ok (.getfield 110, 3) := by decide +kernel
theorem dX10_seen_69 : decode cX10_seen 69 = .ok (.iconst 1, 1) := by decide +kernel
theorem dX10_seen_70 : decode cX10_seen 70 = .ok (.iadd, 1) := by decide +kernel
theorem dX10_seen_71 : decode cX10_seen 71 = .ok (.putfield 110, 3) := by decide +kernel
theorem dX10_seen_74 : decode cX10_seen 74 = .ok (.aload_n 0, 1) := by decide +kernel
theorem dX10_seen_75 : decode cX10_seen 75 = .ok (.getfield 110, 3) := by decide +kernel
theorem dX10_seen_78 : decode cX10_seen 78 = .ok (.ireturn, 1) := by decide +kernel
theorem dX10_forget_0 : decode cX10_forget 0 = .ok (.aload_n 0, 1) := by decide +kernel
theorem dX10_forget_1 : decode cX10_forget 1 = .ok (.getfield 110, 3) := by decide +kernel
theorem dX10_forget_4 : decode cX10_forget 4 = .ok (.istore_n 1, 1) := by decide +kernel
theorem dX10_forget_5 : decode cX10_forget 5 = .ok (.aload_n 0, 1) := by decide +kernel
theorem dX10_forget_6 : decode cX10_forget 6 = .ok (.iconst 0, 1) := by decide +kernel
theorem dX10_forget_7 : decode cX10_forget 7 = .ok (.putfield 110, 3) := by decide +kernel
theorem dX10_forget_10 : decode cX10_forget 10 = .ok (.iload_n 1, 1) := by decide +kernel
theorem dX10_forget_11 : decode cX10_forget 11 = .ok (.ireturn, 1) := by decide +kernel
theorem dX10_likes_0 : decode cX10_likes 0 = .ok (.aload_n 0, 1) := by decide +kernel
theorem dX10_likes_1 : decode cX10_likes 1 = .ok (.iload_n 1, 1) := by decide +kernel
theorem dX10_likes_2 : decode cX10_likes 2 = .ok (.invokevirtual 119, 3) := by decide +kernel
theorem dX10_likes_5 : decode cX10_likes 5 = .ok (.ifCond .eq 13, 3) := by decide +kernel
theorem dX10_likes_8 : decode cX10_likes 8 = .ok (.iload_n 2, 1) := by decide +kernel
theorem dX10_likes_9 : decode cX10_likes 9 = .ok (.i2l, 1) := by decide +kernel
theorem dX10_likes_10 : decode cX10_likes 10 = .ok (.lconst 0, 1) := by decide +kernel
theorem dX10_likes_11 : decode cX10_likes 11 = .ok (.lconst 1, 1) := by decide +kernel
theorem dX10_likes_12 : decode cX10_likes 12 = .ok (.invokestatic 57, 3) := by decide +kernel
theorem dX10_likes_15 : decode cX10_likes 15 = .ok (.ifCond .ne 5, 3) := by decide +kernel
theorem dX10_likes_18 : decode cX10_likes 18 = .ok (.iconst (-1), 1) := by decide +kernel
theorem dX10_likes_19 : decode cX10_likes 19 = .ok (.ireturn, 1) := by decide +kernel
theorem dX10_likes_20 : decode cX10_likes 20 = .ok (.iconst 0, 1) := by decide +kernel
theorem dX10_likes_21 : decode cX10_likes 21 = .ok (.istore_n 3, 1) := by decide +kernel
theorem dX10_likes_22 : decode cX10_likes 22 = .ok (.bipush (-4), 2) := by decide +kernel
theorem dX10_likes_24 : decode cX10_likes 24 = .ok (.istore 4, 2) := by decide +kernel
theorem dX10_likes_26 : decode cX10_likes 26 = .ok (.bipush 99, 2) := by decide +kernel
theorem dX10_likes_28 : decode cX10_likes 28 = .ok (.istore 5, 2) := by decide +kernel
theorem dX10_likes_30 : decode cX10_likes 30 = .ok (.iload 5, 2) := by decide +kernel
theorem dX10_likes_32 : decode cX10_likes 32 = .ok (.ifCond .lt 133, 3) := by decide +kernel
theorem dX10_likes_35 : decode cX10_likes 35 = .ok (.iconst 1, 1) := by decide +kernel
theorem dX10_likes_36 : decode cX10_likes 36 = .ok (.istore 6, 2) := by decide +kernel
theorem dX10_likes_38 : decode cX10_likes 38 = .ok (.iconst 0, 1) := by decide +kernel
theorem dX10_likes_39 : decode cX10_likes 39 = .ok (.istore 7, 2) := by decide +kernel
theorem dX10_likes_41 : decode cX10_likes 41 = .ok (.iload 7, 2) := by decide +kernel
theorem dX10_likes_43 : decode cX10_likes 43 = .ok (.aload_n 0, 1) := by decide +kernel
theorem dX10_likes_44 : decode cX10_likes 44 = .ok (.getfield 110, 3) := by decide +kernel
theorem dX10_likes_47 : decode cX10_likes 47 = .ok (.if_icmp .ge 85, 3) := by decide +kernel
theorem dX10_likes_50 : decode cX10_likes 50 = .ok (.aload_n 0, 1) := by decide +kernel
theorem dX10_likes_51 : decode cX10_likes 51 = .ok (.getfield 17, 3) := by decide +kernel
theorem dX10_likes_54 : decode cX10_likes 54 = .ok (.iload_n 1, 1) := by decide +kernel
theorem dX10_likes_55 : decode cX10_likes 55 = .ok (.iaload, 1) := by decide +kernel
theorem dX10_likes_56 : decode cX10_likes 56 = .ok (.iload 5, 2) := by decide +kernel
theorem dX10_likes_58 : decode cX10_likes 58 = .ok (.aload_n 0, 1) := by decide +kernel
theorem dX10_likes_59 : decode cX10_likes 59 = .ok (.getfield 23, 3) := by decide +kernel
theorem dX10_likes_62 : decode cX10_likes 62 = .ok (.iload_n 1, 1) := by decide +kernel
theorem dX10_likes_63 : decode cX10_likes 63 = .ok (.iaload, 1) := by decide +kernel
theorem dX10_likes_64 : decode cX10_likes 64 = .ok (.aload_n 0, 1) := by decide +kernel
theorem dX10_likes_65 : decode cX10_likes 65 = .ok (.getfield 44, 3) := by decide +kernel
theorem dX10_likes_68 : decode cX10_likes 68 = .ok (.iload 7, 2) := by decide +kernel
theorem dX10_likes_70 : decode cX10_likes 70 = .ok (.iaload, 1) := by decide +kernel
theorem dX10_likes_71 : decode cX10_likes 71 = .ok (.invokestatic 137, 3) := by decide +kernel
theorem dX10_likes_74 : decode cX10_likes 74 = .ok (.aload_n 0, 1) := by decide +kernel
theorem dX10_likes_75 : decode cX10_likes 75 = .ok (.getfield 44, 3) := by decide +kernel
theorem dX10_likes_78 : decode cX10_likes 78 = .ok (.iload 7, 2) := by decide +kernel
theorem dX10_likes_80 : decode cX10_likes 80 = .ok (.iaload, 1) := by decide +kernel
theorem dX10_likes_81 : decode cX10_likes 81 = .ok (.if_icmp .le 7, 3) := by decide +kernel
theorem dX10_likes_84 : decode cX10_likes 84 = .ok (.iconst 1, 1) := by decide +kernel
theorem dX10_likes_85 : decode cX10_likes 85 = .ok (.goto 4, 3) := by decide +kernel
theorem dX10_likes_88 : decode cX10_likes 88 = .ok (.iconst 0, 1) := by decide +kernel
theorem dX10_likes_89 : decode cX10_likes 89 = .ok (.istore 8, 2) := by decide +kernel
theorem dX10_likes_91 : decode cX10_likes 91 = .ok (.iload 6, 2) := by decide +kernel
theorem dX10_likes_93 : decode cX10_likes 93 = .ok (.ifCond .eq 30, 3) := by decide +kernel
theorem dX10_likes_96 : decode cX10_likes 96 = .ok (.aload_n 0, 1) := by decide +kernel
theorem dX10_likes_97 : decode cX10_likes 97 = .ok (.getfield 41, 3) := by decide +kernel
theorem dX10_likes_100 : decode cX10_likes 100 = .ok (.iload 7, 2) := by decide +kernel
theorem dX10_likes_102 : decode cX10_likes 102 = .ok (.iaload, 1) := by decide +kernel
theorem dX10_likes_103 : decode cX10_likes 103 = .ok (.iload_n 1, 1) := by decide +kernel
theorem dX10_likes_104 : decode cX10_likes 104 = .ok (.if_icmp .ne 15, 3) := by decide +kernel
theorem dX10_likes_107 : decode cX10_likes 107 = .ok (.iload 8, 2) := by decide +kernel
theorem dX10_likes_109 : decode cX10_likes 109 = .ok (.aload_n 0, 1) := by decide +kernel
theorem dX10_likes_110 : decode cX10_likes 110 = .ok (.getfield 47, 3) := by decide +kernel
theorem dX10_likes_113 : decode cX10_likes 113 = .ok (.iload 7, 2) := by decide +kernel
theorem dX10_likes_115 : decode cX10_likes 115 = .ok (.baload, 1) := by decide +kernel
theorem dX10_likes_116 : decode cX10_likes 116 = .ok (.if_icmp .ne 7, 3) := by decide +kernel
theorem dX10_likes_119 : decode cX10_likes 119 = .ok (.iconst 1, 1) := by decide +kernel
theorem dX10_likes_120 : decode cX10_likes 120 = .ok (.goto 4, 3) := by decide +kernel
theorem dX10_likes_123 : decode cX10_likes 123 = .ok (.iconst 0, 1) := by decide +kernel
theorem dX10_likes_124 : decode cX10_likes 124 = .ok (.istore 6, 2) := by decide +kernel
theorem dX10_likes_126 : decode cX10_likes 126 = .ok (.iinc 7 1, 3) := by decide +kernel
theorem dX10_likes_129 : decode cX10_likes 129 = .ok (.goto (-88), 3) := by decide +kernel
theorem dX10_likes_132 : decode cX10_likes 132 = .ok (.iload_n 3, 1) := by decide +kernel
theorem dX10_likes_133 : decode cX10_likes 133 = .ok (.iload 6, 2) := by decide +kernel
theorem dX10_likes_135 : decode cX10_likes 135 = .ok (.ifCond .eq 7, 3) := by decide +kernel
theorem dX10_likes_138 : decode cX10_likes 138 = .ok (.iconst 1, 1) := by decide +kernel
theorem dX10_likes_139 : decode cX10_likes 139 = .ok (.goto 4, 3) := by decide +kernel
theorem dX10_likes_142 : decode cX10_likes 142 = .ok (.iconst 0, 1) := by decide +kernel
theorem dX10_likes_143 : decode cX10_likes 143 = .ok (.iadd, 1) := by decide +kernel
theorem dX10_likes_144 : decode cX10_likes 144 = .ok (.istore_n 3, 1) := by decide +kernel
theorem dX10_likes_145 : decode cX10_likes 145 = .ok (.iload 6, 2) := by decide +kernel
theorem dX10_likes_147 : decode cX10_likes 147 = .ok (.ifCond .eq 8, 3) := by decide +kernel
theorem dX10_likes_150 : decode cX10_likes 150 = .ok (.iload 5, 2) := by decide +kernel
theorem dX10_likes_152 : decode cX10_likes 152 = .ok (.goto 5, 3) := by decide +kernel
theorem dX10_likes_155 : decode cX10_likes 155 = .ok (.iload 4, 2) := by decide +kernel
theorem dX10_likes_157 : decode cX10_likes 157 = .ok (.istore 4, 2) := by decide +kernel
theorem dX10_likes_159 : decode cX10_likes 159 = .ok (.iinc 5 (-1), 3) := by decide +kernel
theorem dX10_likes_162 : decode cX10_likes 162 = .ok (.goto (-132), 3) := by decide +kernel
theorem dX10_likes_165 : decode cX10_likes 165 = .ok (.iload_n 2, 1) := by decide +kernel
theorem dX10_likes_166 : decode cX10_likes 166 = .ok (.ifCond .ne 7, 3) := by decide +kernel
theorem dX10_likes_169 : decode cX10_likes 169 = .ok (.iload_n 3, 1) := by decide +kernel
theorem dX10_likes_170 : decode cX10_likes 170 = .ok (.goto 5, 3) := by decide +kernel
theorem dX10_likes_173 : decode cX10_likes 173 = .ok (.iload 4, 2) := by decide +kernel
theorem dX10_likes_175 : decode cX10_likes 175 = .ok (.ireturn, 1) := by decide +kernel
theorem dX10_year_0 : decode cX10_year 0 = .ok (.iload_n 1, 1) := by decide +kernel
theorem dX10_year_1 : decode cX10_year 1 = .ok (.i2l, 1) := by decide +kernel
theorem dX10_year_2 : decode cX10_year 2 = .ok (.lconst 0, 1) := by decide +kernel
theorem dX10_year_3 : decode cX10_year 3 = .ok (.ldc2_w 168, 3) := by decide +kernel
theorem dX10_year_6 : decode cX10_year 6 = .ok (.invokestatic 57, 3) := by decide +kernel
theorem dX10_year_9 : decode cX10_year 9 = .ok (.ifCond .eq 25, 3) := by decide +kernel
theorem dX10_year_12 : decode cX10_year 12 = .ok (.iload_n 2, 1) := by decide +kernel
theorem dX10_year_13 : decode cX10_year 13 = .ok (.i2l, 1) := by decide +kernel
theorem dX10_year_14 : decode cX10_year 14 = .ok (.lconst 1, 1) := by decide +kernel
theorem dX10_year_15 : decode cX10_year 15 = .ok (.ldc2_w 170, 3) := by decide +kernel
theorem dX10_year_18 : decode cX10_year 18 = .ok (.invokestatic 57, 3) := by decide +kernel
theorem dX10_year_21 : decode cX10_year 21 = .ok (.ifCond .eq 13, 3) := by decide +kernel
theorem dX10_year_24 : decode cX10_year 24 = .ok (.iload_n 3, 1) := by decide +kernel
theorem dX10_year_25 : decode cX10_year 25 = .ok (.i2l, 1) := by decide +kernel
theorem dX10_year_26 : decode cX10_year 26 = .ok (.lconst 0, 1) := by decide +kernel
theorem dX10_year_27 : decode cX10_year 27 = .ok (.lconst 1, 1) := by decide +kernel
theorem dX10_year_28 : decode cX10_year 28 = .ok (.invokestatic 57, 3) := by decide +kernel
theorem dX10_year_31 : decode cX10_year 31 = .ok (.ifCond .ne 5, 3) := by decide +kernel
theorem dX10_year_34 : decode cX10_year 34 = .ok (.iconst (-1), 1) := by decide +kernel
theorem dX10_year_35 : decode cX10_year 35 = .ok (.ireturn, 1) := by decide +kernel
theorem dX10_year_36 : decode cX10_year 36 = .ok (.aload_n 0, 1) := by decide +kernel
theorem dX10_year_37 : decode cX10_year 37 = .ok (.getfield 32, 3) := by decide +kernel
theorem dX10_year_40 : decode cX10_year 40 = .ok (.istore 4, 2) := by decide +kernel
theorem dX10_year_42 : decode cX10_year 42 = .ok (.aload_n 0, 1) := by decide +kernel
theorem dX10_year_43 : decode cX10_year 43 = .ok (.getfield 107, 3) := by decide +kernel
theorem dX10_year_46 : decode cX10_year 46 = .ok (.istore 5, 2) := by decide +kernel
theorem dX10_year_48 : decode cX10_year 48 = .ok (.iconst (-1), 1) := by decide +kernel
theorem dX10_year_49 : decode cX10_year 49 = .ok (.istore 6, 2) := by decide +kernel
theorem dX10_year_51 : decode cX10_year 51 = .ok (.iconst 0, 1) := by decide +kernel
theorem dX10_year_52 : decode cX10_year 52 = .ok (.istore 7, 2) := by decide +kernel
theorem dX10_year_54 : decode cX10_year 54 = .ok (.iconst 0, 1) := by decide +kernel
theorem dX10_year_55 : decode cX10_year 55 = .ok (.istore 8, 2) := by decide +kernel
theorem dX10_year_57 : decode cX10_year 57 = .ok (.iload 8, 2) := by decide +kernel
theorem dX10_year_59 : decode cX10_year 59 = .ok (.iload_n 2, 1) := by decide +kernel
theorem dX10_year_60 : decode cX10_year 60 = .ok (.if_icmp .ge 95, 3) := by decide +kernel
theorem dX10_year_63 : decode cX10_year 63 = .ok (.ldc2_w 172, 3) := by decide +kernel
theorem dX10_year_66 : decode cX10_year 66 = .ok (.iload_n 1, 1) := by decide +kernel
theorem dX10_year_67 : decode cX10_year 67 = .ok (.i2l, 1) := by decide +kernel
theorem dX10_year_68 : decode cX10_year 68 = .ok (.lmul, 1) := by decide +kernel
theorem dX10_year_69 : decode cX10_year 69 = .ok (.ldc2_w 174, 3) := by decide +kernel
theorem dX10_year_72 : decode cX10_year 72 = .ok (.iload 8, 2) := by decide +kernel
theorem dX10_year_74 : decode cX10_year 74 = .ok (.i2l, 1) := by decide +kernel
theorem dX10_year_75 : decode cX10_year 75 = .ok (.lmul, 1) := by decide +kernel
theorem dX10_year_76 : decode cX10_year 76 = .ok (.ladd, 1) := by decide +kernel
theorem dX10_year_77 : decode cX10_year 77 = .ok (.lconst 1, 1) := by decide +kernel
theorem dX10_year_78 : decode cX10_year 78 = .ok (.ladd, 1) := by decide +kernel
theorem dX10_year_79 : decode cX10_year 79 = .ok (.lstore 9, 2) := by decide +kernel
theorem dX10_year_81 : decode cX10_year 81 = .ok (.aload_n 0, 1) := by decide +kernel
theorem dX10_year_82 : decode cX10_year 82 = .ok (.lload 9, 2) := by decide +kernel
theorem dX10_year_84 : decode cX10_year 84 = .ok (.lload 9, 2) := by decide +kernel
theorem dX10_year_86 : decode cX10_year 86 = .ok (.lmul, 1) := by decide +kernel
theorem dX10_year_87 : decode cX10_year 87 = .ok (.ldc2_w 176, 3) := by decide +kernel
theorem dX10_year_90 : decode cX10_year 90 = .ok (.lrem, 1) := by decide +kernel
theorem dX10_year_91 : decode cX10_year 91 = .ok (.ldc2_w 170, 3) := by decide +kernel
theorem dX10_year_94 : decode cX10_year 94 = .ok (.lrem, 1) := by decide +kernel
theorem dX10_year_95 : decode cX10_year 95 = .ok (.l2i, 1) := by decide +kernel
theorem dX10_year_96 : decode cX10_year 96 = .ok (.putfield 32, 3) := by decide +kernel
theorem dX10_year_99 : decode cX10_year 99 = .ok (.aload_n 0, 1) := by decide +kernel
theorem dX10_year_100 : decode cX10_year 100 = .ok (.iload 5, 2) := by decide +kernel
theorem dX10_year_102 : decode cX10_year 102 = .ok (.iconst 1, 1) := by decide +kernel
theorem dX10_year_103 : decode cX10_year 103 = .ok (.invokevirtual 156, 3) := by decide +kernel
theorem dX10_year_106 : decode cX10_year 106 = .ok (.istore 5, 2) := by decide +kernel
theorem dX10_year_108 : decode cX10_year 108 = .ok (.iload 5, 2) := by decide +kernel
theorem dX10_year_110 : decode cX10_year 110 = .ok (.invokestatic 128, 3) := by decide +kernel
theorem dX10_year_113 : decode cX10_year 113 = .ok (.iload 6, 2) := by decide +kernel
theorem dX10_year_115 : decode cX10_year 115 = .ok (.if_icmp .le 8, 3) := by decide +kernel
theorem dX10_year_118 : decode cX10_year 118 = .ok (.iload 8, 2) := by decide +kernel
theorem dX10_year_120 : decode cX10_year 120 = .ok (.goto 5, 3) := by decide +kernel
theorem dX10_year_123 : decode cX10_year 123 = .ok (.iload 7, 2) := by decide +kernel
theorem dX10_year_125 : decode cX10_year 125 = .ok (.istore 7, 2) := by decide +kernel
theorem dX10_year_127 : decode cX10_year 127 = .ok (.iload 5, 2) := by decide +kernel
theorem dX10_year_129 : decode cX10_year 129 = .ok (.invokestatic 128, 3) := by decide +kernel
theorem dX10_year_132 : decode cX10_year 132 = .ok (.iload 6, 2) := by decide +kernel
theorem dX10_year_134 : decode cX10_year 134 = .ok (.if_icmp .le 11, 3) := by decide +kernel
theorem dX10_year_137 : decode cX10_year 137 = .ok (.iload 5, 2) := by decide +kernel
theorem dX10_year_139 : decode cX10_year 139 = .ok (.invokestatic 128, 3) := by decide +kernel
theorem dX10_year_142 : decode cX10_year 142 = .ok (.goto 5, 3) := by decide +kernel
theorem dX10_year_145 : decode cX10_year 145 = .ok (.iload 6, 2) := by decide +kernel
theorem dX10_year_147 : decode cX10_year 147 = .ok (.istore 6, 2) := by decide +kernel
theorem dX10_year_149 : decode cX10_year 149 = .ok (.iinc 8 1, 3) := by decide +kernel
theorem dX10_year_152 : decode cX10_year 152 = .ok (.goto (-95), 3) := by decide +kernel
theorem dX10_year_155 : decode cX10_year 155 = .ok (.aload_n 0, 1) := by decide +kernel
theorem dX10_year_156 : decode cX10_year 156 = .ok (.iload 4, 2) := by decide +kernel
theorem dX10_year_158 : decode cX10_year 158 = .ok (.putfield 32, 3) := by decide +kernel
theorem dX10_year_161 : decode cX10_year 161 = .ok (.iload_n 3, 1) := by decide +kernel
theorem dX10_year_162 : decode cX10_year 162 = .ok (.ifCond .ne 11, 3) := by decide +kernel
theorem dX10_year_165 : decode cX10_year 165 = .ok (.iload 5, 2) := by decide +kernel
theorem dX10_year_167 : decode cX10_year 167 = .ok (.invokestatic 128, 3) := by decide +kernel
theorem dX10_year_170 : decode cX10_year 170 = .ok (.goto 5, 3) := by decide +kernel
theorem dX10_year_173 : decode cX10_year 173 = .ok (.iload 7, 2) := by decide +kernel
theorem dX10_year_175 : decode cX10_year 175 = .ok (.ireturn, 1) := by decide +kernel
theorem dX10_keep_0 : decode cX10_keep 0 = .ok (.aload_n 0, 1) := by decide +kernel
theorem dX10_keep_1 : decode cX10_keep 1 = .ok (.getfield 116, 3) := by decide +kernel
theorem dX10_keep_4 : decode cX10_keep 4 = .ok (.iconst 2, 1) := by decide +kernel
theorem dX10_keep_5 : decode cX10_keep 5 = .ok (.if_icmp .ne 6, 3) := by decide +kernel
theorem dX10_keep_8 : decode cX10_keep 8 = .ok (.bipush (-3), 2) := by decide +kernel
theorem dX10_keep_10 : decode cX10_keep 10 = .ok (.ireturn, 1) := by decide +kernel
theorem dX10_keep_11 : decode cX10_keep 11 = .ok (.aload_n 0, 1) := by decide +kernel
theorem dX10_keep_12 : decode cX10_keep 12 = .ok (.getfield 38, 3) := by decide +kernel
theorem dX10_keep_15 : decode cX10_keep 15 = .ok (.bipush 8, 2) := by decide +kernel
theorem dX10_keep_17 : decode cX10_keep 17 = .ok (.aload_n 0, 1) := by decide +kernel
theorem dX10_keep_18 : decode cX10_keep 18 = .ok (.getfield 116, 3) := by decide +kernel
theorem dX10_keep_21 : decode cX10_keep 21 = .ok (.imul, 1) := by decide +kernel
theorem dX10_keep_22 : decode cX10_keep 22 = .ok (.aload_n 0, 1) := by decide +kernel
theorem dX10_keep_23 : decode cX10_keep 23 = .ok (.getfield 107, 3) := by decide +kernel
theorem dX10_keep_26 : decode cX10_keep 26 = .ok (.iastore, 1) := by decide +kernel
theorem dX10_keep_27 : decode cX10_keep 27 = .ok (.iconst 0, 1) := by decide +kernel
theorem dX10_keep_28 : decode cX10_keep 28 = .ok (.istore_n 1, 1) := by decide +kernel
theorem dX10_keep_29 : decode cX10_keep 29 = .ok (.iload_n 1, 1) := by decide +kernel
theorem dX10_keep_30 : decode cX10_keep 30 = .ok (.bipush 7, 2) := by decide +kernel
theorem dX10_keep_32 : decode cX10_keep 32 = .ok (.if_icmp .ge 31, 3) := by decide +kernel
theorem dX10_keep_35 : decode cX10_keep 35 = .ok (.aload_n 0, 1) := by decide +kernel
theorem dX10_keep_36 : decode cX10_keep 36 = .ok (.getfield 38, 3) := by decide +kernel
theorem dX10_keep_39 : decode cX10_keep 39 = .ok (.bipush 8, 2) := by decide +kernel
theorem dX10_keep_41 : decode cX10_keep 41 = .ok (.aload_n 0, 1) := by decide +kernel
theorem dX10_keep_42 : decode cX10_keep 42 = .ok (.getfield 116, 3) := by decide +kernel
theorem dX10_keep_45 : decode cX10_keep 45 = .ok (.imul, 1) := by decide +kernel
theorem dX10_keep_46 : decode cX10_keep 46 = .ok (.iconst 1, 1) := by decide +kernel
theorem dX10_keep_47 : decode cX10_keep 47 = .ok (.iadd, 1) := by decide +kernel
theorem dX10_keep_48 : decode cX10_keep 48 = .ok (.iload_n 1, 1) := by decide +kernel
theorem dX10_keep_49 : decode cX10_keep 49 = .ok (.iadd, 1) := by decide +kernel
theorem dX10_keep_50 : decode cX10_keep 50 = .ok (.aload_n 0, 1) := by decide +kernel
theorem dX10_keep_51 : decode cX10_keep 51 = .ok (.getfield 29, 3) := by decide +kernel
theorem dX10_keep_54 : decode cX10_keep 54 = .ok (.iload_n 1, 1) := by decide +kernel
theorem dX10_keep_55 : decode cX10_keep 55 = .ok (.iaload, 1) := by decide +kernel
theorem dX10_keep_56 : decode cX10_keep 56 = .ok (.iastore, 1) := by decide +kernel
theorem dX10_keep_57 : decode cX10_keep 57 = .ok (.iinc 1 1, 3) := by decide +kernel
theorem dX10_keep_60 : decode cX10_keep 60 = .ok (.goto (-31), 3) := by decide +kernel
theorem dX10_keep_63 : decode cX10_keep 63 = .ok (.aload_n 0, 1) := by decide +kernel
theorem dX10_keep_64 : decode cX10_keep 64 = .ok (.dup, 1) := by decide +kernel
theorem dX10_keep_65 : decode cX10_keep 65 = .ok (.getfield 116, 3) := by decide +kernel
theorem dX10_keep_68 : decode cX10_keep 68 = .ok (.iconst 1, 1) := by decide +kernel
theorem dX10_keep_69 : decode cX10_keep 69 = .ok (.iadd, 1) := by decide +kernel
theorem dX10_keep_70 : decode cX10_keep 70 = .ok (.putfield 116, 3) := by decide +kernel
theorem dX10_keep_73 : decode cX10_keep 73 = .ok (.aload_n 0, 1) := by decide +kernel
theorem dX10_keep_74 : decode cX10_keep 74 = .ok (.getfield 116, 3) := by decide +kernel
theorem dX10_keep_77 : decode cX10_keep 77 = .ok (.ireturn, 1) := by decide +kernel
theorem dX10_back_0 : decode cX10_back 0 = .ok (.aload_n 0, 1) := by decide +kernel
theorem dX10_back_1 : decode cX10_back 1 = .ok (.getfield 116, 3) := by decide +kernel
theorem dX10_back_4 : decode cX10_back 4 = .ok (.ifCond .ne 6, 3) := by decide +kernel
theorem dX10_back_7 : decode cX10_back 7 = .ok (.bipush (-2), 2) := by decide +kernel
theorem dX10_back_9 : decode cX10_back 9 = .ok (.ireturn, 1) := by decide +kernel
theorem dX10_back_10 : decode cX10_back 10 = .ok (.aload_n 0, 1) := by decide +kernel
theorem dX10_back_11 : decode cX10_back 11 = .ok (.dup, 1) := by decide +kernel
theorem dX10_back_12 : decode cX10_back 12 = .ok (.getfield 116, 3) := by decide +kernel
theorem dX10_back_15 : decode cX10_back 15 = .ok (.iconst 1, 1) := by decide +kernel
theorem dX10_back_16 : decode cX10_back 16 = .ok (.isub, 1) := by decide +kernel
theorem dX10_back_17 : decode cX10_back 17 = .ok (.putfield 116, 3) := by decide +kernel
theorem dX10_back_20 : decode cX10_back 20 = .ok (.aload_n 0, 1) := by decide +kernel
theorem dX10_back_21 : decode cX10_back 21 = .ok (.aload_n 0, 1) := by decide +kernel
theorem dX10_back_22 : decode cX10_back 22 = .ok (.getfield 38, 3) := by decide +kernel
theorem dX10_back_25 : decode cX10_back 25 = .ok (.bipush 8, 2) := by decide +kernel
theorem dX10_back_27 : decode cX10_back 27 = .ok (.aload_n 0, 1) := by decide +kernel
theorem dX10_back_28 : decode cX10_back 28 = .ok (.getfield 116, 3) := by decide +kernel
theorem dX10_back_31 : decode cX10_back 31 = .ok (.imul, 1) := by decide +kernel
theorem dX10_back_32 : decode cX10_back 32 = .ok (.iaload, 1) := by decide +kernel
theorem dX10_back_33 : decode cX10_back 33 = .ok (.putfield 107, 3) := by decide +kernel
theorem dX10_back_36 : decode cX10_back 36 = .ok (.iconst 0, 1) := by decide +kernel
theorem dX10_back_37 : decode cX10_back 37 = .ok (.istore_n 1, 1) := by decide +kernel
theorem dX10_back_38 : decode cX10_back 38 = .ok (.iload_n 1, 1) := by decide +kernel
theorem dX10_back_39 : decode cX10_back 39 = .ok (.bipush 7, 2) := by decide +kernel
theorem dX10_back_41 : decode cX10_back 41 = .ok (.if_icmp .ge 31, 3) := by decide +kernel
theorem dX10_back_44 : decode cX10_back 44 = .ok (.aload_n 0, 1) := by decide +kernel
theorem dX10_back_45 : decode cX10_back 45 = .ok (.getfield 29, 3) := by decide +kernel
theorem dX10_back_48 : decode cX10_back 48 = .ok (.iload_n 1, 1) := by decide +kernel
theorem dX10_back_49 : decode cX10_back 49 = .ok (.aload_n 0, 1) := by decide +kernel
theorem dX10_back_50 : decode cX10_back 50 = .ok (.getfield 38, 3) := by decide +kernel
theorem dX10_back_53 : decode cX10_back 53 = .ok (.bipush 8, 2) := by decide +kernel
theorem dX10_back_55 : decode cX10_back 55 = .ok (.aload_n 0, 1) := by decide +kernel
theorem dX10_back_56 : decode cX10_back 56 = .ok (.getfield 116, 3) := by decide +kernel
theorem dX10_back_59 : decode cX10_back 59 = .ok (.imul, 1) := by decide +kernel
theorem dX10_back_60 : decode cX10_back 60 = .ok (.iconst 1, 1) := by decide +kernel
theorem dX10_back_61 : decode cX10_back 61 = .ok (.iadd, 1) := by decide +kernel
theorem dX10_back_62 : decode cX10_back 62 = .ok (.iload_n 1, 1) := by decide +kernel
theorem dX10_back_63 : decode cX10_back 63 = .ok (.iadd, 1) := by decide +kernel
theorem dX10_back_64 : decode cX10_back 64 = .ok (.iaload, 1) := by decide +kernel
theorem dX10_back_65 : decode cX10_back 65 = .ok (.iastore, 1) := by decide +kernel
theorem dX10_back_66 : decode cX10_back 66 = .ok (.iinc 1 1, 3) := by decide +kernel
theorem dX10_back_69 : decode cX10_back 69 = .ok (.goto (-31), 3) := by decide +kernel
theorem dX10_back_72 : decode cX10_back 72 = .ok (.aload_n 0, 1) := by decide +kernel
theorem dX10_back_73 : decode cX10_back 73 = .ok (.iconst 0, 1) := by decide +kernel
theorem dX10_back_74 : decode cX10_back 74 = .ok (.putfield 113, 3) := by decide +kernel
theorem dX10_back_77 : decode cX10_back 77 = .ok (.aload_n 0, 1) := by decide +kernel
theorem dX10_back_78 : decode cX10_back 78 = .ok (.getfield 116, 3) := by decide +kernel
theorem dX10_back_81 : decode cX10_back 81 = .ok (.ireturn, 1) := by decide +kernel
theorem dX10_count_0 : decode cX10_count 0 = .ok (.iload_n 1, 1) := by decide +kernel
theorem dX10_count_1 : decode cX10_count 1 = .ok (.tableswitch 78 0 6 #[43, 48, 53, 58, 63, 68, 73], 43) := by decide +kernel
theorem dX10_count_44 : decode cX10_count 44 = .ok (.aload_n 0, 1) := by decide +kernel
theorem dX10_count_45 : decode cX10_count 45 = .ok (.getfield 13, 3) := by decide +kernel
theorem dX10_count_48 : decode cX10_count 48 = .ok (.ireturn, 1) := by decide +kernel
theorem dX10_count_49 : decode cX10_count 49 = .ok (.aload_n 0, 1) := by decide +kernel
theorem dX10_count_50 : decode cX10_count 50 = .ok (.getfield 107, 3) := by decide +kernel
theorem dX10_count_53 : decode cX10_count 53 = .ok (.ireturn, 1) := by decide +kernel
theorem dX10_count_54 : decode cX10_count 54 = .ok (.aload_n 0, 1) := by decide +kernel
theorem dX10_count_55 : decode cX10_count 55 = .ok (.getfield 32, 3) := by decide +kernel
theorem dX10_count_58 : decode cX10_count 58 = .ok (.ireturn, 1) := by decide +kernel
theorem dX10_count_59 : decode cX10_count 59 = .ok (.aload_n 0, 1) := by decide +kernel
theorem dX10_count_60 : decode cX10_count 60 = .ok (.getfield 110, 3) := by decide +kernel
theorem dX10_count_63 : decode cX10_count 63 = .ok (.ireturn, 1) := by decide +kernel
theorem dX10_count_64 : decode cX10_count 64 = .ok (.aload_n 0, 1) := by decide +kernel
theorem dX10_count_65 : decode cX10_count 65 = .ok (.getfield 113, 3) := by decide +kernel
theorem dX10_count_68 : decode cX10_count 68 = .ok (.ireturn, 1) := by decide +kernel
theorem dX10_count_69 : decode cX10_count 69 = .ok (.aload_n 0, 1) := by decide +kernel
theorem dX10_count_70 : decode cX10_count 70 = .ok (.getfield 116, 3) := by decide +kernel
theorem dX10_count_73 : decode cX10_count 73 = .ok (.ireturn, 1) := by decide +kernel
theorem dX10_count_74 : decode cX10_count 74 = .ok (.aload_n 0, 1) := by decide +kernel
theorem dX10_count_75 : decode cX10_count 75 = .ok (.getfield 63, 3) := by decide +kernel
theorem dX10_count_78 : decode cX10_count 78 = .ok (.ireturn, 1) := by decide +kernel
theorem dX10_count_79 : decode cX10_count 79 = .ok (.iconst (-1), 1) := by decide +kernel
theorem dX10_count_80 : decode cX10_count 80 = .ok (.ireturn, 1) := by decide +kernel
theorem dJ6_bitCount_0f7a4_0 : decode cJ6_bitCount_0f7a4 0 = .ok (.iload_n 0, 1) := by decide +kernel
theorem dJ6_bitCount_0f7a4_1 : decode cJ6_bitCount_0f7a4 1 = .ok (.iload_n 0, 1) := by decide +kernel
theorem dJ6_bitCount_0f7a4_2 : decode cJ6_bitCount_0f7a4 2 = .ok (.iconst 1, 1) := by decide +kernel
theorem dJ6_bitCount_0f7a4_3 : decode cJ6_bitCount_0f7a4 3 = .ok (.iushr, 1) := by decide +kernel
theorem dJ6_bitCount_0f7a4_4 : decode cJ6_bitCount_0f7a4 4 = .ok (.ldc_w 265, 3) := by decide +kernel
theorem dJ6_bitCount_0f7a4_7 : decode cJ6_bitCount_0f7a4 7 = .ok (.iand, 1) := by decide +kernel
theorem dJ6_bitCount_0f7a4_8 : decode cJ6_bitCount_0f7a4 8 = .ok (.isub, 1) := by decide +kernel
theorem dJ6_bitCount_0f7a4_9 : decode cJ6_bitCount_0f7a4 9 = .ok (.istore_n 0, 1) := by decide +kernel
theorem dJ6_bitCount_0f7a4_10 : decode cJ6_bitCount_0f7a4 10 = .ok (.iload_n 0, 1) := by decide +kernel
theorem dJ6_bitCount_0f7a4_11 : decode cJ6_bitCount_0f7a4 11 = .ok (.ldc_w 266, 3) := by decide +kernel
theorem dJ6_bitCount_0f7a4_14 : decode cJ6_bitCount_0f7a4 14 = .ok (.iand, 1) := by decide +kernel
theorem dJ6_bitCount_0f7a4_15 : decode cJ6_bitCount_0f7a4 15 = .ok (.iload_n 0, 1) := by decide +kernel
theorem dJ6_bitCount_0f7a4_16 : decode cJ6_bitCount_0f7a4 16 = .ok (.iconst 2, 1) := by decide +kernel
theorem dJ6_bitCount_0f7a4_17 : decode cJ6_bitCount_0f7a4 17 = .ok (.iushr, 1) := by decide +kernel
theorem dJ6_bitCount_0f7a4_18 : decode cJ6_bitCount_0f7a4 18 = .ok (.ldc_w 266, 3) := by decide +kernel
theorem dJ6_bitCount_0f7a4_21 : decode cJ6_bitCount_0f7a4 21 = .ok (.iand, 1) := by decide +kernel
theorem dJ6_bitCount_0f7a4_22 : decode cJ6_bitCount_0f7a4 22 = .ok (.iadd, 1) := by decide +kernel
theorem dJ6_bitCount_0f7a4_23 : decode cJ6_bitCount_0f7a4 23 = .ok (.istore_n 0, 1) := by decide +kernel
theorem dJ6_bitCount_0f7a4_24 : decode cJ6_bitCount_0f7a4 24 = .ok (.iload_n 0, 1) := by decide +kernel
theorem dJ6_bitCount_0f7a4_25 : decode cJ6_bitCount_0f7a4 25 = .ok (.iload_n 0, 1) := by decide +kernel
theorem dJ6_bitCount_0f7a4_26 : decode cJ6_bitCount_0f7a4 26 = .ok (.iconst 4, 1) := by decide +kernel
theorem dJ6_bitCount_0f7a4_27 : decode cJ6_bitCount_0f7a4 27 = .ok (.iushr, 1) := by decide +kernel
theorem dJ6_bitCount_0f7a4_28 : decode cJ6_bitCount_0f7a4 28 = .ok (.iadd, 1) := by decide +kernel
theorem dJ6_bitCount_0f7a4_29 : decode cJ6_bitCount_0f7a4 29 = .ok (.ldc_w 267, 3) := by decide +kernel
theorem dJ6_bitCount_0f7a4_32 : decode cJ6_bitCount_0f7a4 32 = .ok (.iand, 1) := by decide +kernel
theorem dJ6_bitCount_0f7a4_33 : decode cJ6_bitCount_0f7a4 33 = .ok (.istore_n 0, 1) := by decide +kernel
theorem dJ6_bitCount_0f7a4_34 : decode cJ6_bitCount_0f7a4 34 = .ok (.iload_n 0, 1) := by decide +kernel
theorem dJ6_bitCount_0f7a4_35 : decode cJ6_bitCount_0f7a4 35 = .ok (.iload_n 0, 1) := by decide +kernel
theorem dJ6_bitCount_0f7a4_36 : decode cJ6_bitCount_0f7a4 36 = .ok (.bipush 8, 2) := by decide +kernel
theorem dJ6_bitCount_0f7a4_38 : decode cJ6_bitCount_0f7a4 38 = .ok (.iushr, 1) := by decide +kernel
theorem dJ6_bitCount_0f7a4_39 : decode cJ6_bitCount_0f7a4 39 = .ok (.iadd, 1) := by decide +kernel
theorem dJ6_bitCount_0f7a4_40 : decode cJ6_bitCount_0f7a4 40 = .ok (.istore_n 0, 1) := by decide +kernel
theorem dJ6_bitCount_0f7a4_41 : decode cJ6_bitCount_0f7a4 41 = .ok (.iload_n 0, 1) := by decide +kernel
theorem dJ6_bitCount_0f7a4_42 : decode cJ6_bitCount_0f7a4 42 = .ok (.iload_n 0, 1) := by decide +kernel
theorem dJ6_bitCount_0f7a4_43 : decode cJ6_bitCount_0f7a4 43 = .ok (.bipush 16, 2) := by decide +kernel
theorem dJ6_bitCount_0f7a4_45 : decode cJ6_bitCount_0f7a4 45 = .ok (.iushr, 1) := by decide +kernel
theorem dJ6_bitCount_0f7a4_46 : decode cJ6_bitCount_0f7a4 46 = .ok (.iadd, 1) := by decide +kernel
theorem dJ6_bitCount_0f7a4_47 : decode cJ6_bitCount_0f7a4 47 = .ok (.istore_n 0, 1) := by decide +kernel
theorem dJ6_bitCount_0f7a4_48 : decode cJ6_bitCount_0f7a4 48 = .ok (.iload_n 0, 1) := by decide +kernel
theorem dJ6_bitCount_0f7a4_49 : decode cJ6_bitCount_0f7a4 49 = .ok (.bipush 63, 2) := by decide +kernel
theorem dJ6_bitCount_0f7a4_51 : decode cJ6_bitCount_0f7a4 51 = .ok (.iand, 1) := by decide +kernel
theorem dJ6_bitCount_0f7a4_52 : decode cJ6_bitCount_0f7a4 52 = .ok (.ireturn, 1) := by decide +kernel
