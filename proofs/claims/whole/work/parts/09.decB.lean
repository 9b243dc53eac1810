theorem dX2_field_38 : decode cX2_field 38 = .ok (.aload_n 0, 1) := by decide +kernel
theorem dX2_field_39 : decode cX2_field 39 = .ok (.getfield 37, 3) := by decide +kernel
theorem dX2_field_42 : decode cX2_field 42 = .ok (.ireturn, 1) := by decide +kernel
theorem dX2_field_43 : decode cX2_field 43 = .ok (.aload_n 0, 1) := by decide +kernel
theorem dX2_field_44 : decode cX2_field 44 = .ok (.getfield 34, 3) := by decide +kernel
theorem dX2_field_47 : decode cX2_field 47 = .ok (.ireturn, 1) := by decide +kernel
theorem dX3_init_0 : decode cX3_init 0 = .ok (.aload_n 0, 1) := by decide +kernel
theorem dX3_init_1 : decode cX3_init 1 = .ok (.invokespecial 3, 3) := by decide +kernel
theorem dX3_init_4 : decode cX3_init 4 = .ok (.aload_n 0, 1) := by decide +kernel
theorem dX3_init_5 : decode cX3_init 5 = .ok (.bipush 16, 2) := by decide +kernel
theorem dX3_init_7 : decode cX3_init 7 = .ok (.newarray .int, 2) := by decide +kernel
theorem dX3_init_9 : decode cX3_init 9 = .ok (.putfield 9, 3) := by decide +kernel
theorem dX3_init_12 : decode cX3_init 12 = .ok (.return_, 1) := by decide +kernel
theorem dX3_hear_0 : decode cX3_hear 0 = .ok (.iload_n 1, 1) := by decide +kernel
theorem dX3_hear_1 : decode cX3_hear 1 = .ok (.aload_n 0, 1) := by decide +kernel
theorem dX3_hear_2 : decode cX3_hear 2 = .ok (.getfield 15, 3) := by decide +kernel
theorem dX3_hear_5 : decode cX3_hear 5 = .ok (.if_icmp .lt 18, 3) := by decide +kernel
theorem dX3_hear_8 : decode cX3_hear 8 = .ok (.iload_n 1, 1) := by decide +kernel
theorem dX3_hear_9 : decode cX3_hear 9 = .ok (.aload_n 0, 1) := by decide +kernel
theorem dX3_hear_10 : decode cX3_hear 10 = .ok (.getfield 15, 3) := by decide +kernel
theorem dX3_hear_13 : decode cX3_hear 13 = .ok (.if_icmp .ne 21, 3) := by decide +kernel
theorem dX3_hear_16 : decode cX3_hear 16 = .ok (.aload_n 0, 1) := by decide +kernel
theorem dX3_hear_17 : decode cX3_hear 17 = .ok (.getfield 19, 3) := by decide +kernel
theorem dX3_hear_20 : decode cX3_hear 20 = .ok (.ifCond .ne 14, 3) := by decide +kernel
theorem dX3_hear_23 : decode cX3_hear 23 = .ok (.aload_n 0, 1) := by decide +kernel
theorem dX3_hear_24 : decode cX3_hear 24 = .ok (.dup, 1) := by decide +kernel
theorem dX3_hear_25 : decode cX3_hear 25 = .ok (.getfield 23, 3) := by decide +kernel
theorem dX3_hear_28 : decode cX3_hear 28 = .ok (.iconst 1, 1) := by decide +kernel
theorem dX3_hear_29 : decode cX3_hear 29 = .ok (.iadd, 1) := by decide +kernel
theorem dX3_hear_30 : decode cX3_hear 30 = .ok (.putfield 23, 3) := by decide +kernel
theorem dX3_hear_33 : decode cX3_hear 33 = .ok (.return_, 1) := by decide +kernel
theorem dX3_hear_34 : decode cX3_hear 34 = .ok (.iload_n 1, 1) := by decide +kernel
theorem dX3_hear_35 : decode cX3_hear 35 = .ok (.aload_n 0, 1) := by decide +kernel
theorem dX3_hear_36 : decode cX3_hear 36 = .ok (.getfield 15, 3) := by decide +kernel
theorem dX3_hear_39 : decode cX3_hear 39 = .ok (.if_icmp .le 11, 3) := by decide +kernel
theorem dX3_hear_42 : decode cX3_hear 42 = .ok (.aload_n 0, 1) := by decide +kernel
theorem dX3_hear_43 : decode cX3_hear 43 = .ok (.iload_n 1, 1) := by decide +kernel
theorem dX3_hear_44 : decode cX3_hear 44 = .ok (.iload_n 2, 1) := by decide +kernel
theorem dX3_hear_45 : decode cX3_hear 45 = .ok (.iload 4, 2) := by decide +kernel
theorem dX3_hear_47 : decode cX3_hear 47 = .ok (.invokevirtual 26, 3) := by decide +kernel
theorem dX3_hear_50 : decode cX3_hear 50 = .ok (.iload_n 2, 1) := by decide +kernel
theorem dX3_hear_51 : decode cX3_hear 51 = .ok (.aload_n 0, 1) := by decide +kernel
theorem dX3_hear_52 : decode cX3_hear 52 = .ok (.getfield 30, 3) := by decide +kernel
theorem dX3_hear_55 : decode cX3_hear 55 = .ok (.if_icmp .lt 22, 3) := by decide +kernel
theorem dX3_hear_58 : decode cX3_hear 58 = .ok (.iload_n 2, 1) := by decide +kernel
theorem dX3_hear_59 : decode cX3_hear 59 = .ok (.aload_n 0, 1) := by decide +kernel
theorem dX3_hear_60 : decode cX3_hear 60 = .ok (.getfield 30, 3) := by decide +kernel
theorem dX3_hear_63 : decode cX3_hear 63 = .ok (.bipush 16, 2) := by decide +kernel
theorem dX3_hear_65 : decode cX3_hear 65 = .ok (.iadd, 1) := by decide +kernel
theorem dX3_hear_66 : decode cX3_hear 66 = .ok (.if_icmp .ge 11, 3) := by decide +kernel
theorem dX3_hear_69 : decode cX3_hear 69 = .ok (.aload_n 0, 1) := by decide +kernel
theorem dX3_hear_70 : decode cX3_hear 70 = .ok (.iload_n 2, 1) := by decide +kernel
theorem dX3_hear_71 : decode cX3_hear 71 = .ok (.invokevirtual 33, 3) := by decide +kernel
theorem dX3_hear_74 : decode cX3_hear 74 = .ok (.ifCond .eq 14, 3) := by decide +kernel
theorem dX3_hear_77 : decode cX3_hear 77 = .ok (.aload_n 0, 1) := by decide +kernel
theorem dX3_hear_78 : decode cX3_hear 78 = .ok (.dup, 1) := by decide +kernel
theorem dX3_hear_79 : decode cX3_hear 79 = .ok (.getfield 23, 3) := by decide +kernel
theorem dX3_hear_82 : decode cX3_hear 82 = .ok (.iconst 1, 1) := by decide +kernel
theorem dX3_hear_83 : decode cX3_hear 83 = .ok (.iadd, 1) := by decide +kernel
theorem dX3_hear_84 : decode cX3_hear 84 = .ok (.putfield 23, 3) := by decide +kernel
theorem dX3_hear_87 : decode cX3_hear 87 = .ok (.return_, 1) := by decide +kernel
theorem dX3_hear_88 : decode cX3_hear 88 = .ok (.aload_n 0, 1) := by decide +kernel
theorem dX3_hear_89 : decode cX3_hear 89 = .ok (.dup, 1) := by decide +kernel
theorem dX3_hear_90 : decode cX3_hear 90 = .ok (.getfield 37, 3) := by decide +kernel
theorem dX3_hear_93 : decode cX3_hear 93 = .ok (.iload_n 2, 1) := by decide +kernel
theorem dX3_hear_94 : decode cX3_hear 94 = .ok (.invokestatic 40, 3) := by decide +kernel
theorem dX3_hear_97 : decode cX3_hear 97 = .ok (.ior, 1) := by decide +kernel
theorem dX3_hear_98 : decode cX3_hear 98 = .ok (.putfield 37, 3) := by decide +kernel
theorem dX3_hear_101 : decode cX3_hear 101 = .ok (.aload_n 0, 1) := by decide +kernel
theorem dX3_hear_102 : decode cX3_hear 102 = .ok (.getfield 9, 3) := by decide +kernel
theorem dX3_hear_105 : decode cX3_hear 105 = .ok (.iload_n 2, 1) := by decide +kernel
theorem dX3_hear_106 : decode cX3_hear 106 = .ok (.invokestatic 44, 3) := by decide +kernel
theorem dX3_hear_109 : decode cX3_hear 109 = .ok (.iload_n 3, 1) := by decide +kernel
theorem dX3_hear_110 : decode cX3_hear 110 = .ok (.iastore, 1) := by decide +kernel
theorem dX3_hear_111 : decode cX3_hear 111 = .ok (.return_, 1) := by decide +kernel
theorem dX3_begin_0 : decode cX3_begin 0 = .ok (.aload_n 0, 1) := by decide +kernel
theorem dX3_begin_1 : decode cX3_begin 1 = .ok (.iload_n 1, 1) := by decide +kernel
theorem dX3_begin_2 : decode cX3_begin 2 = .ok (.putfield 15, 3) := by decide +kernel
theorem dX3_begin_5 : decode cX3_begin 5 = .ok (.aload_n 0, 1) := by decide +kernel
theorem dX3_begin_6 : decode cX3_begin 6 = .ok (.iconst 1, 1) := by decide +kernel
theorem dX3_begin_7 : decode cX3_begin 7 = .ok (.putfield 19, 3) := by decide +kernel
theorem dX3_begin_10 : decode cX3_begin 10 = .ok (.aload_n 0, 1) := by decide +kernel
theorem dX3_begin_11 : decode cX3_begin 11 = .ok (.iload_n 2, 1) := by decide +kernel
theorem dX3_begin_12 : decode cX3_begin 12 = .ok (.putfield 30, 3) := by decide +kernel
theorem dX3_begin_15 : decode cX3_begin 15 = .ok (.aload_n 0, 1) := by decide +kernel
theorem dX3_begin_16 : decode cX3_begin 16 = .ok (.iload_n 3, 1) := by decide +kernel
theorem dX3_begin_17 : decode cX3_begin 17 = .ok (.putfield 47, 3) := by decide +kernel
theorem dX3_begin_20 : decode cX3_begin 20 = .ok (.aload_n 0, 1) := by decide +kernel
theorem dX3_begin_21 : decode cX3_begin 21 = .ok (.iconst 0, 1) := by decide +kernel
theorem dX3_begin_22 : decode cX3_begin 22 = .ok (.putfield 50, 3) := by decide +kernel
theorem dX3_begin_25 : decode cX3_begin 25 = .ok (.aload_n 0, 1) := by decide +kernel
theorem dX3_begin_26 : decode cX3_begin 26 = .ok (.iconst 0, 1) := by decide +kernel
theorem dX3_begin_27 : decode cX3_begin 27 = .ok (.putfield 37, 3) := by decide +kernel
theorem dX3_begin_30 : decode cX3_begin 30 = .ok (.return_, 1) := by decide +kernel
theorem dX3_play_0 : decode cX3_play 0 = .ok (.aload_n 0, 1) := by decide +kernel
theorem dX3_play_1 : decode cX3_play 1 = .ok (.getfield 19, 3) := by decide +kernel
theorem dX3_play_4 : decode cX3_play 4 = .ok (.ifCond .eq 13, 3) := by decide +kernel
theorem dX3_play_7 : decode cX3_play 7 = .ok (.iload_n 1, 1) := by decide +kernel
theorem dX3_play_8 : decode cX3_play 8 = .ok (.aload_n 0, 1) := by decide +kernel
theorem dX3_play_9 : decode cX3_play 9 = .ok (.getfield 47, 3) := by decide +kernel
theorem dX3_play_12 : decode cX3_play 12 = .ok (.isub, 1) := by decide +kernel
theorem dX3_play_13 : decode cX3_play 13 = .ok (.iconst 2, 1) := by decide +kernel
theorem dX3_play_14 : decode cX3_play 14 = .ok (.if_icmp .ge 4, 3) := by decide +kernel
theorem dX3_play_17 : decode cX3_play 17 = .ok (.return_, 1) := by decide +kernel
theorem dX3_play_18 : decode cX3_play 18 = .ok (.aload_n 0, 1) := by decide +kernel
theorem dX3_play_19 : decode cX3_play 19 = .ok (.aload_n 0, 1) := by decide +kernel
theorem dX3_play_20 : decode cX3_play 20 = .ok (.getfield 30, 3) := by decide +kernel
theorem dX3_play_23 : decode cX3_play 23 = .ok (.invokevirtual 33, 3) := by decide +kernel
theorem dX3_play_26 : decode cX3_play 26 = .ok (.ifCond .eq 10, 3) := by decide +kernel
theorem dX3_play_29 : decode cX3_play 29 = .ok (.aload_n 0, 1) := by decide +kernel
theorem dX3_play_30 : decode cX3_play 30 = .ok (.invokevirtual 53, 3) := by decide +kernel
theorem dX3_play_33 : decode cX3_play 33 = .ok (.goto 7, 3) := by decide +kernel
theorem dX3_play_36 : decode cX3_play 36 = .ok (.aload_n 0, 1) := by decide +kernel
theorem dX3_play_37 : decode cX3_play 37 = .ok (.invokevirtual 56, 3) := by decide +kernel
theorem dX3_play_40 : decode cX3_play 40 = .ok (.aload_n 0, 1) := by decide +kernel
theorem dX3_play_41 : decode cX3_play 41 = .ok (.dup, 1) := by decide +kernel
theorem dX3_play_42 : decode cX3_play 42 = .ok (.getfield 30, 3) := by decide +kernel
theorem dX3_play_45 : decode cX3_play 45 = .ok (.iconst 1, 1) := by decide +kernel
theorem dX3_play_46 : decode cX3_play 46 = .ok (.iadd, 1) := by decide +kernel
theorem dX3_play_47 : decode cX3_play 47 = .ok (.putfield 30, 3) := by decide +kernel
theorem dX3_play_50 : decode cX3_play 50 = .ok (.return_, 1) := by decide +kernel
theorem dX3_playUnit_0 : decode cX3_playUnit 0 = .ok (.aload_n 0, 1) := by decide +kernel
theorem dX3_playUnit_1 : decode cX3_playUnit 1 = .ok (.dup, 1) := by decide +kernel
theorem dX3_playUnit_2 : decode cX3_playUnit 2 = .ok (.getfield 37, 3) := by decide +kernel
theorem dX3_playUnit_5 : decode cX3_playUnit 5 = .ok (.aload_n 0, 1) := by decide +kernel
theorem dX3_playUnit_6 : decode cX3_playUnit 6 = .ok (.getfield 30, 3) := by decide +kernel
theorem dX3_playUnit_9 : decode cX3_playUnit 9 = .ok (.invokestatic 40, 3) := by decide +kernel
theorem dX3_playUnit_12 : decode cX3_playUnit 12 = .ok (.iconst (-1), 1) := by decide +kernel
theorem dX3_playUnit_13 : decode cX3_playUnit 13 = .ok (.ixor, 1) := by decide +kernel
theorem dX3_playUnit_14 : decode cX3_playUnit 14 = .ok (.iand, 1) := by decide +kernel
theorem dX3_playUnit_15 : decode cX3_playUnit 15 = .ok (.putfield 37, 3) := by decide +kernel
theorem dX3_playUnit_18 : decode cX3_playUnit 18 = .ok (.aload_n 0, 1) := by decide +kernel
theorem dX3_playUnit_19 : decode cX3_playUnit 19 = .ok (.dup, 1) := by decide +kernel
theorem dX3_playUnit_20 : decode cX3_playUnit 20 = .ok (.getfield 59, 3) := by decide +kernel
theorem dX3_playUnit_23 : decode cX3_playUnit 23 = .ok (.iconst 1, 1) := by decide +kernel
theorem dX3_playUnit_24 : decode cX3_playUnit 24 = .ok (.iadd, 1) := by decide +kernel
theorem dX3_playUnit_25 : decode cX3_playUnit 25 = .ok (.putfield 59, 3) := by decide +kernel
theorem dX3_playUnit_28 : decode cX3_playUnit 28 = .ok (.aload_n 0, 1) := by decide +kernel
theorem dX3_playUnit_29 : decode cX3_playUnit 29 = .ok (.iconst 0, 1) := by decide +kernel
theorem dX3_playUnit_30 : decode cX3_playUnit 30 = .ok (.putfield 50, 3) := by decide +kernel
theorem dX3_playUnit_33 : decode cX3_playUnit 33 = .ok (.aload_n 0, 1) := by decide +kernel
theorem dX3_playUnit_34 : decode cX3_playUnit 34 = .ok (.aload_n 0, 1) := by decide +kernel
theorem dX3_playUnit_35 : decode cX3_playUnit 35 = .ok (.getfield 9, 3) := by decide +kernel
theorem dX3_playUnit_38 : decode cX3_playUnit 38 = .ok (.aload_n 0, 1) := by decide +kernel
theorem dX3_playUnit_39 : decode cX3_playUnit 39 = .ok (.getfield 30, 3) := by decide +kernel
theorem dX3_playUnit_42 : decode cX3_playUnit 42 = .ok (.invokestatic 44, 3) := by decide +kernel
theorem dX3_playUnit_45 : decode cX3_playUnit 45 = .ok (.iaload, 1) := by decide +kernel
theorem dX3_playUnit_46 : decode cX3_playUnit 46 = .ok (.invokevirtual 62, 3) := by decide +kernel
theorem dX3_playUnit_49 : decode cX3_playUnit 49 = .ok (.return_, 1) := by decide +kernel
theorem dX3_playGap_0 : decode cX3_playGap 0 = .ok (.aload_n 0, 1) := by decide +kernel
theorem dX3_playGap_1 : decode cX3_playGap 1 = .ok (.dup, 1) := by decide +kernel
theorem dX3_playGap_2 : decode cX3_playGap 2 = .ok (.getfield 66, 3) := by decide +kernel
theorem dX3_playGap_5 : decode cX3_playGap 5 = .ok (.iconst 1, 1) := by decide +kernel
theorem dX3_playGap_6 : decode cX3_playGap 6 = .ok (.iadd, 1) := by decide +kernel
theorem dX3_playGap_7 : decode cX3_playGap 7 = .ok (.putfield 66, 3) := by decide +kernel
theorem dX3_playGap_10 : decode cX3_playGap 10 = .ok (.aload_n 0, 1) := by decide +kernel
theorem dX3_playGap_11 : decode cX3_playGap 11 = .ok (.dup, 1) := by decide +kernel
theorem dX3_playGap_12 : decode cX3_playGap 12 = .ok (.getfield 50, 3) := by decide +kernel
theorem dX3_playGap_15 : decode cX3_playGap 15 = .ok (.iconst 1, 1) := by decide +kernel
theorem dX3_playGap_16 : decode cX3_playGap 16 = .ok (.iadd, 1) := by decide +kernel
theorem dX3_playGap_17 : decode cX3_playGap 17 = .ok (.putfield 50, 3) := by decide +kernel
theorem dX3_playGap_20 : decode cX3_playGap 20 = .ok (.aload_n 0, 1) := by decide +kernel
theorem dX3_playGap_21 : decode cX3_playGap 21 = .ok (.iconst (-1), 1) := by decide +kernel
theorem dX3_playGap_22 : decode cX3_playGap 22 = .ok (.invokevirtual 62, 3) := by decide +kernel
theorem dX3_playGap_25 : decode cX3_playGap 25 = .ok (.aload_n 0, 1) := by decide +kernel
theorem dX3_playGap_26 : decode cX3_playGap 26 = .ok (.getfield 50, 3) := by decide +kernel
theorem dX3_playGap_29 : decode cX3_playGap 29 = .ok (.iconst 4, 1) := by decide +kernel
theorem dX3_playGap_30 : decode cX3_playGap 30 = .ok (.if_icmp .lt 8, 3) := by decide +kernel
theorem dX3_playGap_33 : decode cX3_playGap 33 = .ok (.aload_n 0, 1) := by decide +kernel
theorem dX3_playGap_34 : decode cX3_playGap 34 = .ok (.iconst 0, 1) := by decide +kernel
theorem dX3_playGap_35 : decode cX3_playGap 35 = .ok (.putfield 19, 3) := by decide +kernel
theorem dX3_playGap_38 : decode cX3_playGap 38 = .ok (.return_, 1) := by decide +kernel
theorem dX3_addToSum_0 : decode cX3_addToSum 0 = .ok (.aload_n 0, 1) := by decide +kernel
theorem dX3_addToSum_1 : decode cX3_addToSum 1 = .ok (.aload_n 0, 1) := by decide +kernel
theorem dX3_addToSum_2 : decode cX3_addToSum 2 = .ok (.getfield 69, 3) := by decide +kernel
theorem dX3_addToSum_5 : decode cX3_addToSum 5 = .ok (.bipush 31, 2) := by decide +kernel
theorem dX3_addToSum_7 : decode cX3_addToSum 7 = .ok (.imul, 1) := by decide +kernel
theorem dX3_addToSum_8 : decode cX3_addToSum 8 = .ok (.iload_n 1, 1) := by decide +kernel
theorem dX3_addToSum_9 : decode cX3_addToSum 9 = .ok (.iadd, 1) := by decide +kernel
theorem dX3_addToSum_10 : decode cX3_addToSum 10 = .ok (.putfield 69, 3) := by decide +kernel
theorem dX3_addToSum_13 : decode cX3_addToSum 13 = .ok (.return_, 1) := by decide +kernel
theorem dX3_isKept_0 : decode cX3_isKept 0 = .ok (.aload_n 0, 1) := by decide +kernel
theorem dX3_isKept_1 : decode cX3_isKept 1 = .ok (.getfield 37, 3) := by decide +kernel
theorem dX3_isKept_4 : decode cX3_isKept 4 = .ok (.iload_n 1, 1) := by decide +kernel
theorem dX3_isKept_5 : decode cX3_isKept 5 = .ok (.invokestatic 40, 3) := by decide +kernel
theorem dX3_isKept_8 : decode cX3_isKept 8 = .ok (.iand, 1) := by decide +kernel
theorem dX3_isKept_9 : decode cX3_isKept 9 = .ok (.ifCond .eq 7, 3) := by decide +kernel
theorem dX3_isKept_12 : decode cX3_isKept 12 = .ok (.iconst 1, 1) := by decide +kernel
theorem dX3_isKept_13 : decode cX3_isKept 13 = .ok (.goto 4, 3) := by decide +kernel
theorem dX3_isKept_16 : decode cX3_isKept 16 = .ok (.iconst 0, 1) := by decide +kernel
theorem dX3_isKept_17 : decode cX3_isKept 17 = .ok (.ireturn, 1) := by decide +kernel
theorem dX3_bitOf_0 : decode cX3_bitOf 0 = .ok (.iconst 1, 1) := by decide +kernel
theorem dX3_bitOf_1 : decode cX3_bitOf 1 = .ok (.iload_n 0, 1) := by decide +kernel
theorem dX3_bitOf_2 : decode cX3_bitOf 2 = .ok (.invokestatic 44, 3) := by decide +kernel
theorem dX3_bitOf_5 : decode cX3_bitOf 5 = .ok (.ishl, 1) := by decide +kernel
theorem dX3_bitOf_6 : decode cX3_bitOf 6 = .ok (.ireturn, 1) := by decide +kernel
theorem dX3_slotOf_0 : decode cX3_slotOf 0 = .ok (.iload_n 0, 1) := by decide +kernel
theorem dX3_slotOf_1 : decode cX3_slotOf 1 = .ok (.bipush 15, 2) := by decide +kernel
theorem dX3_slotOf_3 : decode cX3_slotOf 3 = .ok (.iand, 1) := by decide +kernel
theorem dX3_slotOf_4 : decode cX3_slotOf 4 = .ok (.ireturn, 1) := by decide +kernel
theorem dX3_field_0 : decode cX3_field 0 = .ok (.iload_n 1, 1) := by decide +kernel
theorem dX3_field_1 : decode cX3_field 1 = .ok (.tableswitch 77 8 13 #[39, 44, 57, 62, 67, 72], 39) := by decide +kernel
theorem dX3_field_40 : decode cX3_field 40 = .ok (.aload_n 0, 1) := by decide +kernel
theorem dX3_field_41 : decode cX3_field 41 = .ok (.getfield 15, 3) := by decide +kernel
theorem dX3_field_44 : decode cX3_field 44 = .ok (.ireturn, 1) := by decide +kernel
theorem dX3_field_45 : decode cX3_field 45 = .ok (.aload_n 0, 1) := by decide +kernel
theorem dX3_field_46 : decode cX3_field 46 = .ok (.getfield 19, 3) := by decide +kernel
theorem dX3_field_49 : decode cX3_field 49 = .ok (.ifCond .eq 7, 3) := by decide +kernel
theorem dX3_field_52 : decode cX3_field 52 = .ok (.iconst 1, 1) := by decide +kernel
theorem dX3_field_53 : decode cX3_field 53 = .ok (.goto 4, 3) := by decide +kernel
theorem dX3_field_56 : decode cX3_field 56 = .ok (.iconst 0, 1) := by decide +kernel
theorem dX3_field_57 : decode cX3_field 57 = .ok (.ireturn, 1) := by decide +kernel
theorem dX3_field_58 : decode cX3_field 58 = .ok (.aload_n 0, 1) := by decide +kernel
theorem dX3_field_59 : decode cX3_field 59 = .ok (.getfield 30, 3) := by decide +kernel
theorem dX3_field_62 : decode cX3_field 62 = .ok (.ireturn, 1) := by decide +kernel
theorem dX3_field_63 : decode cX3_field 63 = .ok (.aload_n 0, 1) := by decide +kernel
theorem dX3_field_64 : decode cX3_field 64 = .ok (.getfield 59, 3) := by decide +kernel
theorem dX3_field_67 : decode cX3_field 67 = .ok (.ireturn, 1) := by decide +kernel
theorem dX3_field_68 : decode cX3_field 68 = .ok (.aload_n 0, 1) := by decide +kernel
theorem dX3_field_69 : decode cX3_field 69 = .ok (.getfield 66, 3) := by decide +kernel
theorem dX3_field_72 : decode cX3_field 72 = .ok (.ireturn, 1) := by decide +kernel
theorem dX3_field_73 : decode cX3_field 73 = .ok (.aload_n 0, 1) := by decide +kernel
theorem dX3_field_74 : decode cX3_field 74 = .ok (.getfield 23, 3) := by decide +kernel
theorem dX3_field_77 : decode cX3_field 77 = .ok (.ireturn, 1) := by decide +kernel
theorem dX3_field_78 : decode cX3_field 78 = .ok (.aload_n 0, 1) := by decide +kernel
theorem dX3_field_79 : decode cX3_field 79 = .ok (.getfield 69, 3) := by decide +kernel
theorem dX3_field_82 : decode cX3_field 82 = .ok (.ireturn, 1) := by decide +kernel
theorem dX4_init_0 : decode cX4_init 0 = .ok (.aload_n 0, 1) := by decide +kernel
theorem dX4_init_1 : decode cX4_init 1 = .ok (.invokespecial 3, 3) := by decide +kernel
theorem dX4_init_4 : decode cX4_init 4 = .ok (.aload_n 0, 1) := by decide +kernel
theorem dX4_init_5 : decode cX4_init 5 = .ok (.iconst 0, 1) := by decide +kernel
theorem dX4_init_6 : decode cX4_init 6 = .ok (.putfield 9, 3) := by decide +kernel
theorem dX4_init_9 : decode cX4_init 9 = .ok (.aload_n 0, 1) := by decide +kernel
theorem dX4_init_10 : decode cX4_init 10 = .ok (.iconst (-1), 1) := by decide +kernel
theorem dX4_init_11 : decode cX4_init 11 = .ok (.putfield 15, 3) := by decide +kernel
theorem dX4_init_14 : decode cX4_init 14 = .ok (.aload_n 0, 1) := by decide +kernel
theorem dX4_init_15 : decode cX4_init 15 = .ok (.new 18, 3) := by decide +kernel
theorem dX4_init_18 : decode cX4_init 18 = .ok (.dup, 1) := by decide +kernel
theorem dX4_init_19 : decode cX4_init 19 = .ok (.invokespecial 20, 3) := by decide +kernel
theorem dX4_init_22 : decode cX4_init 22 = .ok (.putfield 21, 3) := by decide +kernel
theorem dX4_init_25 : decode cX4_init 25 = .ok (.return_, 1) := by decide +kernel
theorem dX4_isAsking_0 : decode cX4_isAsking 0 = .ok (.aload_n 0, 1) := by decide +kernel
theorem dX4_isAsking_1 : decode cX4_isAsking 1 = .ok (.getfield 9, 3) := by decide +kernel
theorem dX4_isAsking_4 : decode cX4_isAsking 4 = .ok (.iconst 1, 1) := by decide +kernel
theorem dX4_isAsking_5 : decode cX4_isAsking 5 = .ok (.if_icmp .eq 11, 3) := by decide +kernel
theorem dX4_isAsking_8 : decode cX4_isAsking 8 = .ok (.aload_n 0, 1) := by decide +kernel
theorem dX4_isAsking_9 : decode cX4_isAsking 9 = .ok (.getfield 9, 3) := by decide +kernel
theorem dX4_isAsking_12 : decode cX4_isAsking 12 = .ok (.iconst 2, 1) := by decide +kernel
theorem dX4_isAsking_13 : decode cX4_isAsking 13 = .ok (.if_icmp .ne 7, 3) := by decide +kernel
theorem dX4_isAsking_16 : decode cX4_isAsking 16 = .ok (.iconst 1, 1) := by decide +kernel
theorem dX4_isAsking_17 : decode cX4_isAsking 17 = .ok (.goto 4, 3) := by decide +kernel
theorem dX4_isAsking_20 : decode cX4_isAsking 20 = .ok (.iconst 0, 1) := by decide +kernel
theorem dX4_isAsking_21 : decode cX4_isAsking 21 = .ok (.ireturn, 1) := by decide +kernel
theorem dX4_isTalking_0 : decode cX4_isTalking 0 = .ok (.aload_n 0, 1) := by decide +kernel
theorem dX4_isTalking_1 : decode cX4_isTalking 1 = .ok (.getfield 9, 3) := by decide +kernel
theorem dX4_isTalking_4 : decode cX4_isTalking 4 = .ok (.iconst 3, 1) := by decide +kernel
theorem dX4_isTalking_5 : decode cX4_isTalking 5 = .ok (.if_icmp .eq 11, 3) := by decide +kernel
theorem dX4_isTalking_8 : decode cX4_isTalking 8 = .ok (.aload_n 0, 1) := by decide +kernel
theorem dX4_isTalking_9 : decode cX4_isTalking 9 = .ok (.getfield 9, 3) := by decide +kernel
theorem dX4_isTalking_12 : decode cX4_isTalking 12 = .ok (.iconst 4, 1) := by decide +kernel
theorem dX4_isTalking_13 : decode cX4_isTalking 13 = .ok (.if_icmp .ne 7, 3) := by decide +kernel
theorem dX4_isTalking_16 : decode cX4_isTalking 16 = .ok (.iconst 1, 1) := by decide +kernel
theorem dX4_isTalking_17 : decode cX4_isTalking 17 = .ok (.goto 4, 3) := by decide +kernel
theorem dX4_isTalking_20 : decode cX4_isTalking 20 = .ok (.iconst 0, 1) := by decide +kernel
theorem dX4_isTalking_21 : decode cX4_isTalking 21 = .ok (.ireturn, 1) := by decide +kernel
theorem dX4_goAway_0 : decode cX4_goAway 0 = .ok (.aload_n 0, 1) := by decide +kernel
theorem dX4_goAway_1 : decode cX4_goAway 1 = .ok (.iconst 0, 1) := by decide +kernel
theorem dX4_goAway_2 : decode cX4_goAway 2 = .ok (.putfield 25, 3) := by decide +kernel
theorem dX4_goAway_5 : decode cX4_goAway 5 = .ok (.aload_n 0, 1) := by decide +kernel
theorem dX4_goAway_6 : decode cX4_goAway 6 = .ok (.iconst 0, 1) := by decide +kernel
theorem dX4_goAway_7 : decode cX4_goAway 7 = .ok (.putfield 9, 3) := by decide +kernel
theorem dX4_goAway_10 : decode cX4_goAway 10 = .ok (.aload_n 0, 1) := by decide +kernel
theorem dX4_goAway_11 : decode cX4_goAway 11 = .ok (.getfield 21, 3) := by decide +kernel
theorem dX4_goAway_14 : decode cX4_goAway 14 = .ok (.iconst 0, 1) := by decide +kernel
theorem dX4_goAway_15 : decode cX4_goAway 15 = .ok (.putfield 29, 3) := by decide +kernel
theorem dX4_goAway_18 : decode cX4_goAway 18 = .ok (.return_, 1) := by decide +kernel
theorem dX4_hear_0 : decode cX4_hear 0 = .ok (.aload_n 0, 1) := by decide +kernel
theorem dX4_hear_1 : decode cX4_hear 1 = .ok (.getfield 25, 3) := by decide +kernel
theorem dX4_hear_4 : decode cX4_hear 4 = .ok (.ifCond .ne 4, 3) := by decide +kernel
theorem dX4_hear_7 : decode cX4_hear 7 = .ok (.return_, 1) := by decide +kernel
theorem dX4_hear_8 : decode cX4_hear 8 = .ok (.aload_n 1, 1) := by decide +kernel
theorem dX4_hear_9 : decode cX4_hear 9 = .ok (.getfield 32, 3) := by decide +kernel
theorem dX4_hear_12 : decode cX4_hear 12 = .ok (.tableswitch 116 3 8 #[40, 40, 40, 48, 75, 101], 40) := by decide +kernel
theorem dX4_hear_52 : decode cX4_hear 52 = .ok (.aload_n 0, 1) := by decide +kernel
theorem dX4_hear_53 : decode cX4_hear 53 = .ok (.aload_n 1, 1) := by decide +kernel
theorem dX4_hear_54 : decode cX4_hear 54 = .ok (.invokevirtual 37, 3) := by decide +kernel
theorem dX4_hear_57 : decode cX4_hear 57 = .ok (.goto 91, 3) := by decide +kernel
theorem dX4_hear_60 : decode cX4_hear 60 = .ok (.aload_n 0, 1) := by decide +kernel
theorem dX4_hear_61 : decode cX4_hear 61 = .ok (.getfield 9, 3) := by decide +kernel
theorem dX4_hear_64 : decode cX4_hear 64 = .ok (.iconst 3, 1) := by decide +kernel
theorem dX4_hear_65 : decode cX4_hear 65 = .ok (.if_icmp .ne 83, 3) := by decide +kernel
theorem dX4_hear_68 : decode cX4_hear 68 = .ok (.aload_n 0, 1) := by decide +kernel
theorem dX4_hear_69 : decode cX4_hear 69 = .ok (.getfield 41, 3) := by decide +kernel
theorem dX4_hear_72 : decode cX4_hear 72 = .ok (.aload_n 1, 1) := by decide +kernel
theorem dX4_hear_73 : decode cX4_hear 73 = .ok (.getfield 44, 3) := by decide +kernel
theorem dX4_hear_76 : decode cX4_hear 76 = .ok (.if_icmp .ne 72, 3) := by decide +kernel
theorem dX4_hear_79 : decode cX4_hear 79 = .ok (.aload_n 0, 1) := by decide +kernel
theorem dX4_hear_80 : decode cX4_hear 80 = .ok (.iconst 4, 1) := by decide +kernel
theorem dX4_hear_81 : decode cX4_hear 81 = .ok (.putfield 9, 3) := by decide +kernel
theorem dX4_hear_84 : decode cX4_hear 84 = .ok (.goto 64, 3) := by decide +kernel
theorem dX4_hear_87 : decode cX4_hear 87 = .ok (.aload_n 0, 1) := by decide +kernel
theorem dX4_hear_88 : decode cX4_hear 88 = .ok (.invokevirtual 47, 3) := by decide +kernel
theorem dX4_hear_91 : decode cX4_hear 91 = .ok (.ifCond .eq 57, 3) := by decide +kernel
theorem dX4_hear_94 : decode cX4_hear 94 = .ok (.aload_n 0, 1) := by decide +kernel
theorem dX4_hear_95 : decode cX4_hear 95 = .ok (.getfield 41, 3) := by decide +kernel
theorem dX4_hear_98 : decode cX4_hear 98 = .ok (.aload_n 1, 1) := by decide +kernel
theorem dX4_hear_99 : decode cX4_hear 99 = .ok (.getfield 44, 3) := by decide +kernel
theorem dX4_hear_102 : decode cX4_hear 102 = .ok (.if_icmp .ne 46, 3) := by decide +kernel
theorem dX4_hear_105 : decode cX4_hear 105 = .ok (.aload_n 0, 1) := by decide +kernel
theorem dX4_hear_106 : decode cX4_hear 106 = .ok (.iconst 0, 1) := by decide +kernel
theorem dX4_hear_107 : decode cX4_hear 107 = .ok (.putfield 9, 3) := by decide +kernel
theorem dX4_hear_110 : decode cX4_hear 110 = .ok (.goto 38, 3) := by decide +kernel
theorem dX4_hear_113 : decode cX4_hear 113 = .ok (.aload_n 0, 1) := by decide +kernel
theorem dX4_hear_114 : decode cX4_hear 114 = .ok (.aload_n 1, 1) := by decide +kernel
theorem dX4_hear_115 : decode cX4_hear 115 = .ok (.getfield 44, 3) := by decide +kernel
theorem dX4_hear_118 : decode cX4_hear 118 = .ok (.aload_n 1, 1) := by decide +kernel
theorem dX4_hear_119 : decode cX4_hear 119 = .ok (.getfield 51, 3) := by decide +kernel
theorem dX4_hear_122 : decode cX4_hear 122 = .ok (.invokevirtual 54, 3) := by decide +kernel
theorem dX4_hear_125 : decode cX4_hear 125 = .ok (.goto 23, 3) := by decide +kernel
theorem dX4_hear_128 : decode cX4_hear 128 = .ok (.aload_n 0, 1) := by decide +kernel
theorem dX4_hear_129 : decode cX4_hear 129 = .ok (.getfield 21, 3) := by decide +kernel
theorem dX4_hear_132 : decode cX4_hear 132 = .ok (.aload_n 1, 1) := by decide +kernel
theorem dX4_hear_133 : decode cX4_hear 133 = .ok (.getfield 44, 3) := by decide +kernel
theorem dX4_hear_136 : decode cX4_hear 136 = .ok (.aload_n 1, 1) := by decide +kernel
theorem dX4_hear_137 : decode cX4_hear 137 = .ok (.getfield 51, 3) := by decide +kernel
theorem dX4_hear_140 : decode cX4_hear 140 = .ok (.aload_n 1, 1) := by decide +kernel
theorem dX4_hear_141 : decode cX4_hear 141 = .ok (.getfield 58, 3) := by decide +kernel
theorem dX4_hear_144 : decode cX4_hear 144 = .ok (.iload_n 2, 1) := by decide +kernel
theorem dX4_hear_145 : decode cX4_hear 145 = .ok (.invokevirtual 61, 3) := by decide +kernel
theorem dX4_hear_148 : decode cX4_hear 148 = .ok (.return_, 1) := by decide +kernel
theorem dX4_hearAnswer_0 : decode cX4_hearAnswer 0 = .ok (.aload_n 0, 1) := by decide +kernel
theorem dX4_hearAnswer_1 : decode cX4_hearAnswer 1 = .ok (.invokevirtual 65, 3) := by decide +kernel
theorem dX4_hearAnswer_4 : decode cX4_hearAnswer 4 = .ok (.ifCond .eq 14, 3) := by decide +kernel
theorem dX4_hearAnswer_7 : decode cX4_hearAnswer 7 = .ok (.aload_n 1, 1) := by decide +kernel
theorem dX4_hearAnswer_8 : decode cX4_hearAnswer 8 = .ok (.getfield 44, 3) := by decide +kernel
theorem dX4_hearAnswer_11 : decode cX4_hearAnswer 11 = .ok (.aload_n 0, 1) := by decide +kernel
theorem dX4_hearAnswer_12 : decode cX4_hearAnswer 12 = .ok (.getfield 68, 3) := by decide +kernel
theorem dX4_hearAnswer_15 : decode cX4_hearAnswer 15 = .ok (.if_icmp .eq 4, 3) := by decide +kernel
theorem dX4_hearAnswer_18 : decode cX4_hearAnswer 18 = .ok (.return_, 1) := by decide +kernel
theorem dX4_hearAnswer_19 : decode cX4_hearAnswer 19 = .ok (.aload_n 1, 1) := by decide +kernel
theorem dX4_hearAnswer_20 : decode cX4_hearAnswer 20 = .ok (.getfield 32, 3) := by decide +kernel
theorem dX4_hearAnswer_23 : decode cX4_hearAnswer 23 = .ok (.iconst 3, 1) := by decide +kernel
theorem dX4_hearAnswer_24 : decode cX4_hearAnswer 24 = .ok (.if_icmp .ne 24, 3) := by decide +kernel
theorem dX4_hearAnswer_27 : decode cX4_hearAnswer 27 = .ok (.aload_n 0, 1) := by decide +kernel
theorem dX4_hearAnswer_28 : decode cX4_hearAnswer 28 = .ok (.iconst 3, 1) := by decide +kernel
theorem dX4_hearAnswer_29 : decode cX4_hearAnswer 29 = .ok (.putfield 9, 3) := by decide +kernel
theorem dX4_hearAnswer_32 : decode cX4_hearAnswer 32 = .ok (.aload_n 0, 1) := by decide +kernel
theorem dX4_hearAnswer_33 : decode cX4_hearAnswer 33 = .ok (.aload_n 1, 1) := by decide +kernel
theorem dX4_hearAnswer_34 : decode cX4_hearAnswer 34 = .ok (.getfield 51, 3) := by decide +kernel
theorem dX4_hearAnswer_37 : decode cX4_hearAnswer 37 = .ok (.putfield 41, 3) := by decide +kernel
theorem dX4_hearAnswer_40 : decode cX4_hearAnswer 40 = .ok (.aload_n 0, 1) := by decide +kernel
theorem dX4_hearAnswer_41 : decode cX4_hearAnswer 41 = .ok (.iconst 0, 1) := by decide +kernel
theorem dX4_hearAnswer_42 : decode cX4_hearAnswer 42 = .ok (.putfield 71, 3) := by decide +kernel
theorem dX4_hearAnswer_45 : decode cX4_hearAnswer 45 = .ok (.goto 32, 3) := by decide +kernel
theorem dX4_hearAnswer_48 : decode cX4_hearAnswer 48 = .ok (.aload_n 1, 1) := by decide +kernel
theorem dX4_hearAnswer_49 : decode cX4_hearAnswer 49 = .ok (.getfield 32, 3) := by decide +kernel
theorem dX4_hearAnswer_52 : decode cX4_hearAnswer 52 = .ok (.iconst 4, 1) := by decide +kernel
theorem dX4_hearAnswer_53 : decode cX4_hearAnswer 53 = .ok (.if_icmp .ne 19, 3) := by decide +kernel
theorem dX4_hearAnswer_56 : decode cX4_hearAnswer 56 = .ok (.aload_n 0, 1) := by decide +kernel
theorem dX4_hearAnswer_57 : decode cX4_hearAnswer 57 = .ok (.iconst 2, 1) := by decide +kernel
theorem dX4_hearAnswer_58 : decode cX4_hearAnswer 58 = .ok (.putfield 9, 3) := by decide +kernel
theorem dX4_hearAnswer_61 : decode cX4_hearAnswer 61 = .ok (.aload_n 0, 1) := by decide +kernel
theorem dX4_hearAnswer_62 : decode cX4_hearAnswer 62 = .ok (.aload_n 1, 1) := by decide +kernel
theorem dX4_hearAnswer_63 : decode cX4_hearAnswer 63 = .ok (.getfield 51, 3) := by decide +kernel
theorem dX4_hearAnswer_66 : decode cX4_hearAnswer 66 = .ok (.putfield 74, 3) := by decide +kernel
theorem dX4_hearAnswer_69 : decode cX4_hearAnswer 69 = .ok (.goto 8, 3) := by decide +kernel
theorem dX4_hearAnswer_72 : decode cX4_hearAnswer 72 = .ok (.aload_n 0, 1) := by decide +kernel
theorem dX4_hearAnswer_73 : decode cX4_hearAnswer 73 = .ok (.iconst 0, 1) := by decide +kernel
theorem dX4_hearAnswer_74 : decode cX4_hearAnswer 74 = .ok (.putfield 9, 3) := by decide +kernel
theorem dX4_hearAnswer_77 : decode cX4_hearAnswer 77 = .ok (.return_, 1) := by decide +kernel
theorem dX4_hearTalker_0 : decode cX4_hearTalker 0 = .ok (.iload_n 1, 1) := by decide +kernel
theorem dX4_hearTalker_1 : decode cX4_hearTalker 1 = .ok (.aload_n 0, 1) := by decide +kernel
theorem dX4_hearTalker_2 : decode cX4_hearTalker 2 = .ok (.getfield 77, 3) := by decide +kernel
theorem dX4_hearTalker_5 : decode cX4_hearTalker 5 = .ok (.if_icmp .lt 13, 3) := by decide +kernel
theorem dX4_hearTalker_8 : decode cX4_hearTalker 8 = .ok (.aload_n 0, 1) := by decide +kernel
theorem dX4_hearTalker_9 : decode cX4_hearTalker 9 = .ok (.iload_n 1, 1) := by decide +kernel
theorem dX4_hearTalker_10 : decode cX4_hearTalker 10 = .ok (.putfield 77, 3) := by decide +kernel
theorem dX4_hearTalker_13 : decode cX4_hearTalker 13 = .ok (.aload_n 0, 1) := by decide +kernel
theorem dX4_hearTalker_14 : decode cX4_hearTalker 14 = .ok (.iload_n 2, 1) := by decide +kernel
theorem dX4_hearTalker_15 : decode cX4_hearTalker 15 = .ok (.putfield 15, 3) := by decide +kernel
theorem dX4_hearTalker_18 : decode cX4_hearTalker 18 = .ok (.return_, 1) := by decide +kernel
theorem dX4_field_0 : decode cX4_field 0 = .ok (.iload_n 1, 1) := by decide +kernel
theorem dX4_field_1 : decode cX4_field 1 = .ok (.tableswitch 86 0 6 #[43, 56, 61, 66, 71, 76, 81], 43) := by decide +kernel
theorem dX4_field_44 : decode cX4_field 44 = .ok (.aload_n 0, 1) := by decide +kernel
theorem dX4_field_45 : decode cX4_field 45 = .ok (.getfield 25, 3) := by decide +kernel
theorem dX4_field_48 : decode cX4_field 48 = .ok (.ifCond .eq 7, 3) := by decide +kernel
theorem dX4_field_51 : decode cX4_field 51 = .ok (.iconst 1, 1) := by decide +kernel
theorem dX4_field_52 : decode cX4_field 52 = .ok (.goto 4, 3) := by decide +kernel
theorem dX4_field_55 : decode cX4_field 55 = .ok (.iconst 0, 1) := by decide +kernel
theorem dX4_field_56 : decode cX4_field 56 = .ok (.ireturn, 1) := by decide +kernel
theorem dX4_field_57 : decode cX4_field 57 = .ok (.aload_n 0, 1) := by decide +kernel
theorem dX4_field_58 : decode cX4_field 58 = .ok (.getfield 80, 3) := by decide +kernel
theorem dX4_field_61 : decode cX4_field 61 = .ok (.ireturn, 1) := by decide +kernel
theorem dX4_field_62 : decode cX4_field 62 = .ok (.aload_n 0, 1) := by decide +kernel
theorem dX4_field_63 : decode cX4_field 63 = .ok (.getfield 9, 3) := by decide +kernel
theorem dX4_field_66 : decode cX4_field 66 = .ok (.ireturn, 1) := by decide +kernel
theorem dX4_field_67 : decode cX4_field 67 = .ok (.aload_n 0, 1) := by decide +kernel
theorem dX4_field_68 : decode cX4_field 68 = .ok (.getfield 68, 3) := by decide +kernel
theorem dX4_field_71 : decode cX4_field 71 = .ok (.ireturn, 1) := by decide +kernel
theorem dX4_field_72 : decode cX4_field 72 = .ok (.aload_n 0, 1) := by decide +kernel
theorem dX4_field_73 : decode cX4_field 73 = .ok (.getfield 74, 3) := by decide +kernel
theorem dX4_field_76 : decode cX4_field 76 = .ok (.ireturn, 1) := by decide +kernel
theorem dX4_field_77 : decode cX4_field 77 = .ok (.aload_n 0, 1) := by decide +kernel
theorem dX4_field_78 : decode cX4_field 78 = .ok (.getfield 41, 3) := by decide +kernel
theorem dX4_field_81 : decode cX4_field 81 = .ok (.ireturn, 1) := by decide +kernel
theorem dX4_field_82 : decode cX4_field 82 = .ok (.aload_n 0, 1) := by decide +kernel
theorem dX4_field_83 : decode cX4_field 83 = .ok (.getfield 71, 3) := by decide +kernel
theorem dX4_field_86 : decode cX4_field 86 = .ok (.ireturn, 1) := by decide +kernel
theorem dX4_field_87 : decode cX4_field 87 = .ok (.aload_n 0, 1) := by decide +kernel
theorem dX4_field_88 : decode cX4_field 88 = .ok (.getfield 15, 3) := by decide +kernel
theorem dX4_field_91 : decode cX4_field 91 = .ok (.ireturn, 1) := by decide +kernel
theorem dX5_init_0 : decode cX5_init 0 = .ok (.aload_n 0, 1) := by decide +kernel
theorem dX5_init_1 : decode cX5_init 1 = .ok (.invokespecial 1, 3) := by decide +kernel
theorem dX5_init_4 : decode cX5_init 4 = .ok (.return_, 1) := by decide +kernel
theorem dX5_field_0 : decode cX5_field 0 = .ok (.iload_n 1, 1) := by decide +kernel
theorem dX5_field_1 : decode cX5_field 1 = .ok (.tableswitch 60 0 4 #[35, 40, 45, 50, 55], 35) := by decide +kernel
theorem dX5_field_36 : decode cX5_field 36 = .ok (.aload_n 0, 1) := by decide +kernel
theorem dX5_field_37 : decode cX5_field 37 = .ok (.getfield 7, 3) := by decide +kernel
theorem dX5_field_40 : decode cX5_field 40 = .ok (.ireturn, 1) := by decide +kernel
theorem dX5_field_41 : decode cX5_field 41 = .ok (.aload_n 0, 1) := by decide +kernel
theorem dX5_field_42 : decode cX5_field 42 = .ok (.getfield 13, 3) := by decide +kernel
theorem dX5_field_45 : decode cX5_field 45 = .ok (.ireturn, 1) := by decide +kernel
theorem dX5_field_46 : decode cX5_field 46 = .ok (.aload_n 0, 1) := by decide +kernel
theorem dX5_field_47 : decode cX5_field 47 = .ok (.getfield 16, 3) := by decide +kernel
theorem dX5_field_50 : decode cX5_field 50 = .ok (.ireturn, 1) := by decide +kernel
theorem dX5_field_51 : decode cX5_field 51 = .ok (.aload_n 0, 1) := by decide +kernel
theorem dX5_field_52 : decode cX5_field 52 = .ok (.getfield 19, 3) := by decide +kernel
theorem dX5_field_55 : decode cX5_field 55 = .ok (.ireturn, 1) := by decide +kernel
theorem dX5_field_56 : decode cX5_field 56 = .ok (.aload_n 0, 1) := by decide +kernel
theorem dX5_field_57 : decode cX5_field 57 = .ok (.getfield 22, 3) := by decide +kernel
theorem dX5_field_60 : decode cX5_field 60 = .ok (.ireturn, 1) := by decide +kernel
theorem dX5_field_61 : decode cX5_field 61 = .ok (.aload_n 0, 1) := by decide +kernel
theorem dX5_field_62 : decode cX5_field 62 = .ok (.getfield 25, 3) := by decide +kernel
theorem dX5_field_65 : decode cX5_field 65 = .ok (.ireturn, 1) := by decide +kernel
theorem dX6_init_0 : decode cX6_init 0 = .ok (.aload_n 0, 1) := by decide +kernel
theorem dX6_init_1 : decode cX6_init 1 = .ok (.invokespecial 3, 3) := by decide +kernel
theorem dX6_init_4 : decode cX6_init 4 = .ok (.aload_n 0, 1) := by decide +kernel
theorem dX6_init_5 : decode cX6_init 5 = .ok (.bipush 61, 2) := by decide +kernel
theorem dX6_init_7 : decode cX6_init 7 = .ok (.anewarray 11, 3) := by decide +kernel
theorem dX6_init_10 : decode cX6_init 10 = .ok (.putfield 13, 3) := by decide +kernel
theorem dX6_init_13 : decode cX6_init 13 = .ok (.aload_n 0, 1) := by decide +kernel
theorem dX6_init_14 : decode cX6_init 14 = .ok (.bipush 61, 2) := by decide +kernel
theorem dX6_init_16 : decode cX6_init 16 = .ok (.newarray .int, 2) := by decide +kernel
theorem dX6_init_18 : decode cX6_init 18 = .ok (.putfield 17, 3) := by decide +kernel
theorem dX6_init_21 : decode cX6_init 21 = .ok (.iconst 0, 1) := by decide +kernel
theorem dX6_init_22 : decode cX6_init 22 = .ok (.istore_n 1, 1) := by decide +kernel
theorem dX6_init_23 : decode cX6_init 23 = .ok (.iload_n 1, 1) := by decide +kernel
theorem dX6_init_24 : decode cX6_init 24 = .ok (.bipush 61, 2) := by decide +kernel
theorem dX6_init_26 : decode cX6_init 26 = .ok (.if_icmp .ge 29, 3) := by decide +kernel
theorem dX6_init_29 : decode cX6_init 29 = .ok (.aload_n 0, 1) := by decide +kernel
theorem dX6_init_30 : decode cX6_init 30 = .ok (.getfield 13, 3) := by decide +kernel
theorem dX6_init_33 : decode cX6_init 33 = .ok (.iload_n 1, 1) := by decide +kernel
theorem dX6_init_34 : decode cX6_init 34 = .ok (.new 11, 3) := by decide +kernel
theorem dX6_init_37 : decode cX6_init 37 = .ok (.dup, 1) := by decide +kernel
theorem dX6_init_38 : decode cX6_init 38 = .ok (.invokespecial 21, 3) := by decide +kernel
theorem dX6_init_41 : decode cX6_init 41 = .ok (.aastore, 1) := by decide +kernel
theorem dX6_init_42 : decode cX6_init 42 = .ok (.aload_n 0, 1) := by decide +kernel
theorem dX6_init_43 : decode cX6_init 43 = .ok (.getfield 17, 3) := by decide +kernel
theorem dX6_init_46 : decode cX6_init 46 = .ok (.iload_n 1, 1) := by decide +kernel
theorem dX6_init_47 : decode cX6_init 47 = .ok (.iload_n 1, 1) := by decide +kernel
theorem dX6_init_48 : decode cX6_init 48 = .ok (.iastore, 1) := by decide +kernel
theorem dX6_init_49 : decode cX6_init 49 = .ok (.iinc 1 1, 3) := by decide +kernel
theorem dX6_init_52 : decode cX6_init 52 = .ok (.goto (-29), 3) := by decide +kernel
theorem dX6_init_55 : decode cX6_init 55 = .ok (.return_, 1) := by decide +kernel
theorem dX6_send_0 : decode cX6_send 0 = .ok (.aload_n 0, 1) := by decide +kernel
theorem dX6_send_1 : decode cX6_send 1 = .ok (.getfield 22, 3) := by decide +kernel
theorem dX6_send_4 : decode cX6_send 4 = .ok (.bipush 60, 2) := by decide +kernel
theorem dX6_send_6 : decode cX6_send 6 = .ok (.if_icmp .lt 14, 3) := by decide +kernel
theorem dX6_send_9 : decode cX6_send 9 = .ok (.aload_n 0, 1) := by decide +kernel
theorem dX6_send_10 : decode cX6_send 10 = .ok (.dup, 1) := by decide +kernel
theorem dX6_send_11 : decode cX6_send 11 = .ok (.getfield 26, 3) := by decide +kernel
theorem dX6_send_14 : decode cX6_send 14 = .ok (.iconst 1, 1) := by decide +kernel
theorem dX6_send_15 : decode cX6_send 15 = .ok (.iadd, 1) := by decide +kernel
theorem dX6_send_16 : decode cX6_send 16 = .ok (.putfield 26, 3) := by decide +kernel
theorem dX6_send_19 : decode cX6_send 19 = .ok (.return_, 1) := by decide +kernel
theorem dX6_send_20 : decode cX6_send 20 = .ok (.aload_n 0, 1) := by decide +kernel
theorem dX6_send_21 : decode cX6_send 21 = .ok (.getfield 13, 3) := by decide +kernel
theorem dX6_send_24 : decode cX6_send 24 = .ok (.aload_n 0, 1) := by decide +kernel
theorem dX6_send_25 : decode cX6_send 25 = .ok (.getfield 17, 3) := by decide +kernel
theorem dX6_send_28 : decode cX6_send 28 = .ok (.aload_n 0, 1) := by decide +kernel
theorem dX6_send_29 : decode cX6_send 29 = .ok (.getfield 22, 3) := by decide +kernel
theorem dX6_send_32 : decode cX6_send 32 = .ok (.iaload, 1) := by decide +kernel
theorem dX6_send_33 : decode cX6_send 33 = .ok (.aaload, 1) := by decide +kernel
theorem dX6_send_34 : decode cX6_send 34 = .ok (.astore 7, 2) := by decide +kernel
theorem dX6_send_36 : decode cX6_send 36 = .ok (.aload_n 0, 1) := by decide +kernel
theorem dX6_send_37 : decode cX6_send 37 = .ok (.dup, 1) := by decide +kernel
theorem dX6_send_38 : decode cX6_send 38 = .ok (.getfield 22, 3) := by decide +kernel
theorem dX6_send_41 : decode cX6_send 41 = .ok (.iconst 1, 1) := by decide +kernel
theorem dX6_send_42 : decode cX6_send 42 = .ok (.iadd, 1) := by decide +kernel
theorem dX6_send_43 : decode cX6_send 43 = .ok (.putfield 22, 3) := by decide +kernel
theorem dX6_send_46 : decode cX6_send 46 = .ok (.aload 7, 2) := by decide +kernel
theorem dX6_send_48 : decode cX6_send 48 = .ok (.iload_n 1, 1) := by decide +kernel
theorem dX6_send_49 : decode cX6_send 49 = .ok (.putfield 29, 3) := by decide +kernel
theorem dX6_send_52 : decode cX6_send 52 = .ok (.aload 7, 2) := by decide +kernel
theorem dX6_send_54 : decode cX6_send 54 = .ok (.iload_n 2, 1) := by decide +kernel
theorem dX6_send_55 : decode cX6_send 55 = .ok (.putfield 32, 3) := by decide +kernel
theorem dX6_send_58 : decode cX6_send 58 = .ok (.aload 7, 2) := by decide +kernel
theorem dX6_send_60 : decode cX6_send 60 = .ok (.iload_n 3, 1) := by decide +kernel
theorem dX6_send_61 : decode cX6_send 61 = .ok (.putfield 35, 3) := by decide +kernel
theorem dX6_send_64 : decode cX6_send 64 = .ok (.aload 7, 2) := by decide +kernel
theorem dX6_send_66 : decode cX6_send 66 = .ok (.iload 4, 2) := by decide +kernel
theorem dX6_send_68 : decode cX6_send 68 = .ok (.putfield 38, 3) := by decide +kernel
theorem dX6_send_71 : decode cX6_send 71 = .ok (.aload 7, 2) := by decide +kernel
theorem dX6_send_73 : decode cX6_send 73 = .ok (.iload 5, 2) := by decide +kernel
theorem dX6_send_75 : decode cX6_send 75 = .ok (.putfield 41, 3) := by decide +kernel
theorem dX6_send_78 : decode cX6_send 78 = .ok (.aload 7, 2) := by decide +kernel
theorem dX6_send_80 : decode cX6_send 80 = .ok (.iload 6, 2) := by decide +kernel
theorem dX6_send_82 : decode cX6_send 82 = .ok (.putfield 44, 3) := by decide +kernel
theorem dX6_send_85 : decode cX6_send 85 = .ok (.return_, 1) := by decide +kernel
theorem dX6_at_0 : decode cX6_at 0 = .ok (.aload_n 0, 1) := by decide +kernel
theorem dX6_at_1 : decode cX6_at 1 = .ok (.getfield 13, 3) := by decide +kernel
theorem dX6_at_4 : decode cX6_at 4 = .ok (.aload_n 0, 1) := by decide +kernel
theorem dX6_at_5 : decode cX6_at 5 = .ok (.getfield 17, 3) := by decide +kernel
theorem dX6_at_8 : decode cX6_at 8 = .ok (.iload_n 1, 1) := by decide +kernel
theorem dX6_at_9 : decode cX6_at 9 = .ok (.iaload, 1) := by decide +kernel
theorem dX6_at_10 : decode cX6_at 10 = .ok (.aaload, 1) := by decide +kernel
theorem dX6_at_11 : decode cX6_at 11 = .ok (.areturn, 1) := by decide +kernel
theorem dX6_takeOut_0 : decode cX6_takeOut 0 = .ok (.aload_n 0, 1) := by decide +kernel
theorem dX6_takeOut_1 : decode cX6_takeOut 1 = .ok (.getfield 17, 3) := by decide +kernel
theorem dX6_takeOut_4 : decode cX6_takeOut 4 = .ok (.iload_n 1, 1) := by decide +kernel
theorem dX6_takeOut_5 : decode cX6_takeOut 5 = .ok (.iaload, 1) := by decide +kernel
theorem dX6_takeOut_6 : decode cX6_takeOut 6 = .ok (.istore_n 2, 1) := by decide +kernel
theorem dX6_takeOut_7 : decode cX6_takeOut 7 = .ok (.aload_n 0, 1) := by decide +kernel
theorem dX6_takeOut_8 : decode cX6_takeOut 8 = .ok (.getfield 17, 3) := by decide +kernel
theorem dX6_takeOut_11 : decode cX6_takeOut 11 = .ok (.iload_n 1, 1) := by decide +kernel
theorem dX6_takeOut_12 : decode cX6_takeOut 12 = .ok (.iconst 1, 1) := by decide +kernel
theorem dX6_takeOut_13 : decode cX6_takeOut 13 = .ok (.iadd, 1) := by decide +kernel
theorem dX6_takeOut_14 : decode cX6_takeOut 14 = .ok (.aload_n 0, 1) := by decide +kernel
theorem dX6_takeOut_15 : decode cX6_takeOut 15 = .ok (.getfield 17, 3) := by decide +kernel
theorem dX6_takeOut_18 : decode cX6_takeOut 18 = .ok (.iload_n 1, 1) := by decide +kernel
theorem dX6_takeOut_19 : decode cX6_takeOut 19 = .ok (.bipush 60, 2) := by decide +kernel
theorem dX6_takeOut_21 : decode cX6_takeOut 21 = .ok (.iload_n 1, 1) := by decide +kernel
theorem dX6_takeOut_22 : decode cX6_takeOut 22 = .ok (.isub, 1) := by decide +kernel
theorem dX6_takeOut_23 : decode cX6_takeOut 23 = .ok (.invokestatic 47, 3) := by decide +kernel
theorem dX6_takeOut_26 : decode cX6_takeOut 26 = .ok (.aload_n 0, 1) := by decide +kernel
theorem dX6_takeOut_27 : decode cX6_takeOut 27 = .ok (.getfield 17, 3) := by decide +kernel
theorem dX6_takeOut_30 : decode cX6_takeOut 30 = .ok (.bipush 60, 2) := by decide +kernel
theorem dX6_takeOut_32 : decode cX6_takeOut 32 = .ok (.iload_n 2, 1) := by decide +kernel
theorem dX6_takeOut_33 : decode cX6_takeOut 33 = .ok (.iastore, 1) := by decide +kernel
theorem dX6_takeOut_34 : decode cX6_takeOut 34 = .ok (.aload_n 0, 1) := by decide +kernel
theorem dX6_takeOut_35 : decode cX6_takeOut 35 = .ok (.dup, 1) := by decide +kernel
theorem dX6_takeOut_36 : decode cX6_takeOut 36 = .ok (.getfield 22, 3) := by decide +kernel
theorem dX6_takeOut_39 : decode cX6_takeOut 39 = .ok (.iconst 1, 1) := by decide +kernel
theorem dX6_takeOut_40 : decode cX6_takeOut 40 = .ok (.isub, 1) := by decide +kernel
theorem dX6_takeOut_41 : decode cX6_takeOut 41 = .ok (.putfield 22, 3) := by decide +kernel
theorem dX6_takeOut_44 : decode cX6_takeOut 44 = .ok (.aload_n 0, 1) := by decide +kernel
theorem dX6_takeOut_45 : decode cX6_takeOut 45 = .ok (.getfield 13, 3) := by decide +kernel
theorem dX6_takeOut_48 : decode cX6_takeOut 48 = .ok (.iload_n 2, 1) := by decide +kernel
theorem dX6_takeOut_49 : decode cX6_takeOut 49 = .ok (.aaload, 1) := by decide +kernel
theorem dX6_takeOut_50 : decode cX6_takeOut 50 = .ok (.areturn, 1) := by decide +kernel
theorem dX7_init_0 : decode cX7_init 0 = .ok (.aload_n 0, 1) := by decide +kernel
theorem dX7_init_1 : decode cX7_init 1 = .ok (.invokespecial 3, 3) := by decide +kernel
theorem dX7_init_4 : decode cX7_init 4 = .ok (.aload_n 0, 1) := by decide +kernel
theorem dX7_init_5 : decode cX7_init 5 = .ok (.aload_n 1, 1) := by decide +kernel
theorem dX7_init_6 : decode cX7_init 6 = .ok (.putfield 9, 3) := by decide +kernel
theorem dX7_init_9 : decode cX7_init 9 = .ok (.aload_n 0, 1) := by decide +kernel
theorem dX7_init_10 : decode cX7_init 10 = .ok (.iload_n 2, 1) := by decide +kernel
theorem dX7_init_11 : decode cX7_init 11 = .ok (.putfield 15, 3) := by decide +kernel
theorem dX7_init_14 : decode cX7_init 14 = .ok (.aload_n 0, 1) := by decide +kernel
theorem dX7_init_15 : decode cX7_init 15 = .ok (.bipush 6, 2) := by decide +kernel
theorem dX7_init_17 : decode cX7_init 17 = .ok (.anewarray 19, 3) := by decide +kernel
theorem dX7_init_20 : decode cX7_init 20 = .ok (.putfield 21, 3) := by decide +kernel
theorem dX7_init_23 : decode cX7_init 23 = .ok (.iconst 0, 1) := by decide +kernel
theorem dX7_init_24 : decode cX7_init 24 = .ok (.istore_n 3, 1) := by decide +kernel
theorem dX7_init_25 : decode cX7_init 25 = .ok (.iload_n 3, 1) := by decide +kernel
theorem dX7_init_26 : decode cX7_init 26 = .ok (.bipush 6, 2) := by decide +kernel
theorem dX7_init_28 : decode cX7_init 28 = .ok (.if_icmp .ge 22, 3) := by decide +kernel
theorem dX7_init_31 : decode cX7_init 31 = .ok (.aload_n 0, 1) := by decide +kernel
theorem dX7_init_32 : decode cX7_init 32 = .ok (.getfield 21, 3) := by decide +kernel
theorem dX7_init_35 : decode cX7_init 35 = .ok (.iload_n 3, 1) := by decide +kernel
theorem dX7_init_36 : decode cX7_init 36 = .ok (.new 19, 3) := by decide +kernel
theorem dX7_init_39 : decode cX7_init 39 = .ok (.dup, 1) := by decide +kernel
theorem dX7_init_40 : decode cX7_init 40 = .ok (.invokespecial 25, 3) := by decide +kernel
theorem dX7_init_43 : decode cX7_init 43 = .ok (.aastore, 1) := by decide +kernel
theorem dX7_init_44 : decode cX7_init 44 = .ok (.iinc 3 1, 3) := by decide +kernel
theorem dX7_init_47 : decode cX7_init 47 = .ok (.goto (-22), 3) := by decide +kernel
theorem dX7_init_50 : decode cX7_init 50 = .ok (.return_, 1) := by decide +kernel
theorem dX7_tell_0 : decode cX7_tell 0 = .ok (.aload_n 0, 1) := by decide +kernel
theorem dX7_tell_1 : decode cX7_tell 1 = .ok (.getfield 9, 3) := by decide +kernel
theorem dX7_tell_4 : decode cX7_tell 4 = .ok (.iload_n 1, 1) := by decide +kernel
theorem dX7_tell_5 : decode cX7_tell 5 = .ok (.aload_n 0, 1) := by decide +kernel
theorem dX7_tell_6 : decode cX7_tell 6 = .ok (.getfield 15, 3) := by decide +kernel
theorem dX7_tell_9 : decode cX7_tell 9 = .ok (.iload_n 2, 1) := by decide +kernel
theorem dX7_tell_10 : decode cX7_tell 10 = .ok (.iload_n 3, 1) := by decide +kernel
theorem dX7_tell_11 : decode cX7_tell 11 = .ok (.iload 4, 2) := by decide +kernel
theorem dX7_tell_13 : decode cX7_tell 13 = .ok (.iconst 0, 1) := by decide +kernel
theorem dX7_tell_14 : decode cX7_tell 14 = .ok (.invokevirtual 26, 3) := by decide +kernel
theorem dX7_tell_17 : decode cX7_tell 17 = .ok (.return_, 1) := by decide +kernel
theorem dX7_tellOthers_0 : decode cX7_tellOthers 0 = .ok (.iconst 0, 1) := by decide +kernel
theorem dX7_tellOthers_1 : decode cX7_tellOthers 1 = .ok (.istore 6, 2) := by decide +kernel
theorem dX7_tellOthers_3 : decode cX7_tellOthers 3 = .ok (.iload 6, 2) := by decide +kernel
theorem dX7_tellOthers_5 : decode cX7_tellOthers 5 = .ok (.bipush 6, 2) := by decide +kernel
theorem dX7_tellOthers_7 : decode cX7_tellOthers 7 = .ok (.if_icmp .ge 47, 3) := by decide +kernel
theorem dX7_tellOthers_10 : decode cX7_tellOthers 10 = .ok (.iload 6, 2) := by decide +kernel
theorem dX7_tellOthers_12 : decode cX7_tellOthers 12 = .ok (.iload_n 2, 1) := by decide +kernel
theorem dX7_tellOthers_13 : decode cX7_tellOthers 13 = .ok (.if_icmp .eq 35, 3) := by decide +kernel
theorem dX7_tellOthers_16 : decode cX7_tellOthers 16 = .ok (.aload_n 0, 1) := by decide +kernel
theorem dX7_tellOthers_17 : decode cX7_tellOthers 17 = .ok (.getfield 21, 3) := by decide +kernel
theorem dX7_tellOthers_20 : decode cX7_tellOthers 20 = .ok (.iload 6, 2) := by decide +kernel
theorem dX7_tellOthers_22 : decode cX7_tellOthers 22 = .ok (.aaload, 1) := by decide +kernel
theorem dX7_tellOthers_23 : decode cX7_tellOthers 23 = .ok (.getfield 32, 3) := by decide +kernel
theorem dX7_tellOthers_26 : decode cX7_tellOthers 26 = .ok (.ifCond .eq 22, 3) := by decide +kernel
theorem dX7_tellOthers_29 : decode cX7_tellOthers 29 = .ok (.aload_n 0, 1) := by decide +kernel
theorem dX7_tellOthers_30 : decode cX7_tellOthers 30 = .ok (.getfield 9, 3) := by decide +kernel
theorem dX7_tellOthers_33 : decode cX7_tellOthers 33 = .ok (.iload_n 1, 1) := by decide +kernel
theorem dX7_tellOthers_34 : decode cX7_tellOthers 34 = .ok (.aload_n 0, 1) := by decide +kernel
theorem dX7_tellOthers_35 : decode cX7_tellOthers 35 = .ok (.getfield 15, 3) := by decide +kernel
theorem dX7_tellOthers_38 : decode cX7_tellOthers 38 = .ok (.iload 6, 2) := by decide +kernel
theorem dX7_tellOthers_40 : decode cX7_tellOthers 40 = .ok (.iload_n 3, 1) := by decide +kernel
theorem dX7_tellOthers_41 : decode cX7_tellOthers 41 = .ok (.iload 4, 2) := by decide +kernel
theorem dX7_tellOthers_43 : decode cX7_tellOthers 43 = .ok (.iload 5, 2) := by decide +kernel
theorem dX7_tellOthers_45 : decode cX7_tellOthers 45 = .ok (.invokevirtual 26, 3) := by decide +kernel
theorem dX7_tellOthers_48 : decode cX7_tellOthers 48 = .ok (.iinc 6 1, 3) := by decide +kernel
theorem dX7_tellOthers_51 : decode cX7_tellOthers 51 = .ok (.goto (-48), 3) := by decide +kernel
theorem dX7_tellOthers_54 : decode cX7_tellOthers 54 = .ok (.return_, 1) := by decide +kernel
theorem dX7_play_0 : decode cX7_play 0 = .ok (.iconst 0, 1) := by decide +kernel
theorem dX7_play_1 : decode cX7_play 1 = .ok (.istore_n 2, 1) := by decide +kernel
theorem dX7_play_2 : decode cX7_play 2 = .ok (.iload_n 2, 1) := by decide +kernel
theorem dX7_play_3 : decode cX7_play 3 = .ok (.bipush 6, 2) := by decide +kernel
theorem dX7_play_5 : decode cX7_play 5 = .ok (.if_icmp .ge 34, 3) := by decide +kernel
theorem dX7_play_8 : decode cX7_play 8 = .ok (.aload_n 0, 1) := by decide +kernel
theorem dX7_play_9 : decode cX7_play 9 = .ok (.getfield 21, 3) := by decide +kernel
theorem dX7_play_12 : decode cX7_play 12 = .ok (.iload_n 2, 1) := by decide +kernel
theorem dX7_play_13 : decode cX7_play 13 = .ok (.aaload, 1) := by decide +kernel
theorem dX7_play_14 : decode cX7_play 14 = .ok (.getfield 32, 3) := by decide +kernel
theorem dX7_play_17 : decode cX7_play 17 = .ok (.ifCond .eq 16, 3) := by decide +kernel
theorem dX7_play_20 : decode cX7_play 20 = .ok (.aload_n 0, 1) := by decide +kernel
theorem dX7_play_21 : decode cX7_play 21 = .ok (.getfield 21, 3) := by decide +kernel
theorem dX7_play_24 : decode cX7_play 24 = .ok (.iload_n 2, 1) := by decide +kernel
theorem dX7_play_25 : decode cX7_play 25 = .ok (.aaload, 1) := by decide +kernel
theorem dX7_play_26 : decode cX7_play 26 = .ok (.getfield 36, 3) := by decide +kernel
theorem dX7_play_29 : decode cX7_play 29 = .ok (.iload_n 1, 1) := by decide +kernel
theorem dX7_play_30 : decode cX7_play 30 = .ok (.invokevirtual 40, 3) := by decide +kernel
theorem dX7_play_33 : decode cX7_play 33 = .ok (.iinc 2 1, 3) := by decide +kernel
theorem dX7_play_36 : decode cX7_play 36 = .ok (.goto (-34), 3) := by decide +kernel
theorem dX7_play_39 : decode cX7_play 39 = .ok (.return_, 1) := by decide +kernel
theorem dX8_init_0 : decode cX8_init 0 = .ok (.aload_n 0, 1) := by decide +kernel
theorem dX8_init_1 : decode cX8_init 1 = .ok (.invokespecial 1, 3) := by decide +kernel
theorem dX8_init_4 : decode cX8_init 4 = .ok (.aload_n 0, 1) := by decide +kernel
theorem dX8_init_5 : decode cX8_init 5 = .ok (.bipush 50, 2) := by decide +kernel
theorem dX8_init_7 : decode cX8_init 7 = .ok (.putfield 7, 3) := by decide +kernel
theorem dX8_init_10 : decode cX8_init 10 = .ok (.aload_n 0, 1) := by decide +kernel
theorem dX8_init_11 : decode cX8_init 11 = .ok (.bipush 20, 2) := by decide +kernel
theorem dX8_init_13 : decode cX8_init 13 = .ok (.putfield 13, 3) := by decide +kernel
theorem dX8_init_16 : decode cX8_init 16 = .ok (.aload_n 0, 1) := by decide +kernel
theorem dX8_init_17 : decode cX8_init 17 = .ok (.iconst 5, 1) := by decide +kernel
theorem dX8_init_18 : decode cX8_init 18 = .ok (.putfield 16, 3) := by decide +kernel
theorem dX8_init_21 : decode cX8_init 21 = .ok (.return_, 1) := by decide +kernel
theorem dX8_set_0 : decode cX8_set 0 = .ok (.aload_n 0, 1) := by decide +kernel
theorem dX8_set_1 : decode cX8_set 1 = .ok (.iload_n 1, 1) := by decide +kernel
theorem dX8_set_2 : decode cX8_set 2 = .ok (.putfield 19, 3) := by decide +kernel
theorem dX8_set_5 : decode cX8_set 5 = .ok (.aload_n 0, 1) := by decide +kernel
theorem dX8_set_6 : decode cX8_set 6 = .ok (.iload_n 2, 1) := by decide +kernel
theorem dX8_set_7 : decode cX8_set 7 = .ok (.putfield 7, 3) := by decide +kernel
theorem dX8_set_10 : decode cX8_set 10 = .ok (.aload_n 0, 1) := by decide +kernel
theorem dX8_set_11 : decode cX8_set 11 = .ok (.iload_n 3, 1) := by decide +kernel
theorem dX8_set_12 : decode cX8_set 12 = .ok (.putfield 13, 3) := by decide +kernel
theorem dX8_set_15 : decode cX8_set 15 = .ok (.aload_n 0, 1) := by decide +kernel
theorem dX8_set_16 : decode cX8_set 16 = .ok (.iload 4, 2) := by decide +kernel
theorem dX8_set_18 : decode cX8_set 18 = .ok (.putfield 16, 3) := by decide +kernel
theorem dX8_set_21 : decode cX8_set 21 = .ok (.return_, 1) := by decide +kernel
theorem dX8_copyFrom_0 : decode cX8_copyFrom 0 = .ok (.aload_n 0, 1) := by decide +kernel
theorem dX8_copyFrom_1 : decode cX8_copyFrom 1 = .ok (.aload_n 1, 1) := by decide +kernel
theorem dX8_copyFrom_2 : decode cX8_copyFrom 2 = .ok (.getfield 19, 3) := by decide +kernel
theorem dX8_copyFrom_5 : decode cX8_copyFrom 5 = .ok (.aload_n 1, 1) := by decide +kernel
theorem dX8_copyFrom_6 : decode cX8_copyFrom 6 = .ok (.getfield 7, 3) := by decide +kernel
theorem dX8_copyFrom_9 : decode cX8_copyFrom 9 = .ok (.aload_n 1, 1) := by decide +kernel
theorem dX8_copyFrom_10 : decode cX8_copyFrom 10 = .ok (.getfield 13, 3) := by decide +kernel
theorem dX8_copyFrom_13 : decode cX8_copyFrom 13 = .ok (.aload_n 1, 1) := by decide +kernel
theorem dX8_copyFrom_14 : decode cX8_copyFrom 14 = .ok (.getfield 16, 3) := by decide +kernel
theorem dX8_copyFrom_17 : decode cX8_copyFrom 17 = .ok (.invokevirtual 23, 3) := by decide +kernel
theorem dX8_copyFrom_20 : decode cX8_copyFrom 20 = .ok (.return_, 1) := by decide +kernel
theorem dX9_init_0 : decode cX9_init 0 = .ok (.aload_n 0, 1) := by decide +kernel
theorem dX9_init_1 : decode cX9_init 1 = .ok (.invokespecial 1, 3) := by decide +kernel
theorem dX9_init_4 : decode cX9_init 4 = .ok (.aload_n 0, 1) := by decide +kernel
theorem dX9_init_5 : decode cX9_init 5 = .ok (.new 7, 3) := by decide +kernel
theorem dX9_init_8 : decode cX9_init 8 = .ok (.dup, 1) := by decide +kernel
theorem dX9_init_9 : decode cX9_init 9 = .ok (.invokespecial 9, 3) := by decide +kernel
theorem dX9_init_12 : decode cX9_init 12 = .ok (.putfield 10, 3) := by decide +kernel
theorem dX9_init_15 : decode cX9_init 15 = .ok (.aload_n 0, 1) := by decide +kernel
theorem dX9_init_16 : decode cX9_init 16 = .ok (.iconst 3, 1) := by decide +kernel
theorem dX9_init_17 : decode cX9_init 17 = .ok (.anewarray 16, 3) := by decide +kernel
theorem dX9_init_20 : decode cX9_init 20 = .ok (.putfield 18, 3) := by decide +kernel
theorem dX9_init_23 : decode cX9_init 23 = .ok (.aload_n 0, 1) := by decide +kernel
theorem dX9_init_24 : decode cX9_init 24 = .ok (.iconst 3, 1) := by decide +kernel
theorem dX9_init_25 : decode cX9_init 25 = .ok (.anewarray 22, 3) := by decide +kernel
theorem dX9_init_28 : decode cX9_init 28 = .ok (.putfield 24, 3) := by decide +kernel
theorem dX9_init_31 : decode cX9_init 31 = .ok (.aload_n 0, 1) := by decide +kernel
theorem dX9_init_32 : decode cX9_init 32 = .ok (.iconst 3, 1) := by decide +kernel
theorem dX9_init_33 : decode cX9_init 33 = .ok (.anewarray 28, 3) := by decide +kernel
theorem dX9_init_36 : decode cX9_init 36 = .ok (.putfield 30, 3) := by decide +kernel
theorem dX9_init_39 : decode cX9_init 39 = .ok (.iconst 0, 1) := by decide +kernel
theorem dX9_init_40 : decode cX9_init 40 = .ok (.istore_n 1, 1) := by decide +kernel
theorem dX9_init_41 : decode cX9_init 41 = .ok (.iload_n 1, 1) := by decide +kernel
theorem dX9_init_42 : decode cX9_init 42 = .ok (.iconst 3, 1) := by decide +kernel
theorem dX9_init_43 : decode cX9_init 43 = .ok (.if_icmp .ge 71, 3) := by decide +kernel
theorem dX9_init_46 : decode cX9_init 46 = .ok (.aload_n 0, 1) := by decide +kernel
theorem dX9_init_47 : decode cX9_init 47 = .ok (.getfield 18, 3) := by decide +kernel
theorem dX9_init_50 : decode cX9_init 50 = .ok (.iload_n 1, 1) := by decide +kernel
theorem dX9_init_51 : decode cX9_init 51 = .ok (.new 16, 3) := by decide +kernel
