theorem dX0_init_0 : decode cX0_init 0 = .ok (.aload_n 0, 1) := by decide +kernel
theorem dX0_init_1 : decode cX0_init 1 = .ok (.invokespecial 1, 3) := by decide +kernel
theorem dX0_init_4 : decode cX0_init 4 = .ok (.return_, 1) := by decide +kernel
theorem dX0_renew_0 : decode cX0_renew 0 = .ok (.aload_n 0, 1) := by decide +kernel
theorem dX0_renew_1 : decode cX0_renew 1 = .ok (.iload_n 1, 1) := by decide +kernel
theorem dX0_renew_2 : decode cX0_renew 2 = .ok (.putfield 7, 3) := by decide +kernel
theorem dX0_renew_5 : decode cX0_renew 5 = .ok (.aload_n 0, 1) := by decide +kernel
theorem dX0_renew_6 : decode cX0_renew 6 = .ok (.iconst 0, 1) := by decide +kernel
theorem dX0_renew_7 : decode cX0_renew 7 = .ok (.putfield 13, 3) := by decide +kernel
theorem dX0_renew_10 : decode cX0_renew 10 = .ok (.aload_n 0, 1) := by decide +kernel
theorem dX0_renew_11 : decode cX0_renew 11 = .ok (.iload_n 2, 1) := by decide +kernel
theorem dX0_renew_12 : decode cX0_renew 12 = .ok (.putfield 17, 3) := by decide +kernel
theorem dX0_renew_15 : decode cX0_renew 15 = .ok (.aload_n 0, 1) := by decide +kernel
theorem dX0_renew_16 : decode cX0_renew 16 = .ok (.iload_n 3, 1) := by decide +kernel
theorem dX0_renew_17 : decode cX0_renew 17 = .ok (.putfield 20, 3) := by decide +kernel
theorem dX0_renew_20 : decode cX0_renew 20 = .ok (.return_, 1) := by decide +kernel
theorem dX0_isAbove_0 : decode cX0_isAbove 0 = .ok (.aload_n 0, 1) := by decide +kernel
theorem dX0_isAbove_1 : decode cX0_isAbove 1 = .ok (.getfield 17, 3) := by decide +kernel
theorem dX0_isAbove_4 : decode cX0_isAbove 4 = .ok (.aload_n 1, 1) := by decide +kernel
theorem dX0_isAbove_5 : decode cX0_isAbove 5 = .ok (.getfield 17, 3) := by decide +kernel
theorem dX0_isAbove_8 : decode cX0_isAbove 8 = .ok (.if_icmp .eq 8, 3) := by decide +kernel
theorem dX0_isAbove_11 : decode cX0_isAbove 11 = .ok (.aload_n 0, 1) := by decide +kernel
theorem dX0_isAbove_12 : decode cX0_isAbove 12 = .ok (.getfield 17, 3) := by decide +kernel
theorem dX0_isAbove_15 : decode cX0_isAbove 15 = .ok (.ireturn, 1) := by decide +kernel
theorem dX0_isAbove_16 : decode cX0_isAbove 16 = .ok (.aload_n 0, 1) := by decide +kernel
theorem dX0_isAbove_17 : decode cX0_isAbove 17 = .ok (.getfield 20, 3) := by decide +kernel
theorem dX0_isAbove_20 : decode cX0_isAbove 20 = .ok (.aload_n 1, 1) := by decide +kernel
theorem dX0_isAbove_21 : decode cX0_isAbove 21 = .ok (.getfield 20, 3) := by decide +kernel
theorem dX0_isAbove_24 : decode cX0_isAbove 24 = .ok (.if_icmp .le 7, 3) := by decide +kernel
theorem dX0_isAbove_27 : decode cX0_isAbove 27 = .ok (.iconst 1, 1) := by decide +kernel
theorem dX0_isAbove_28 : decode cX0_isAbove 28 = .ok (.goto 4, 3) := by decide +kernel
theorem dX0_isAbove_31 : decode cX0_isAbove 31 = .ok (.iconst 0, 1) := by decide +kernel
theorem dX0_isAbove_32 : decode cX0_isAbove 32 = .ok (.ireturn, 1) := by decide +kernel
theorem dX1_init_0 : decode cX1_init 0 = .ok (.aload_n 0, 1) := by decide +kernel
theorem dX1_init_1 : decode cX1_init 1 = .ok (.invokespecial 3, 3) := by decide +kernel
theorem dX1_init_4 : decode cX1_init 4 = .ok (.aload_n 0, 1) := by decide +kernel
theorem dX1_init_5 : decode cX1_init 5 = .ok (.new 9, 3) := by decide +kernel
theorem dX1_init_8 : decode cX1_init 8 = .ok (.dup, 1) := by decide +kernel
theorem dX1_init_9 : decode cX1_init 9 = .ok (.invokespecial 11, 3) := by decide +kernel
theorem dX1_init_12 : decode cX1_init 12 = .ok (.putfield 12, 3) := by decide +kernel
theorem dX1_init_15 : decode cX1_init 15 = .ok (.aload_n 0, 1) := by decide +kernel
theorem dX1_init_16 : decode cX1_init 16 = .ok (.new 9, 3) := by decide +kernel
theorem dX1_init_19 : decode cX1_init 19 = .ok (.dup, 1) := by decide +kernel
theorem dX1_init_20 : decode cX1_init 20 = .ok (.invokespecial 11, 3) := by decide +kernel
theorem dX1_init_23 : decode cX1_init 23 = .ok (.putfield 18, 3) := by decide +kernel
theorem dX1_init_26 : decode cX1_init 26 = .ok (.aload_n 0, 1) := by decide +kernel
theorem dX1_init_27 : decode cX1_init 27 = .ok (.iconst 4, 1) := by decide +kernel
theorem dX1_init_28 : decode cX1_init 28 = .ok (.newarray .int, 2) := by decide +kernel
theorem dX1_init_30 : decode cX1_init 30 = .ok (.putfield 21, 3) := by decide +kernel
theorem dX1_init_33 : decode cX1_init 33 = .ok (.aload_n 0, 1) := by decide +kernel
theorem dX1_init_34 : decode cX1_init 34 = .ok (.iconst (-1), 1) := by decide +kernel
theorem dX1_init_35 : decode cX1_init 35 = .ok (.putfield 25, 3) := by decide +kernel
theorem dX1_init_38 : decode cX1_init 38 = .ok (.aload_n 0, 1) := by decide +kernel
theorem dX1_init_39 : decode cX1_init 39 = .ok (.iconst (-1), 1) := by decide +kernel
theorem dX1_init_40 : decode cX1_init 40 = .ok (.putfield 29, 3) := by decide +kernel
theorem dX1_init_43 : decode cX1_init 43 = .ok (.aload_n 0, 1) := by decide +kernel
theorem dX1_init_44 : decode cX1_init 44 = .ok (.iconst (-1), 1) := by decide +kernel
theorem dX1_init_45 : decode cX1_init 45 = .ok (.putfield 32, 3) := by decide +kernel
theorem dX1_init_48 : decode cX1_init 48 = .ok (.aload_n 0, 1) := by decide +kernel
theorem dX1_init_49 : decode cX1_init 49 = .ok (.iconst (-1), 1) := by decide +kernel
theorem dX1_init_50 : decode cX1_init 50 = .ok (.putfield 35, 3) := by decide +kernel
theorem dX1_init_53 : decode cX1_init 53 = .ok (.aload_n 0, 1) := by decide +kernel
theorem dX1_init_54 : decode cX1_init 54 = .ok (.aload_n 1, 1) := by decide +kernel
theorem dX1_init_55 : decode cX1_init 55 = .ok (.putfield 38, 3) := by decide +kernel
theorem dX1_init_58 : decode cX1_init 58 = .ok (.aload_n 0, 1) := by decide +kernel
theorem dX1_init_59 : decode cX1_init 59 = .ok (.bipush 6, 2) := by decide +kernel
theorem dX1_init_61 : decode cX1_init 61 = .ok (.anewarray 42, 3) := by decide +kernel
theorem dX1_init_64 : decode cX1_init 64 = .ok (.putfield 44, 3) := by decide +kernel
theorem dX1_init_67 : decode cX1_init 67 = .ok (.iconst 0, 1) := by decide +kernel
theorem dX1_init_68 : decode cX1_init 68 = .ok (.istore_n 2, 1) := by decide +kernel
theorem dX1_init_69 : decode cX1_init 69 = .ok (.iload_n 2, 1) := by decide +kernel
theorem dX1_init_70 : decode cX1_init 70 = .ok (.bipush 6, 2) := by decide +kernel
theorem dX1_init_72 : decode cX1_init 72 = .ok (.if_icmp .ge 22, 3) := by decide +kernel
theorem dX1_init_75 : decode cX1_init 75 = .ok (.aload_n 0, 1) := by decide +kernel
theorem dX1_init_76 : decode cX1_init 76 = .ok (.getfield 44, 3) := by decide +kernel
theorem dX1_init_79 : decode cX1_init 79 = .ok (.iload_n 2, 1) := by decide +kernel
theorem dX1_init_80 : decode cX1_init 80 = .ok (.new 42, 3) := by decide +kernel
theorem dX1_init_83 : decode cX1_init 83 = .ok (.dup, 1) := by decide +kernel
theorem dX1_init_84 : decode cX1_init 84 = .ok (.invokespecial 48, 3) := by decide +kernel
theorem dX1_init_87 : decode cX1_init 87 = .ok (.aastore, 1) := by decide +kernel
theorem dX1_init_88 : decode cX1_init 88 = .ok (.iinc 2 1, 3) := by decide +kernel
theorem dX1_init_91 : decode cX1_init 91 = .ok (.goto (-22), 3) := by decide +kernel
theorem dX1_init_94 : decode cX1_init 94 = .ok (.return_, 1) := by decide +kernel
theorem dX1_hearRequest_0 : decode cX1_hearRequest 0 = .ok (.aload_n 0, 1) := by decide +kernel
theorem dX1_hearRequest_1 : decode cX1_hearRequest 1 = .ok (.getfield 44, 3) := by decide +kernel
theorem dX1_hearRequest_4 : decode cX1_hearRequest 4 = .ok (.iload_n 1, 1) := by decide +kernel
theorem dX1_hearRequest_5 : decode cX1_hearRequest 5 = .ok (.aaload, 1) := by decide +kernel
theorem dX1_hearRequest_6 : decode cX1_hearRequest 6 = .ok (.astore 5, 2) := by decide +kernel
theorem dX1_hearRequest_8 : decode cX1_hearRequest 8 = .ok (.aload_n 0, 1) := by decide +kernel
theorem dX1_hearRequest_9 : decode cX1_hearRequest 9 = .ok (.getfield 38, 3) := by decide +kernel
theorem dX1_hearRequest_12 : decode cX1_hearRequest 12 = .ok (.getfield 49, 3) := by decide +kernel
theorem dX1_hearRequest_15 : decode cX1_hearRequest 15 = .ok (.iload_n 1, 1) := by decide +kernel
theorem dX1_hearRequest_16 : decode cX1_hearRequest 16 = .ok (.aaload, 1) := by decide +kernel
theorem dX1_hearRequest_17 : decode cX1_hearRequest 17 = .ok (.getfield 55, 3) := by decide +kernel
theorem dX1_hearRequest_20 : decode cX1_hearRequest 20 = .ok (.ifCond .eq 12, 3) := by decide +kernel
theorem dX1_hearRequest_23 : decode cX1_hearRequest 23 = .ok (.iload_n 2, 1) := by decide +kernel
theorem dX1_hearRequest_24 : decode cX1_hearRequest 24 = .ok (.aload 5, 2) := by decide +kernel
theorem dX1_hearRequest_26 : decode cX1_hearRequest 26 = .ok (.getfield 61, 3) := by decide +kernel
theorem dX1_hearRequest_29 : decode cX1_hearRequest 29 = .ok (.if_icmp .ge 4, 3) := by decide +kernel
theorem dX1_hearRequest_32 : decode cX1_hearRequest 32 = .ok (.return_, 1) := by decide +kernel
theorem dX1_hearRequest_33 : decode cX1_hearRequest 33 = .ok (.iload_n 2, 1) := by decide +kernel
theorem dX1_hearRequest_34 : decode cX1_hearRequest 34 = .ok (.aload 5, 2) := by decide +kernel
theorem dX1_hearRequest_36 : decode cX1_hearRequest 36 = .ok (.getfield 61, 3) := by decide +kernel
theorem dX1_hearRequest_39 : decode cX1_hearRequest 39 = .ok (.if_icmp .ne 9, 3) := by decide +kernel
theorem dX1_hearRequest_42 : decode cX1_hearRequest 42 = .ok (.aload_n 0, 1) := by decide +kernel
theorem dX1_hearRequest_43 : decode cX1_hearRequest 43 = .ok (.iload_n 1, 1) := by decide +kernel
theorem dX1_hearRequest_44 : decode cX1_hearRequest 44 = .ok (.invokevirtual 64, 3) := by decide +kernel
theorem dX1_hearRequest_47 : decode cX1_hearRequest 47 = .ok (.return_, 1) := by decide +kernel
theorem dX1_hearRequest_48 : decode cX1_hearRequest 48 = .ok (.aload_n 0, 1) := by decide +kernel
theorem dX1_hearRequest_49 : decode cX1_hearRequest 49 = .ok (.iload_n 1, 1) := by decide +kernel
theorem dX1_hearRequest_50 : decode cX1_hearRequest 50 = .ok (.iload 4, 2) := by decide +kernel
theorem dX1_hearRequest_52 : decode cX1_hearRequest 52 = .ok (.invokevirtual 68, 3) := by decide +kernel
theorem dX1_hearRequest_55 : decode cX1_hearRequest 55 = .ok (.aload 5, 2) := by decide +kernel
theorem dX1_hearRequest_57 : decode cX1_hearRequest 57 = .ok (.iload_n 2, 1) := by decide +kernel
theorem dX1_hearRequest_58 : decode cX1_hearRequest 58 = .ok (.iload_n 3, 1) := by decide +kernel
theorem dX1_hearRequest_59 : decode cX1_hearRequest 59 = .ok (.aload_n 0, 1) := by decide +kernel
theorem dX1_hearRequest_60 : decode cX1_hearRequest 60 = .ok (.getfield 38, 3) := by decide +kernel
theorem dX1_hearRequest_63 : decode cX1_hearRequest 63 = .ok (.getfield 49, 3) := by decide +kernel
theorem dX1_hearRequest_66 : decode cX1_hearRequest 66 = .ok (.iload_n 1, 1) := by decide +kernel
theorem dX1_hearRequest_67 : decode cX1_hearRequest 67 = .ok (.aaload, 1) := by decide +kernel
theorem dX1_hearRequest_68 : decode cX1_hearRequest 68 = .ok (.getfield 72, 3) := by decide +kernel
theorem dX1_hearRequest_71 : decode cX1_hearRequest 71 = .ok (.invokevirtual 75, 3) := by decide +kernel
theorem dX1_hearRequest_74 : decode cX1_hearRequest 74 = .ok (.aload_n 0, 1) := by decide +kernel
theorem dX1_hearRequest_75 : decode cX1_hearRequest 75 = .ok (.getfield 25, 3) := by decide +kernel
theorem dX1_hearRequest_78 : decode cX1_hearRequest 78 = .ok (.iconst (-1), 1) := by decide +kernel
theorem dX1_hearRequest_79 : decode cX1_hearRequest 79 = .ok (.if_icmp .ne 20, 3) := by decide +kernel
theorem dX1_hearRequest_82 : decode cX1_hearRequest 82 = .ok (.aload_n 0, 1) := by decide +kernel
theorem dX1_hearRequest_83 : decode cX1_hearRequest 83 = .ok (.getfield 79, 3) := by decide +kernel
theorem dX1_hearRequest_86 : decode cX1_hearRequest 86 = .ok (.ifCond .ne 13, 3) := by decide +kernel
theorem dX1_hearRequest_89 : decode cX1_hearRequest 89 = .ok (.aload_n 0, 1) := by decide +kernel
theorem dX1_hearRequest_90 : decode cX1_hearRequest 90 = .ok (.iload_n 1, 1) := by decide +kernel
theorem dX1_hearRequest_91 : decode cX1_hearRequest 91 = .ok (.iload 4, 2) := by decide +kernel
theorem dX1_hearRequest_93 : decode cX1_hearRequest 93 = .ok (.invokevirtual 82, 3) := by decide +kernel
theorem dX1_hearRequest_96 : decode cX1_hearRequest 96 = .ok (.goto 44, 3) := by decide +kernel
theorem dX1_hearRequest_99 : decode cX1_hearRequest 99 = .ok (.aload_n 0, 1) := by decide +kernel
theorem dX1_hearRequest_100 : decode cX1_hearRequest 100 = .ok (.getfield 79, 3) := by decide +kernel
theorem dX1_hearRequest_103 : decode cX1_hearRequest 103 = .ok (.iconst 4, 1) := by decide +kernel
theorem dX1_hearRequest_104 : decode cX1_hearRequest 104 = .ok (.if_icmp .lt 23, 3) := by decide +kernel
theorem dX1_hearRequest_107 : decode cX1_hearRequest 107 = .ok (.aload 5, 2) := by decide +kernel
theorem dX1_hearRequest_109 : decode cX1_hearRequest 109 = .ok (.iconst 1, 1) := by decide +kernel
theorem dX1_hearRequest_110 : decode cX1_hearRequest 110 = .ok (.putfield 85, 3) := by decide +kernel
theorem dX1_hearRequest_113 : decode cX1_hearRequest 113 = .ok (.aload_n 0, 1) := by decide +kernel
theorem dX1_hearRequest_114 : decode cX1_hearRequest 114 = .ok (.getfield 38, 3) := by decide +kernel
theorem dX1_hearRequest_117 : decode cX1_hearRequest 117 = .ok (.iconst 5, 1) := by decide +kernel
theorem dX1_hearRequest_118 : decode cX1_hearRequest 118 = .ok (.iload_n 1, 1) := by decide +kernel
theorem dX1_hearRequest_119 : decode cX1_hearRequest 119 = .ok (.iload_n 2, 1) := by decide +kernel
theorem dX1_hearRequest_120 : decode cX1_hearRequest 120 = .ok (.iconst 0, 1) := by decide +kernel
theorem dX1_hearRequest_121 : decode cX1_hearRequest 121 = .ok (.invokevirtual 88, 3) := by decide +kernel
theorem dX1_hearRequest_124 : decode cX1_hearRequest 124 = .ok (.goto 16, 3) := by decide +kernel
theorem dX1_hearRequest_127 : decode cX1_hearRequest 127 = .ok (.aload_n 0, 1) := by decide +kernel
theorem dX1_hearRequest_128 : decode cX1_hearRequest 128 = .ok (.iload_n 1, 1) := by decide +kernel
theorem dX1_hearRequest_129 : decode cX1_hearRequest 129 = .ok (.invokevirtual 92, 3) := by decide +kernel
theorem dX1_hearRequest_132 : decode cX1_hearRequest 132 = .ok (.aload_n 0, 1) := by decide +kernel
theorem dX1_hearRequest_133 : decode cX1_hearRequest 133 = .ok (.aload 5, 2) := by decide +kernel
theorem dX1_hearRequest_135 : decode cX1_hearRequest 135 = .ok (.iload 4, 2) := by decide +kernel
theorem dX1_hearRequest_137 : decode cX1_hearRequest 137 = .ok (.invokevirtual 95, 3) := by decide +kernel
theorem dX1_hearRequest_140 : decode cX1_hearRequest 140 = .ok (.return_, 1) := by decide +kernel
theorem dX1_hearRelease_0 : decode cX1_hearRelease 0 = .ok (.aload_n 0, 1) := by decide +kernel
theorem dX1_hearRelease_1 : decode cX1_hearRelease 1 = .ok (.getfield 44, 3) := by decide +kernel
theorem dX1_hearRelease_4 : decode cX1_hearRelease 4 = .ok (.iload_n 1, 1) := by decide +kernel
theorem dX1_hearRelease_5 : decode cX1_hearRelease 5 = .ok (.aaload, 1) := by decide +kernel
theorem dX1_hearRelease_6 : decode cX1_hearRelease 6 = .ok (.astore 4, 2) := by decide +kernel
theorem dX1_hearRelease_8 : decode cX1_hearRelease 8 = .ok (.iload_n 2, 1) := by decide +kernel
theorem dX1_hearRelease_9 : decode cX1_hearRelease 9 = .ok (.aload 4, 2) := by decide +kernel
theorem dX1_hearRelease_11 : decode cX1_hearRelease 11 = .ok (.getfield 61, 3) := by decide +kernel
theorem dX1_hearRelease_14 : decode cX1_hearRelease 14 = .ok (.if_icmp .ge 4, 3) := by decide +kernel
theorem dX1_hearRelease_17 : decode cX1_hearRelease 17 = .ok (.return_, 1) := by decide +kernel
theorem dX1_hearRelease_18 : decode cX1_hearRelease 18 = .ok (.aload_n 0, 1) := by decide +kernel
theorem dX1_hearRelease_19 : decode cX1_hearRelease 19 = .ok (.iload_n 1, 1) := by decide +kernel
theorem dX1_hearRelease_20 : decode cX1_hearRelease 20 = .ok (.iload_n 3, 1) := by decide +kernel
theorem dX1_hearRelease_21 : decode cX1_hearRelease 21 = .ok (.invokevirtual 68, 3) := by decide +kernel
theorem dX1_hearRelease_24 : decode cX1_hearRelease 24 = .ok (.iload_n 2, 1) := by decide +kernel
theorem dX1_hearRelease_25 : decode cX1_hearRelease 25 = .ok (.aload 4, 2) := by decide +kernel
theorem dX1_hearRelease_27 : decode cX1_hearRelease 27 = .ok (.getfield 61, 3) := by decide +kernel
theorem dX1_hearRelease_30 : decode cX1_hearRelease 30 = .ok (.if_icmp .le 11, 3) := by decide +kernel
theorem dX1_hearRelease_33 : decode cX1_hearRelease 33 = .ok (.aload 4, 2) := by decide +kernel
theorem dX1_hearRelease_35 : decode cX1_hearRelease 35 = .ok (.iload_n 2, 1) := by decide +kernel
theorem dX1_hearRelease_36 : decode cX1_hearRelease 36 = .ok (.iconst 0, 1) := by decide +kernel
theorem dX1_hearRelease_37 : decode cX1_hearRelease 37 = .ok (.iconst 0, 1) := by decide +kernel
theorem dX1_hearRelease_38 : decode cX1_hearRelease 38 = .ok (.invokevirtual 75, 3) := by decide +kernel
theorem dX1_hearRelease_41 : decode cX1_hearRelease 41 = .ok (.return_, 1) := by decide +kernel
theorem dX1_takeBack_0 : decode cX1_takeBack 0 = .ok (.iload_n 1, 1) := by decide +kernel
theorem dX1_takeBack_1 : decode cX1_takeBack 1 = .ok (.aload_n 0, 1) := by decide +kernel
theorem dX1_takeBack_2 : decode cX1_takeBack 2 = .ok (.getfield 25, 3) := by decide +kernel
theorem dX1_takeBack_5 : decode cX1_takeBack 5 = .ok (.if_icmp .eq 13, 3) := by decide +kernel
theorem dX1_takeBack_8 : decode cX1_takeBack 8 = .ok (.aload_n 0, 1) := by decide +kernel
theorem dX1_takeBack_9 : decode cX1_takeBack 9 = .ok (.aload_n 0, 1) := by decide +kernel
theorem dX1_takeBack_10 : decode cX1_takeBack 10 = .ok (.iload_n 1, 1) := by decide +kernel
theorem dX1_takeBack_11 : decode cX1_takeBack 11 = .ok (.invokevirtual 99, 3) := by decide +kernel
theorem dX1_takeBack_14 : decode cX1_takeBack 14 = .ok (.invokevirtual 103, 3) := by decide +kernel
theorem dX1_takeBack_17 : decode cX1_takeBack 17 = .ok (.return_, 1) := by decide +kernel
theorem dX1_takeBack_18 : decode cX1_takeBack 18 = .ok (.aload_n 0, 1) := by decide +kernel
theorem dX1_takeBack_19 : decode cX1_takeBack 19 = .ok (.iconst (-1), 1) := by decide +kernel
theorem dX1_takeBack_20 : decode cX1_takeBack 20 = .ok (.putfield 25, 3) := by decide +kernel
theorem dX1_takeBack_23 : decode cX1_takeBack 23 = .ok (.aload_n 0, 1) := by decide +kernel
theorem dX1_takeBack_24 : decode cX1_takeBack 24 = .ok (.iconst (-1), 1) := by decide +kernel
theorem dX1_takeBack_25 : decode cX1_takeBack 25 = .ok (.putfield 29, 3) := by decide +kernel
theorem dX1_takeBack_28 : decode cX1_takeBack 28 = .ok (.aload_n 0, 1) := by decide +kernel
theorem dX1_takeBack_29 : decode cX1_takeBack 29 = .ok (.iconst (-1), 1) := by decide +kernel
theorem dX1_takeBack_30 : decode cX1_takeBack 30 = .ok (.putfield 32, 3) := by decide +kernel
theorem dX1_takeBack_33 : decode cX1_takeBack 33 = .ok (.aload_n 0, 1) := by decide +kernel
theorem dX1_takeBack_34 : decode cX1_takeBack 34 = .ok (.iconst (-1), 1) := by decide +kernel
theorem dX1_takeBack_35 : decode cX1_takeBack 35 = .ok (.putfield 35, 3) := by decide +kernel
theorem dX1_takeBack_38 : decode cX1_takeBack 38 = .ok (.aload_n 0, 1) := by decide +kernel
theorem dX1_takeBack_39 : decode cX1_takeBack 39 = .ok (.getfield 79, 3) := by decide +kernel
theorem dX1_takeBack_42 : decode cX1_takeBack 42 = .ok (.ifCond .le 24, 3) := by decide +kernel
theorem dX1_takeBack_45 : decode cX1_takeBack 45 = .ok (.aload_n 0, 1) := by decide +kernel
theorem dX1_takeBack_46 : decode cX1_takeBack 46 = .ok (.getfield 21, 3) := by decide +kernel
theorem dX1_takeBack_49 : decode cX1_takeBack 49 = .ok (.iconst 0, 1) := by decide +kernel
theorem dX1_takeBack_50 : decode cX1_takeBack 50 = .ok (.iaload, 1) := by decide +kernel
theorem dX1_takeBack_51 : decode cX1_takeBack 51 = .ok (.istore_n 3, 1) := by decide +kernel
theorem dX1_takeBack_52 : decode cX1_takeBack 52 = .ok (.aload_n 0, 1) := by decide +kernel
theorem dX1_takeBack_53 : decode cX1_takeBack 53 = .ok (.iconst 0, 1) := by decide +kernel
theorem dX1_takeBack_54 : decode cX1_takeBack 54 = .ok (.invokevirtual 103, 3) := by decide +kernel
theorem dX1_takeBack_57 : decode cX1_takeBack 57 = .ok (.aload_n 0, 1) := by decide +kernel
theorem dX1_takeBack_58 : decode cX1_takeBack 58 = .ok (.iload_n 3, 1) := by decide +kernel
theorem dX1_takeBack_59 : decode cX1_takeBack 59 = .ok (.iload_n 2, 1) := by decide +kernel
theorem dX1_takeBack_60 : decode cX1_takeBack 60 = .ok (.invokevirtual 82, 3) := by decide +kernel
theorem dX1_takeBack_63 : decode cX1_takeBack 63 = .ok (.goto 18, 3) := by decide +kernel
theorem dX1_takeBack_66 : decode cX1_takeBack 66 = .ok (.aload_n 0, 1) := by decide +kernel
theorem dX1_takeBack_67 : decode cX1_takeBack 67 = .ok (.getfield 38, 3) := by decide +kernel
theorem dX1_takeBack_70 : decode cX1_takeBack 70 = .ok (.bipush 10, 2) := by decide +kernel
theorem dX1_takeBack_72 : decode cX1_takeBack 72 = .ok (.iconst 0, 1) := by decide +kernel
theorem dX1_takeBack_73 : decode cX1_takeBack 73 = .ok (.aload_n 0, 1) := by decide +kernel
theorem dX1_takeBack_74 : decode cX1_takeBack 74 = .ok (.getfield 106, 3) := by decide +kernel
theorem dX1_takeBack_77 : decode cX1_takeBack 77 = .ok (.iconst (-1), 1) := by decide +kernel
theorem dX1_takeBack_78 : decode cX1_takeBack 78 = .ok (.invokevirtual 88, 3) := by decide +kernel
theorem dX1_takeBack_81 : decode cX1_takeBack 81 = .ok (.return_, 1) := by decide +kernel
theorem dX1_passTime_0 : decode cX1_passTime 0 = .ok (.aload_n 0, 1) := by decide +kernel
theorem dX1_passTime_1 : decode cX1_passTime 1 = .ok (.getfield 25, 3) := by decide +kernel
theorem dX1_passTime_4 : decode cX1_passTime 4 = .ok (.iconst (-1), 1) := by decide +kernel
theorem dX1_passTime_5 : decode cX1_passTime 5 = .ok (.if_icmp .eq 38, 3) := by decide +kernel
theorem dX1_passTime_8 : decode cX1_passTime 8 = .ok (.aload_n 0, 1) := by decide +kernel
theorem dX1_passTime_9 : decode cX1_passTime 9 = .ok (.iload_n 1, 1) := by decide +kernel
theorem dX1_passTime_10 : decode cX1_passTime 10 = .ok (.invokevirtual 109, 3) := by decide +kernel
theorem dX1_passTime_13 : decode cX1_passTime 13 = .ok (.ifCond .eq 30, 3) := by decide +kernel
theorem dX1_passTime_16 : decode cX1_passTime 16 = .ok (.aload_n 0, 1) := by decide +kernel
theorem dX1_passTime_17 : decode cX1_passTime 17 = .ok (.getfield 38, 3) := by decide +kernel
theorem dX1_passTime_20 : decode cX1_passTime 20 = .ok (.bipush 7, 2) := by decide +kernel
theorem dX1_passTime_22 : decode cX1_passTime 22 = .ok (.aload_n 0, 1) := by decide +kernel
theorem dX1_passTime_23 : decode cX1_passTime 23 = .ok (.getfield 25, 3) := by decide +kernel
theorem dX1_passTime_26 : decode cX1_passTime 26 = .ok (.aload_n 0, 1) := by decide +kernel
theorem dX1_passTime_27 : decode cX1_passTime 27 = .ok (.getfield 106, 3) := by decide +kernel
theorem dX1_passTime_30 : decode cX1_passTime 30 = .ok (.iconst 0, 1) := by decide +kernel
theorem dX1_passTime_31 : decode cX1_passTime 31 = .ok (.invokevirtual 88, 3) := by decide +kernel
theorem dX1_passTime_34 : decode cX1_passTime 34 = .ok (.aload_n 0, 1) := by decide +kernel
theorem dX1_passTime_35 : decode cX1_passTime 35 = .ok (.aload_n 0, 1) := by decide +kernel
theorem dX1_passTime_36 : decode cX1_passTime 36 = .ok (.getfield 25, 3) := by decide +kernel
theorem dX1_passTime_39 : decode cX1_passTime 39 = .ok (.iload_n 1, 1) := by decide +kernel
theorem dX1_passTime_40 : decode cX1_passTime 40 = .ok (.invokevirtual 68, 3) := by decide +kernel
theorem dX1_passTime_43 : decode cX1_passTime 43 = .ok (.aload_n 0, 1) := by decide +kernel
theorem dX1_passTime_44 : decode cX1_passTime 44 = .ok (.getfield 25, 3) := by decide +kernel
theorem dX1_passTime_47 : decode cX1_passTime 47 = .ok (.iconst (-1), 1) := by decide +kernel
theorem dX1_passTime_48 : decode cX1_passTime 48 = .ok (.if_icmp .eq 31, 3) := by decide +kernel
theorem dX1_passTime_51 : decode cX1_passTime 51 = .ok (.iload_n 1, 1) := by decide +kernel
theorem dX1_passTime_52 : decode cX1_passTime 52 = .ok (.iconst 5, 1) := by decide +kernel
theorem dX1_passTime_53 : decode cX1_passTime 53 = .ok (.irem, 1) := by decide +kernel
theorem dX1_passTime_54 : decode cX1_passTime 54 = .ok (.ifCond .ne 25, 3) := by decide +kernel
theorem dX1_passTime_57 : decode cX1_passTime 57 = .ok (.aload_n 0, 1) := by decide +kernel
theorem dX1_passTime_58 : decode cX1_passTime 58 = .ok (.getfield 38, 3) := by decide +kernel
theorem dX1_passTime_61 : decode cX1_passTime 61 = .ok (.bipush 8, 2) := by decide +kernel
theorem dX1_passTime_63 : decode cX1_passTime 63 = .ok (.aload_n 0, 1) := by decide +kernel
theorem dX1_passTime_64 : decode cX1_passTime 64 = .ok (.getfield 25, 3) := by decide +kernel
theorem dX1_passTime_67 : decode cX1_passTime 67 = .ok (.aload_n 0, 1) := by decide +kernel
theorem dX1_passTime_68 : decode cX1_passTime 68 = .ok (.getfield 106, 3) := by decide +kernel
theorem dX1_passTime_71 : decode cX1_passTime 71 = .ok (.aload_n 0, 1) := by decide +kernel
theorem dX1_passTime_72 : decode cX1_passTime 72 = .ok (.getfield 25, 3) := by decide +kernel
theorem dX1_passTime_75 : decode cX1_passTime 75 = .ok (.iconst 0, 1) := by decide +kernel
theorem dX1_passTime_76 : decode cX1_passTime 76 = .ok (.invokevirtual 113, 3) := by decide +kernel
theorem dX1_passTime_79 : decode cX1_passTime 79 = .ok (.return_, 1) := by decide +kernel
theorem dX1_hearPassed_0 : decode cX1_hearPassed 0 = .ok (.aload_n 0, 1) := by decide +kernel
theorem dX1_hearPassed_1 : decode cX1_hearPassed 1 = .ok (.getfield 25, 3) := by decide +kernel
theorem dX1_hearPassed_4 : decode cX1_hearPassed 4 = .ok (.iconst (-1), 1) := by decide +kernel
theorem dX1_hearPassed_5 : decode cX1_hearPassed 5 = .ok (.if_icmp .eq 16, 3) := by decide +kernel
theorem dX1_hearPassed_8 : decode cX1_hearPassed 8 = .ok (.iload_n 1, 1) := by decide +kernel
theorem dX1_hearPassed_9 : decode cX1_hearPassed 9 = .ok (.aload_n 0, 1) := by decide +kernel
theorem dX1_hearPassed_10 : decode cX1_hearPassed 10 = .ok (.getfield 106, 3) := by decide +kernel
theorem dX1_hearPassed_13 : decode cX1_hearPassed 13 = .ok (.if_icmp .ne 8, 3) := by decide +kernel
theorem dX1_hearPassed_16 : decode cX1_hearPassed 16 = .ok (.aload_n 0, 1) := by decide +kernel
theorem dX1_hearPassed_17 : decode cX1_hearPassed 17 = .ok (.iload_n 2, 1) := by decide +kernel
theorem dX1_hearPassed_18 : decode cX1_hearPassed 18 = .ok (.putfield 35, 3) := by decide +kernel
theorem dX1_hearPassed_21 : decode cX1_hearPassed 21 = .ok (.return_, 1) := by decide +kernel
theorem dX1_isOver_0 : decode cX1_isOver 0 = .ok (.aload_n 0, 1) := by decide +kernel
theorem dX1_isOver_1 : decode cX1_isOver 1 = .ok (.getfield 35, 3) := by decide +kernel
theorem dX1_isOver_4 : decode cX1_isOver 4 = .ok (.iconst (-1), 1) := by decide +kernel
theorem dX1_isOver_5 : decode cX1_isOver 5 = .ok (.if_icmp .ne 10, 3) := by decide +kernel
theorem dX1_isOver_8 : decode cX1_isOver 8 = .ok (.aload_n 0, 1) := by decide +kernel
theorem dX1_isOver_9 : decode cX1_isOver 9 = .ok (.getfield 29, 3) := by decide +kernel
theorem dX1_isOver_12 : decode cX1_isOver 12 = .ok (.goto 7, 3) := by decide +kernel
theorem dX1_isOver_15 : decode cX1_isOver 15 = .ok (.aload_n 0, 1) := by decide +kernel
theorem dX1_isOver_16 : decode cX1_isOver 16 = .ok (.getfield 35, 3) := by decide +kernel
theorem dX1_isOver_19 : decode cX1_isOver 19 = .ok (.istore_n 2, 1) := by decide +kernel
theorem dX1_isOver_20 : decode cX1_isOver 20 = .ok (.aload_n 0, 1) := by decide +kernel
theorem dX1_isOver_21 : decode cX1_isOver 21 = .ok (.getfield 32, 3) := by decide +kernel
theorem dX1_isOver_24 : decode cX1_isOver 24 = .ok (.iconst (-1), 1) := by decide +kernel
theorem dX1_isOver_25 : decode cX1_isOver 25 = .ok (.if_icmp .eq 19, 3) := by decide +kernel
theorem dX1_isOver_28 : decode cX1_isOver 28 = .ok (.iload_n 1, 1) := by decide +kernel
theorem dX1_isOver_29 : decode cX1_isOver 29 = .ok (.aload_n 0, 1) := by decide +kernel
theorem dX1_isOver_30 : decode cX1_isOver 30 = .ok (.getfield 32, 3) := by decide +kernel
theorem dX1_isOver_33 : decode cX1_isOver 33 = .ok (.isub, 1) := by decide +kernel
theorem dX1_isOver_34 : decode cX1_isOver 34 = .ok (.aload_n 0, 1) := by decide +kernel
theorem dX1_isOver_35 : decode cX1_isOver 35 = .ok (.getfield 18, 3) := by decide +kernel
theorem dX1_isOver_38 : decode cX1_isOver 38 = .ok (.getfield 117, 3) := by decide +kernel
theorem dX1_isOver_41 : decode cX1_isOver 41 = .ok (.if_icmp .ge 32, 3) := by decide +kernel
theorem dX1_isOver_44 : decode cX1_isOver 44 = .ok (.iload_n 1, 1) := by decide +kernel
theorem dX1_isOver_45 : decode cX1_isOver 45 = .ok (.aload_n 0, 1) := by decide +kernel
theorem dX1_isOver_46 : decode cX1_isOver 46 = .ok (.getfield 29, 3) := by decide +kernel
theorem dX1_isOver_49 : decode cX1_isOver 49 = .ok (.isub, 1) := by decide +kernel
theorem dX1_isOver_50 : decode cX1_isOver 50 = .ok (.aload_n 0, 1) := by decide +kernel
theorem dX1_isOver_51 : decode cX1_isOver 51 = .ok (.getfield 18, 3) := by decide +kernel
theorem dX1_isOver_54 : decode cX1_isOver 54 = .ok (.getfield 120, 3) := by decide +kernel
theorem dX1_isOver_57 : decode cX1_isOver 57 = .ok (.if_icmp .ge 16, 3) := by decide +kernel
theorem dX1_isOver_60 : decode cX1_isOver 60 = .ok (.iload_n 1, 1) := by decide +kernel
theorem dX1_isOver_61 : decode cX1_isOver 61 = .ok (.iload_n 2, 1) := by decide +kernel
theorem dX1_isOver_62 : decode cX1_isOver 62 = .ok (.isub, 1) := by decide +kernel
theorem dX1_isOver_63 : decode cX1_isOver 63 = .ok (.aload_n 0, 1) := by decide +kernel
theorem dX1_isOver_64 : decode cX1_isOver 64 = .ok (.getfield 18, 3) := by decide +kernel
theorem dX1_isOver_67 : decode cX1_isOver 67 = .ok (.getfield 123, 3) := by decide +kernel
theorem dX1_isOver_70 : decode cX1_isOver 70 = .ok (.if_icmp .lt 7, 3) := by decide +kernel
theorem dX1_isOver_73 : decode cX1_isOver 73 = .ok (.iconst 1, 1) := by decide +kernel
theorem dX1_isOver_74 : decode cX1_isOver 74 = .ok (.goto 4, 3) := by decide +kernel
theorem dX1_isOver_77 : decode cX1_isOver 77 = .ok (.iconst 0, 1) := by decide +kernel
theorem dX1_isOver_78 : decode cX1_isOver 78 = .ok (.ireturn, 1) := by decide +kernel
theorem dX1_answerAgain_0 : decode cX1_answerAgain 0 = .ok (.aload_n 0, 1) := by decide +kernel
theorem dX1_answerAgain_1 : decode cX1_answerAgain 1 = .ok (.getfield 44, 3) := by decide +kernel
theorem dX1_answerAgain_4 : decode cX1_answerAgain 4 = .ok (.iload_n 1, 1) := by decide +kernel
theorem dX1_answerAgain_5 : decode cX1_answerAgain 5 = .ok (.aaload, 1) := by decide +kernel
theorem dX1_answerAgain_6 : decode cX1_answerAgain 6 = .ok (.getfield 61, 3) := by decide +kernel
theorem dX1_answerAgain_9 : decode cX1_answerAgain 9 = .ok (.istore_n 2, 1) := by decide +kernel
theorem dX1_answerAgain_10 : decode cX1_answerAgain 10 = .ok (.aload_n 0, 1) := by decide +kernel
theorem dX1_answerAgain_11 : decode cX1_answerAgain 11 = .ok (.iload_n 1, 1) := by decide +kernel
theorem dX1_answerAgain_12 : decode cX1_answerAgain 12 = .ok (.invokevirtual 99, 3) := by decide +kernel
theorem dX1_answerAgain_15 : decode cX1_answerAgain 15 = .ok (.istore_n 3, 1) := by decide +kernel
theorem dX1_answerAgain_16 : decode cX1_answerAgain 16 = .ok (.iload_n 1, 1) := by decide +kernel
theorem dX1_answerAgain_17 : decode cX1_answerAgain 17 = .ok (.aload_n 0, 1) := by decide +kernel
theorem dX1_answerAgain_18 : decode cX1_answerAgain 18 = .ok (.getfield 25, 3) := by decide +kernel
theorem dX1_answerAgain_21 : decode cX1_answerAgain 21 = .ok (.if_icmp .ne 20, 3) := by decide +kernel
theorem dX1_answerAgain_24 : decode cX1_answerAgain 24 = .ok (.aload_n 0, 1) := by decide +kernel
theorem dX1_answerAgain_25 : decode cX1_answerAgain 25 = .ok (.getfield 38, 3) := by decide +kernel
theorem dX1_answerAgain_28 : decode cX1_answerAgain 28 = .ok (.iconst 3, 1) := by decide +kernel
theorem dX1_answerAgain_29 : decode cX1_answerAgain 29 = .ok (.iload_n 1, 1) := by decide +kernel
theorem dX1_answerAgain_30 : decode cX1_answerAgain 30 = .ok (.iload_n 2, 1) := by decide +kernel
theorem dX1_answerAgain_31 : decode cX1_answerAgain 31 = .ok (.aload_n 0, 1) := by decide +kernel
theorem dX1_answerAgain_32 : decode cX1_answerAgain 32 = .ok (.getfield 106, 3) := by decide +kernel
theorem dX1_answerAgain_35 : decode cX1_answerAgain 35 = .ok (.invokevirtual 88, 3) := by decide +kernel
theorem dX1_answerAgain_38 : decode cX1_answerAgain 38 = .ok (.goto 48, 3) := by decide +kernel
theorem dX1_answerAgain_41 : decode cX1_answerAgain 41 = .ok (.iload_n 3, 1) := by decide +kernel
theorem dX1_answerAgain_42 : decode cX1_answerAgain 42 = .ok (.aload_n 0, 1) := by decide +kernel
theorem dX1_answerAgain_43 : decode cX1_answerAgain 43 = .ok (.getfield 79, 3) := by decide +kernel
theorem dX1_answerAgain_46 : decode cX1_answerAgain 46 = .ok (.if_icmp .ge 17, 3) := by decide +kernel
theorem dX1_answerAgain_49 : decode cX1_answerAgain 49 = .ok (.aload_n 0, 1) := by decide +kernel
theorem dX1_answerAgain_50 : decode cX1_answerAgain 50 = .ok (.getfield 38, 3) := by decide +kernel
theorem dX1_answerAgain_53 : decode cX1_answerAgain 53 = .ok (.iconst 4, 1) := by decide +kernel
theorem dX1_answerAgain_54 : decode cX1_answerAgain 54 = .ok (.iload_n 1, 1) := by decide +kernel
theorem dX1_answerAgain_55 : decode cX1_answerAgain 55 = .ok (.iload_n 2, 1) := by decide +kernel
theorem dX1_answerAgain_56 : decode cX1_answerAgain 56 = .ok (.iload_n 3, 1) := by decide +kernel
theorem dX1_answerAgain_57 : decode cX1_answerAgain 57 = .ok (.invokevirtual 88, 3) := by decide +kernel
theorem dX1_answerAgain_60 : decode cX1_answerAgain 60 = .ok (.goto 26, 3) := by decide +kernel
theorem dX1_answerAgain_63 : decode cX1_answerAgain 63 = .ok (.aload_n 0, 1) := by decide +kernel
theorem dX1_answerAgain_64 : decode cX1_answerAgain 64 = .ok (.getfield 44, 3) := by decide +kernel
theorem dX1_answerAgain_67 : decode cX1_answerAgain 67 = .ok (.iload_n 1, 1) := by decide +kernel
theorem dX1_answerAgain_68 : decode cX1_answerAgain 68 = .ok (.aaload, 1) := by decide +kernel
theorem dX1_answerAgain_69 : decode cX1_answerAgain 69 = .ok (.getfield 85, 3) := by decide +kernel
theorem dX1_answerAgain_72 : decode cX1_answerAgain 72 = .ok (.ifCond .eq 14, 3) := by decide +kernel
theorem dX1_answerAgain_75 : decode cX1_answerAgain 75 = .ok (.aload_n 0, 1) := by decide +kernel
theorem dX1_answerAgain_76 : decode cX1_answerAgain 76 = .ok (.getfield 38, 3) := by decide +kernel
theorem dX1_answerAgain_79 : decode cX1_answerAgain 79 = .ok (.iconst 5, 1) := by decide +kernel
theorem dX1_answerAgain_80 : decode cX1_answerAgain 80 = .ok (.iload_n 1, 1) := by decide +kernel
theorem dX1_answerAgain_81 : decode cX1_answerAgain 81 = .ok (.iload_n 2, 1) := by decide +kernel
theorem dX1_answerAgain_82 : decode cX1_answerAgain 82 = .ok (.iconst 0, 1) := by decide +kernel
theorem dX1_answerAgain_83 : decode cX1_answerAgain 83 = .ok (.invokevirtual 88, 3) := by decide +kernel
theorem dX1_answerAgain_86 : decode cX1_answerAgain 86 = .ok (.return_, 1) := by decide +kernel
theorem dX1_grantTo_0 : decode cX1_grantTo 0 = .ok (.aload_n 0, 1) := by decide +kernel
theorem dX1_grantTo_1 : decode cX1_grantTo 1 = .ok (.dup, 1) := by decide +kernel
theorem dX1_grantTo_2 : decode cX1_grantTo 2 = .ok (.getfield 106, 3) := by decide +kernel
theorem dX1_grantTo_5 : decode cX1_grantTo 5 = .ok (.iconst 1, 1) := by decide +kernel
theorem dX1_grantTo_6 : decode cX1_grantTo 6 = .ok (.iadd, 1) := by decide +kernel
theorem dX1_grantTo_7 : decode cX1_grantTo 7 = .ok (.putfield 106, 3) := by decide +kernel
theorem dX1_grantTo_10 : decode cX1_grantTo 10 = .ok (.aload_n 0, 1) := by decide +kernel
theorem dX1_grantTo_11 : decode cX1_grantTo 11 = .ok (.iload_n 1, 1) := by decide +kernel
theorem dX1_grantTo_12 : decode cX1_grantTo 12 = .ok (.putfield 25, 3) := by decide +kernel
theorem dX1_grantTo_15 : decode cX1_grantTo 15 = .ok (.aload_n 0, 1) := by decide +kernel
theorem dX1_grantTo_16 : decode cX1_grantTo 16 = .ok (.iload_n 2, 1) := by decide +kernel
theorem dX1_grantTo_17 : decode cX1_grantTo 17 = .ok (.putfield 29, 3) := by decide +kernel
theorem dX1_grantTo_20 : decode cX1_grantTo 20 = .ok (.aload_n 0, 1) := by decide +kernel
theorem dX1_grantTo_21 : decode cX1_grantTo 21 = .ok (.getfield 18, 3) := by decide +kernel
theorem dX1_grantTo_24 : decode cX1_grantTo 24 = .ok (.aload_n 0, 1) := by decide +kernel
theorem dX1_grantTo_25 : decode cX1_grantTo 25 = .ok (.getfield 12, 3) := by decide +kernel
theorem dX1_grantTo_28 : decode cX1_grantTo 28 = .ok (.invokevirtual 126, 3) := by decide +kernel
theorem dX1_grantTo_31 : decode cX1_grantTo 31 = .ok (.aload_n 0, 1) := by decide +kernel
theorem dX1_grantTo_32 : decode cX1_grantTo 32 = .ok (.getfield 38, 3) := by decide +kernel
theorem dX1_grantTo_35 : decode cX1_grantTo 35 = .ok (.iconst 3, 1) := by decide +kernel
theorem dX1_grantTo_36 : decode cX1_grantTo 36 = .ok (.iload_n 1, 1) := by decide +kernel
theorem dX1_grantTo_37 : decode cX1_grantTo 37 = .ok (.aload_n 0, 1) := by decide +kernel
theorem dX1_grantTo_38 : decode cX1_grantTo 38 = .ok (.getfield 44, 3) := by decide +kernel
theorem dX1_grantTo_41 : decode cX1_grantTo 41 = .ok (.iload_n 1, 1) := by decide +kernel
theorem dX1_grantTo_42 : decode cX1_grantTo 42 = .ok (.aaload, 1) := by decide +kernel
theorem dX1_grantTo_43 : decode cX1_grantTo 43 = .ok (.getfield 61, 3) := by decide +kernel
theorem dX1_grantTo_46 : decode cX1_grantTo 46 = .ok (.aload_n 0, 1) := by decide +kernel
theorem dX1_grantTo_47 : decode cX1_grantTo 47 = .ok (.getfield 106, 3) := by decide +kernel
theorem dX1_grantTo_50 : decode cX1_grantTo 50 = .ok (.invokevirtual 88, 3) := by decide +kernel
theorem dX1_grantTo_53 : decode cX1_grantTo 53 = .ok (.aload_n 0, 1) := by decide +kernel
theorem dX1_grantTo_54 : decode cX1_grantTo 54 = .ok (.getfield 38, 3) := by decide +kernel
theorem dX1_grantTo_57 : decode cX1_grantTo 57 = .ok (.bipush 10, 2) := by decide +kernel
theorem dX1_grantTo_59 : decode cX1_grantTo 59 = .ok (.iload_n 1, 1) := by decide +kernel
theorem dX1_grantTo_60 : decode cX1_grantTo 60 = .ok (.aload_n 0, 1) := by decide +kernel
theorem dX1_grantTo_61 : decode cX1_grantTo 61 = .ok (.getfield 106, 3) := by decide +kernel
theorem dX1_grantTo_64 : decode cX1_grantTo 64 = .ok (.iload_n 1, 1) := by decide +kernel
theorem dX1_grantTo_65 : decode cX1_grantTo 65 = .ok (.invokevirtual 88, 3) := by decide +kernel
theorem dX1_grantTo_68 : decode cX1_grantTo 68 = .ok (.aload_n 0, 1) := by decide +kernel
theorem dX1_grantTo_69 : decode cX1_grantTo 69 = .ok (.getfield 38, 3) := by decide +kernel
theorem dX1_grantTo_72 : decode cX1_grantTo 72 = .ok (.bipush 8, 2) := by decide +kernel
theorem dX1_grantTo_74 : decode cX1_grantTo 74 = .ok (.iload_n 1, 1) := by decide +kernel
theorem dX1_grantTo_75 : decode cX1_grantTo 75 = .ok (.aload_n 0, 1) := by decide +kernel
theorem dX1_grantTo_76 : decode cX1_grantTo 76 = .ok (.getfield 106, 3) := by decide +kernel
theorem dX1_grantTo_79 : decode cX1_grantTo 79 = .ok (.iload_n 1, 1) := by decide +kernel
theorem dX1_grantTo_80 : decode cX1_grantTo 80 = .ok (.iconst 0, 1) := by decide +kernel
theorem dX1_grantTo_81 : decode cX1_grantTo 81 = .ok (.invokevirtual 113, 3) := by decide +kernel
theorem dX1_grantTo_84 : decode cX1_grantTo 84 = .ok (.return_, 1) := by decide +kernel
theorem dX1_enqueue_0 : decode cX1_enqueue 0 = .ok (.iconst 0, 1) := by decide +kernel
theorem dX1_enqueue_1 : decode cX1_enqueue 1 = .ok (.istore_n 2, 1) := by decide +kernel
theorem dX1_enqueue_2 : decode cX1_enqueue 2 = .ok (.iload_n 2, 1) := by decide +kernel
theorem dX1_enqueue_3 : decode cX1_enqueue 3 = .ok (.aload_n 0, 1) := by decide +kernel
theorem dX1_enqueue_4 : decode cX1_enqueue 4 = .ok (.getfield 79, 3) := by decide +kernel
theorem dX1_enqueue_7 : decode cX1_enqueue 7 = .ok (.if_icmp .ge 32, 3) := by decide +kernel
theorem dX1_enqueue_10 : decode cX1_enqueue 10 = .ok (.aload_n 0, 1) := by decide +kernel
theorem dX1_enqueue_11 : decode cX1_enqueue 11 = .ok (.getfield 44, 3) := by decide +kernel
theorem dX1_enqueue_14 : decode cX1_enqueue 14 = .ok (.iload_n 1, 1) := by decide +kernel
theorem dX1_enqueue_15 : decode cX1_enqueue 15 = .ok (.aaload, 1) := by decide +kernel
theorem dX1_enqueue_16 : decode cX1_enqueue 16 = .ok (.aload_n 0, 1) := by decide +kernel
theorem dX1_enqueue_17 : decode cX1_enqueue 17 = .ok (.getfield 44, 3) := by decide +kernel
theorem dX1_enqueue_20 : decode cX1_enqueue 20 = .ok (.aload_n 0, 1) := by decide +kernel
theorem dX1_enqueue_21 : decode cX1_enqueue 21 = .ok (.getfield 21, 3) := by decide +kernel
theorem dX1_enqueue_24 : decode cX1_enqueue 24 = .ok (.iload_n 2, 1) := by decide +kernel
theorem dX1_enqueue_25 : decode cX1_enqueue 25 = .ok (.iaload, 1) := by decide +kernel
theorem dX1_enqueue_26 : decode cX1_enqueue 26 = .ok (.aaload, 1) := by decide +kernel
theorem dX1_enqueue_27 : decode cX1_enqueue 27 = .ok (.invokevirtual 130, 3) := by decide +kernel
theorem dX1_enqueue_30 : decode cX1_enqueue 30 = .ok (.ifCond .ne 9, 3) := by decide +kernel
theorem dX1_enqueue_33 : decode cX1_enqueue 33 = .ok (.iinc 2 1, 3) := by decide +kernel
theorem dX1_enqueue_36 : decode cX1_enqueue 36 = .ok (.goto (-34), 3) := by decide +kernel
theorem dX1_enqueue_39 : decode cX1_enqueue 39 = .ok (.aload_n 0, 1) := by decide +kernel
theorem dX1_enqueue_40 : decode cX1_enqueue 40 = .ok (.getfield 79, 3) := by decide +kernel
theorem dX1_enqueue_43 : decode cX1_enqueue 43 = .ok (.istore_n 3, 1) := by decide +kernel
theorem dX1_enqueue_44 : decode cX1_enqueue 44 = .ok (.iload_n 3, 1) := by decide +kernel
theorem dX1_enqueue_45 : decode cX1_enqueue 45 = .ok (.iload_n 2, 1) := by decide +kernel
theorem dX1_enqueue_46 : decode cX1_enqueue 46 = .ok (.if_icmp .le 23, 3) := by decide +kernel
theorem dX1_enqueue_49 : decode cX1_enqueue 49 = .ok (.aload_n 0, 1) := by decide +kernel
theorem dX1_enqueue_50 : decode cX1_enqueue 50 = .ok (.getfield 21, 3) := by decide +kernel
theorem dX1_enqueue_53 : decode cX1_enqueue 53 = .ok (.iload_n 3, 1) := by decide +kernel
theorem dX1_enqueue_54 : decode cX1_enqueue 54 = .ok (.aload_n 0, 1) := by decide +kernel
theorem dX1_enqueue_55 : decode cX1_enqueue 55 = .ok (.getfield 21, 3) := by decide +kernel
theorem dX1_enqueue_58 : decode cX1_enqueue 58 = .ok (.iload_n 3, 1) := by decide +kernel
theorem dX1_enqueue_59 : decode cX1_enqueue 59 = .ok (.iconst 1, 1) := by decide +kernel
theorem dX1_enqueue_60 : decode cX1_enqueue 60 = .ok (.isub, 1) := by decide +kernel
theorem dX1_enqueue_61 : decode cX1_enqueue 61 = .ok (.iaload, 1) := by decide +kernel
theorem dX1_enqueue_62 : decode cX1_enqueue 62 = .ok (.iastore, 1) := by decide +kernel
theorem dX1_enqueue_63 : decode cX1_enqueue 63 = .ok (.iinc 3 (-1), 3) := by decide +kernel
theorem dX1_enqueue_66 : decode cX1_enqueue 66 = .ok (.goto (-22), 3) := by decide +kernel
theorem dX1_enqueue_69 : decode cX1_enqueue 69 = .ok (.aload_n 0, 1) := by decide +kernel
theorem dX1_enqueue_70 : decode cX1_enqueue 70 = .ok (.getfield 21, 3) := by decide +kernel
theorem dX1_enqueue_73 : decode cX1_enqueue 73 = .ok (.iload_n 2, 1) := by decide +kernel
theorem dX1_enqueue_74 : decode cX1_enqueue 74 = .ok (.iload_n 1, 1) := by decide +kernel
theorem dX1_enqueue_75 : decode cX1_enqueue 75 = .ok (.iastore, 1) := by decide +kernel
theorem dX1_enqueue_76 : decode cX1_enqueue 76 = .ok (.aload_n 0, 1) := by decide +kernel
theorem dX1_enqueue_77 : decode cX1_enqueue 77 = .ok (.dup, 1) := by decide +kernel
theorem dX1_enqueue_78 : decode cX1_enqueue 78 = .ok (.getfield 79, 3) := by decide +kernel
theorem dX1_enqueue_81 : decode cX1_enqueue 81 = .ok (.iconst 1, 1) := by decide +kernel
theorem dX1_enqueue_82 : decode cX1_enqueue 82 = .ok (.iadd, 1) := by decide +kernel
theorem dX1_enqueue_83 : decode cX1_enqueue 83 = .ok (.putfield 79, 3) := by decide +kernel
theorem dX1_enqueue_86 : decode cX1_enqueue 86 = .ok (.aload_n 0, 1) := by decide +kernel
theorem dX1_enqueue_87 : decode cX1_enqueue 87 = .ok (.getfield 38, 3) := by decide +kernel
theorem dX1_enqueue_90 : decode cX1_enqueue 90 = .ok (.iconst 4, 1) := by decide +kernel
theorem dX1_enqueue_91 : decode cX1_enqueue 91 = .ok (.iload_n 1, 1) := by decide +kernel
theorem dX1_enqueue_92 : decode cX1_enqueue 92 = .ok (.aload_n 0, 1) := by decide +kernel
theorem dX1_enqueue_93 : decode cX1_enqueue 93 = .ok (.getfield 44, 3) := by decide +kernel
theorem dX1_enqueue_96 : decode cX1_enqueue 96 = .ok (.iload_n 1, 1) := by decide +kernel
theorem dX1_enqueue_97 : decode cX1_enqueue 97 = .ok (.aaload, 1) := by decide +kernel
theorem dX1_enqueue_98 : decode cX1_enqueue 98 = .ok (.getfield 61, 3) := by decide +kernel
theorem dX1_enqueue_101 : decode cX1_enqueue 101 = .ok (.iload_n 2, 1) := by decide +kernel
theorem dX1_enqueue_102 : decode cX1_enqueue 102 = .ok (.invokevirtual 88, 3) := by decide +kernel
theorem dX1_enqueue_105 : decode cX1_enqueue 105 = .ok (.return_, 1) := by decide +kernel
theorem dX1_revokeIfBelow_0 : decode cX1_revokeIfBelow 0 = .ok (.aload_n 0, 1) := by decide +kernel
theorem dX1_revokeIfBelow_1 : decode cX1_revokeIfBelow 1 = .ok (.getfield 25, 3) := by decide +kernel
theorem dX1_revokeIfBelow_4 : decode cX1_revokeIfBelow 4 = .ok (.iconst (-1), 1) := by decide +kernel
theorem dX1_revokeIfBelow_5 : decode cX1_revokeIfBelow 5 = .ok (.if_icmp .eq 21, 3) := by decide +kernel
theorem dX1_revokeIfBelow_8 : decode cX1_revokeIfBelow 8 = .ok (.aload_n 0, 1) := by decide +kernel
theorem dX1_revokeIfBelow_9 : decode cX1_revokeIfBelow 9 = .ok (.getfield 18, 3) := by decide +kernel
theorem dX1_revokeIfBelow_12 : decode cX1_revokeIfBelow 12 = .ok (.getfield 134, 3) := by decide +kernel
theorem dX1_revokeIfBelow_15 : decode cX1_revokeIfBelow 15 = .ok (.ifCond .eq 11, 3) := by decide +kernel
theorem dX1_revokeIfBelow_18 : decode cX1_revokeIfBelow 18 = .ok (.aload_n 0, 1) := by decide +kernel
theorem dX1_revokeIfBelow_19 : decode cX1_revokeIfBelow 19 = .ok (.getfield 32, 3) := by decide +kernel
theorem dX1_revokeIfBelow_22 : decode cX1_revokeIfBelow 22 = .ok (.iconst (-1), 1) := by decide +kernel
theorem dX1_revokeIfBelow_23 : decode cX1_revokeIfBelow 23 = .ok (.if_icmp .eq 4, 3) := by decide +kernel
theorem dX1_revokeIfBelow_26 : decode cX1_revokeIfBelow 26 = .ok (.return_, 1) := by decide +kernel
theorem dX1_revokeIfBelow_27 : decode cX1_revokeIfBelow 27 = .ok (.aload_n 1, 1) := by decide +kernel
theorem dX1_revokeIfBelow_28 : decode cX1_revokeIfBelow 28 = .ok (.aload_n 0, 1) := by decide +kernel
theorem dX1_revokeIfBelow_29 : decode cX1_revokeIfBelow 29 = .ok (.getfield 44, 3) := by decide +kernel
theorem dX1_revokeIfBelow_32 : decode cX1_revokeIfBelow 32 = .ok (.aload_n 0, 1) := by decide +kernel
theorem dX1_revokeIfBelow_33 : decode cX1_revokeIfBelow 33 = .ok (.getfield 25, 3) := by decide +kernel
theorem dX1_revokeIfBelow_36 : decode cX1_revokeIfBelow 36 = .ok (.aaload, 1) := by decide +kernel
theorem dX1_revokeIfBelow_37 : decode cX1_revokeIfBelow 37 = .ok (.invokevirtual 130, 3) := by decide +kernel
theorem dX1_revokeIfBelow_40 : decode cX1_revokeIfBelow 40 = .ok (.ifCond .eq 26, 3) := by decide +kernel
theorem dX1_revokeIfBelow_43 : decode cX1_revokeIfBelow 43 = .ok (.aload_n 0, 1) := by decide +kernel
theorem dX1_revokeIfBelow_44 : decode cX1_revokeIfBelow 44 = .ok (.iload_n 2, 1) := by decide +kernel
theorem dX1_revokeIfBelow_45 : decode cX1_revokeIfBelow 45 = .ok (.putfield 32, 3) := by decide +kernel
theorem dX1_revokeIfBelow_48 : decode cX1_revokeIfBelow 48 = .ok (.aload_n 0, 1) := by decide +kernel
theorem dX1_revokeIfBelow_49 : decode cX1_revokeIfBelow 49 = .ok (.getfield 38, 3) := by decide +kernel
theorem dX1_revokeIfBelow_52 : decode cX1_revokeIfBelow 52 = .ok (.bipush 6, 2) := by decide +kernel
theorem dX1_revokeIfBelow_54 : decode cX1_revokeIfBelow 54 = .ok (.aload_n 0, 1) := by decide +kernel
theorem dX1_revokeIfBelow_55 : decode cX1_revokeIfBelow 55 = .ok (.getfield 25, 3) := by decide +kernel
theorem dX1_revokeIfBelow_58 : decode cX1_revokeIfBelow 58 = .ok (.aload_n 0, 1) := by decide +kernel
theorem dX1_revokeIfBelow_59 : decode cX1_revokeIfBelow 59 = .ok (.getfield 106, 3) := by decide +kernel
theorem dX1_revokeIfBelow_62 : decode cX1_revokeIfBelow 62 = .ok (.iconst 0, 1) := by decide +kernel
theorem dX1_revokeIfBelow_63 : decode cX1_revokeIfBelow 63 = .ok (.invokevirtual 88, 3) := by decide +kernel
theorem dX1_revokeIfBelow_66 : decode cX1_revokeIfBelow 66 = .ok (.return_, 1) := by decide +kernel
theorem dX1_placeOf_0 : decode cX1_placeOf 0 = .ok (.iconst 0, 1) := by decide +kernel
theorem dX1_placeOf_1 : decode cX1_placeOf 1 = .ok (.istore_n 2, 1) := by decide +kernel
theorem dX1_placeOf_2 : decode cX1_placeOf 2 = .ok (.iload_n 2, 1) := by decide +kernel
theorem dX1_placeOf_3 : decode cX1_placeOf 3 = .ok (.aload_n 0, 1) := by decide +kernel
theorem dX1_placeOf_4 : decode cX1_placeOf 4 = .ok (.getfield 79, 3) := by decide +kernel
theorem dX1_placeOf_7 : decode cX1_placeOf 7 = .ok (.if_icmp .ge 19, 3) := by decide +kernel
theorem dX1_placeOf_10 : decode cX1_placeOf 10 = .ok (.aload_n 0, 1) := by decide +kernel
theorem dX1_placeOf_11 : decode cX1_placeOf 11 = .ok (.getfield 21, 3) := by decide +kernel
theorem dX1_placeOf_14 : decode cX1_placeOf 14 = .ok (.iload_n 2, 1) := by decide +kernel
theorem dX1_placeOf_15 : decode cX1_placeOf 15 = .ok (.iaload, 1) := by decide +kernel
theorem dX1_placeOf_16 : decode cX1_placeOf 16 = .ok (.iload_n 1, 1) := by decide +kernel
theorem dX1_placeOf_17 : decode cX1_placeOf 17 = .ok (.if_icmp .eq 9, 3) := by decide +kernel
theorem dX1_placeOf_20 : decode cX1_placeOf 20 = .ok (.iinc 2 1, 3) := by decide +kernel
theorem dX1_placeOf_23 : decode cX1_placeOf 23 = .ok (.goto (-21), 3) := by decide +kernel
theorem dX1_placeOf_26 : decode cX1_placeOf 26 = .ok (.iload_n 2, 1) := by decide +kernel
theorem dX1_placeOf_27 : decode cX1_placeOf 27 = .ok (.ireturn, 1) := by decide +kernel
theorem dX1_goFromRow_0 : decode cX1_goFromRow 0 = .ok (.iload_n 1, 1) := by decide +kernel
theorem dX1_goFromRow_1 : decode cX1_goFromRow 1 = .ok (.aload_n 0, 1) := by decide +kernel
theorem dX1_goFromRow_2 : decode cX1_goFromRow 2 = .ok (.getfield 79, 3) := by decide +kernel
theorem dX1_goFromRow_5 : decode cX1_goFromRow 5 = .ok (.if_icmp .lt 4, 3) := by decide +kernel
theorem dX1_goFromRow_8 : decode cX1_goFromRow 8 = .ok (.return_, 1) := by decide +kernel
theorem dX1_goFromRow_9 : decode cX1_goFromRow 9 = .ok (.aload_n 0, 1) := by decide +kernel
theorem dX1_goFromRow_10 : decode cX1_goFromRow 10 = .ok (.dup, 1) := by decide +kernel
theorem dX1_goFromRow_11 : decode cX1_goFromRow 11 = .ok (.getfield 79, 3) := by decide +kernel
theorem dX1_goFromRow_14 : decode cX1_goFromRow 14 = .ok (.iconst 1, 1) := by decide +kernel
theorem dX1_goFromRow_15 : decode cX1_goFromRow 15 = .ok (.isub, 1) := by decide +kernel
theorem dX1_goFromRow_16 : decode cX1_goFromRow 16 = .ok (.putfield 79, 3) := by decide +kernel
theorem dX1_goFromRow_19 : decode cX1_goFromRow 19 = .ok (.iload_n 1, 1) := by decide +kernel
theorem dX1_goFromRow_20 : decode cX1_goFromRow 20 = .ok (.istore_n 2, 1) := by decide +kernel
theorem dX1_goFromRow_21 : decode cX1_goFromRow 21 = .ok (.iload_n 2, 1) := by decide +kernel
theorem dX1_goFromRow_22 : decode cX1_goFromRow 22 = .ok (.aload_n 0, 1) := by decide +kernel
theorem dX1_goFromRow_23 : decode cX1_goFromRow 23 = .ok (.getfield 79, 3) := by decide +kernel
theorem dX1_goFromRow_26 : decode cX1_goFromRow 26 = .ok (.if_icmp .ge 23, 3) := by decide +kernel
theorem dX1_goFromRow_29 : decode cX1_goFromRow 29 = .ok (.aload_n 0, 1) := by decide +kernel
theorem dX1_goFromRow_30 : decode cX1_goFromRow 30 = .ok (.getfield 21, 3) := by decide +kernel
theorem dX1_goFromRow_33 : decode cX1_goFromRow 33 = .ok (.iload_n 2, 1) := by decide +kernel
theorem dX1_goFromRow_34 : decode cX1_goFromRow 34 = .ok (.aload_n 0, 1) := by decide +kernel
theorem dX1_goFromRow_35 : decode cX1_goFromRow 35 = .ok (.getfield 21, 3) := by decide +kernel
theorem dX1_goFromRow_38 : decode cX1_goFromRow 38 = .ok (.iload_n 2, 1) := by decide +kernel
theorem dX1_goFromRow_39 : decode cX1_goFromRow 39 = .ok (.iconst 1, 1) := by decide +kernel
theorem dX1_goFromRow_40 : decode cX1_goFromRow 40 = .ok (.iadd, 1) := by decide +kernel
theorem dX1_goFromRow_41 : decode cX1_goFromRow 41 = .ok (.iaload, 1) := by decide +kernel
theorem dX1_goFromRow_42 : decode cX1_goFromRow 42 = .ok (.iastore, 1) := by decide +kernel
theorem dX1_goFromRow_43 : decode cX1_goFromRow 43 = .ok (.iinc 2 1, 3) := by decide +kernel
theorem dX1_goFromRow_46 : decode cX1_goFromRow 46 = .ok (.goto (-25), 3) := by decide +kernel
theorem dX1_goFromRow_49 : decode cX1_goFromRow 49 = .ok (.return_, 1) := by decide +kernel
theorem dX1_field_0 : decode cX1_field 0 = .ok (.iload_n 1, 1) := by decide +kernel
theorem dX1_field_1 : decode cX1_field 1 = .ok (.tableswitch 69 0 4 #[35, 40, 45, 50, 64], 35) := by decide +kernel
theorem dX1_field_36 : decode cX1_field 36 = .ok (.aload_n 0, 1) := by decide +kernel
theorem dX1_field_37 : decode cX1_field 37 = .ok (.getfield 106, 3) := by decide +kernel
theorem dX1_field_40 : decode cX1_field 40 = .ok (.ireturn, 1) := by decide +kernel
theorem dX1_field_41 : decode cX1_field 41 = .ok (.aload_n 0, 1) := by decide +kernel
theorem dX1_field_42 : decode cX1_field 42 = .ok (.getfield 25, 3) := by decide +kernel
theorem dX1_field_45 : decode cX1_field 45 = .ok (.ireturn, 1) := by decide +kernel
theorem dX1_field_46 : decode cX1_field 46 = .ok (.aload_n 0, 1) := by decide +kernel
theorem dX1_field_47 : decode cX1_field 47 = .ok (.getfield 79, 3) := by decide +kernel
theorem dX1_field_50 : decode cX1_field 50 = .ok (.ireturn, 1) := by decide +kernel
theorem dX1_field_51 : decode cX1_field 51 = .ok (.aload_n 0, 1) := by decide +kernel
theorem dX1_field_52 : decode cX1_field 52 = .ok (.getfield 32, 3) := by decide +kernel
theorem dX1_field_55 : decode cX1_field 55 = .ok (.iconst (-1), 1) := by decide +kernel
theorem dX1_field_56 : decode cX1_field 56 = .ok (.if_icmp .eq 7, 3) := by decide +kernel
theorem dX1_field_59 : decode cX1_field 59 = .ok (.iconst 1, 1) := by decide +kernel
theorem dX1_field_60 : decode cX1_field 60 = .ok (.goto 4, 3) := by decide +kernel
theorem dX1_field_63 : decode cX1_field 63 = .ok (.iconst 0, 1) := by decide +kernel
theorem dX1_field_64 : decode cX1_field 64 = .ok (.ireturn, 1) := by decide +kernel
theorem dX1_field_65 : decode cX1_field 65 = .ok (.aload_n 0, 1) := by decide +kernel
theorem dX1_field_66 : decode cX1_field 66 = .ok (.getfield 29, 3) := by decide +kernel
theorem dX1_field_69 : decode cX1_field 69 = .ok (.ireturn, 1) := by decide +kernel
theorem dX1_field_70 : decode cX1_field 70 = .ok (.aload_n 0, 1) := by decide +kernel
theorem dX1_field_71 : decode cX1_field 71 = .ok (.getfield 35, 3) := by decide +kernel
theorem dX1_field_74 : decode cX1_field 74 = .ok (.ireturn, 1) := by decide +kernel
theorem dX2_init_0 : decode cX2_init 0 = .ok (.aload_n 0, 1) := by decide +kernel
theorem dX2_init_1 : decode cX2_init 1 = .ok (.invokespecial 3, 3) := by decide +kernel
theorem dX2_init_4 : decode cX2_init 4 = .ok (.aload_n 0, 1) := by decide +kernel
theorem dX2_init_5 : decode cX2_init 5 = .ok (.iconst (-1), 1) := by decide +kernel
theorem dX2_init_6 : decode cX2_init 6 = .ok (.putfield 9, 3) := by decide +kernel
theorem dX2_init_9 : decode cX2_init 9 = .ok (.aload_n 0, 1) := by decide +kernel
theorem dX2_init_10 : decode cX2_init 10 = .ok (.aload_n 1, 1) := by decide +kernel
theorem dX2_init_11 : decode cX2_init 11 = .ok (.putfield 15, 3) := by decide +kernel
theorem dX2_init_14 : decode cX2_init 14 = .ok (.aload_n 0, 1) := by decide +kernel
theorem dX2_init_15 : decode cX2_init 15 = .ok (.aload_n 2, 1) := by decide +kernel
theorem dX2_init_16 : decode cX2_init 16 = .ok (.putfield 19, 3) := by decide +kernel
theorem dX2_init_19 : decode cX2_init 19 = .ok (.return_, 1) := by decide +kernel
theorem dX2_hearGate_0 : decode cX2_hearGate 0 = .ok (.iload_n 1, 1) := by decide +kernel
theorem dX2_hearGate_1 : decode cX2_hearGate 1 = .ok (.aload_n 0, 1) := by decide +kernel
theorem dX2_hearGate_2 : decode cX2_hearGate 2 = .ok (.getfield 23, 3) := by decide +kernel
theorem dX2_hearGate_5 : decode cX2_hearGate 5 = .ok (.if_icmp .le 21, 3) := by decide +kernel
theorem dX2_hearGate_8 : decode cX2_hearGate 8 = .ok (.aload_n 0, 1) := by decide +kernel
theorem dX2_hearGate_9 : decode cX2_hearGate 9 = .ok (.iload_n 1, 1) := by decide +kernel
theorem dX2_hearGate_10 : decode cX2_hearGate 10 = .ok (.putfield 23, 3) := by decide +kernel
theorem dX2_hearGate_13 : decode cX2_hearGate 13 = .ok (.aload_n 0, 1) := by decide +kernel
theorem dX2_hearGate_14 : decode cX2_hearGate 14 = .ok (.iload_n 2, 1) := by decide +kernel
theorem dX2_hearGate_15 : decode cX2_hearGate 15 = .ok (.putfield 9, 3) := by decide +kernel
theorem dX2_hearGate_18 : decode cX2_hearGate 18 = .ok (.aload_n 0, 1) := by decide +kernel
theorem dX2_hearGate_19 : decode cX2_hearGate 19 = .ok (.lconst 0, 1) := by decide +kernel
theorem dX2_hearGate_20 : decode cX2_hearGate 20 = .ok (.putfield 26, 3) := by decide +kernel
theorem dX2_hearGate_23 : decode cX2_hearGate 23 = .ok (.goto 21, 3) := by decide +kernel
theorem dX2_hearGate_26 : decode cX2_hearGate 26 = .ok (.iload_n 1, 1) := by decide +kernel
theorem dX2_hearGate_27 : decode cX2_hearGate 27 = .ok (.aload_n 0, 1) := by decide +kernel
theorem dX2_hearGate_28 : decode cX2_hearGate 28 = .ok (.getfield 23, 3) := by decide +kernel
theorem dX2_hearGate_31 : decode cX2_hearGate 31 = .ok (.if_icmp .ne 13, 3) := by decide +kernel
theorem dX2_hearGate_34 : decode cX2_hearGate 34 = .ok (.iload_n 2, 1) := by decide +kernel
theorem dX2_hearGate_35 : decode cX2_hearGate 35 = .ok (.iconst (-1), 1) := by decide +kernel
theorem dX2_hearGate_36 : decode cX2_hearGate 36 = .ok (.if_icmp .ne 8, 3) := by decide +kernel
theorem dX2_hearGate_39 : decode cX2_hearGate 39 = .ok (.aload_n 0, 1) := by decide +kernel
theorem dX2_hearGate_40 : decode cX2_hearGate 40 = .ok (.iconst (-1), 1) := by decide +kernel
theorem dX2_hearGate_41 : decode cX2_hearGate 41 = .ok (.putfield 9, 3) := by decide +kernel
theorem dX2_hearGate_44 : decode cX2_hearGate 44 = .ok (.return_, 1) := by decide +kernel
theorem dX2_hearUnit_0 : decode cX2_hearUnit 0 = .ok (.aload_n 0, 1) := by decide +kernel
theorem dX2_hearUnit_1 : decode cX2_hearUnit 1 = .ok (.iload_n 1, 1) := by decide +kernel
theorem dX2_hearUnit_2 : decode cX2_hearUnit 2 = .ok (.iload_n 2, 1) := by decide +kernel
theorem dX2_hearUnit_3 : decode cX2_hearUnit 3 = .ok (.iload_n 3, 1) := by decide +kernel
theorem dX2_hearUnit_4 : decode cX2_hearUnit 4 = .ok (.invokevirtual 30, 3) := by decide +kernel
theorem dX2_hearUnit_7 : decode cX2_hearUnit 7 = .ok (.ifCond .ne 14, 3) := by decide +kernel
theorem dX2_hearUnit_10 : decode cX2_hearUnit 10 = .ok (.aload_n 0, 1) := by decide +kernel
theorem dX2_hearUnit_11 : decode cX2_hearUnit 11 = .ok (.dup, 1) := by decide +kernel
theorem dX2_hearUnit_12 : decode cX2_hearUnit 12 = .ok (.getfield 34, 3) := by decide +kernel
theorem dX2_hearUnit_15 : decode cX2_hearUnit 15 = .ok (.iconst 1, 1) := by decide +kernel
theorem dX2_hearUnit_16 : decode cX2_hearUnit 16 = .ok (.iadd, 1) := by decide +kernel
theorem dX2_hearUnit_17 : decode cX2_hearUnit 17 = .ok (.putfield 34, 3) := by decide +kernel
theorem dX2_hearUnit_20 : decode cX2_hearUnit 20 = .ok (.return_, 1) := by decide +kernel
theorem dX2_hearUnit_21 : decode cX2_hearUnit 21 = .ok (.aload_n 0, 1) := by decide +kernel
theorem dX2_hearUnit_22 : decode cX2_hearUnit 22 = .ok (.dup, 1) := by decide +kernel
theorem dX2_hearUnit_23 : decode cX2_hearUnit 23 = .ok (.getfield 37, 3) := by decide +kernel
theorem dX2_hearUnit_26 : decode cX2_hearUnit 26 = .ok (.iconst 1, 1) := by decide +kernel
theorem dX2_hearUnit_27 : decode cX2_hearUnit 27 = .ok (.iadd, 1) := by decide +kernel
theorem dX2_hearUnit_28 : decode cX2_hearUnit 28 = .ok (.putfield 37, 3) := by decide +kernel
theorem dX2_hearUnit_31 : decode cX2_hearUnit 31 = .ok (.aload_n 0, 1) := by decide +kernel
theorem dX2_hearUnit_32 : decode cX2_hearUnit 32 = .ok (.dup, 1) := by decide +kernel
theorem dX2_hearUnit_33 : decode cX2_hearUnit 33 = .ok (.getfield 26, 3) := by decide +kernel
theorem dX2_hearUnit_36 : decode cX2_hearUnit 36 = .ok (.lconst 1, 1) := by decide +kernel
theorem dX2_hearUnit_37 : decode cX2_hearUnit 37 = .ok (.iload_n 3, 1) := by decide +kernel
theorem dX2_hearUnit_38 : decode cX2_hearUnit 38 = .ok (.lshl, 1) := by decide +kernel
theorem dX2_hearUnit_39 : decode cX2_hearUnit 39 = .ok (.lor, 1) := by decide +kernel
theorem dX2_hearUnit_40 : decode cX2_hearUnit 40 = .ok (.putfield 26, 3) := by decide +kernel
theorem dX2_hearUnit_43 : decode cX2_hearUnit 43 = .ok (.aload_n 0, 1) := by decide +kernel
theorem dX2_hearUnit_44 : decode cX2_hearUnit 44 = .ok (.getfield 15, 3) := by decide +kernel
theorem dX2_hearUnit_47 : decode cX2_hearUnit 47 = .ok (.bipush 9, 2) := by decide +kernel
theorem dX2_hearUnit_49 : decode cX2_hearUnit 49 = .ok (.iload_n 1, 1) := by decide +kernel
theorem dX2_hearUnit_50 : decode cX2_hearUnit 50 = .ok (.iload_n 2, 1) := by decide +kernel
theorem dX2_hearUnit_51 : decode cX2_hearUnit 51 = .ok (.iload_n 3, 1) := by decide +kernel
theorem dX2_hearUnit_52 : decode cX2_hearUnit 52 = .ok (.iload 4, 2) := by decide +kernel
theorem dX2_hearUnit_54 : decode cX2_hearUnit 54 = .ok (.invokevirtual 40, 3) := by decide +kernel
theorem dX2_hearUnit_57 : decode cX2_hearUnit 57 = .ok (.aload_n 0, 1) := by decide +kernel
theorem dX2_hearUnit_58 : decode cX2_hearUnit 58 = .ok (.getfield 19, 3) := by decide +kernel
theorem dX2_hearUnit_61 : decode cX2_hearUnit 61 = .ok (.iload_n 2, 1) := by decide +kernel
theorem dX2_hearUnit_62 : decode cX2_hearUnit 62 = .ok (.iload 5, 2) := by decide +kernel
theorem dX2_hearUnit_64 : decode cX2_hearUnit 64 = .ok (.invokevirtual 46, 3) := by decide +kernel
theorem dX2_hearUnit_67 : decode cX2_hearUnit 67 = .ok (.return_, 1) := by decide +kernel
theorem dX2_lets_0 : decode cX2_lets 0 = .ok (.aload_n 0, 1) := by decide +kernel
theorem dX2_lets_1 : decode cX2_lets 1 = .ok (.getfield 9, 3) := by decide +kernel
theorem dX2_lets_4 : decode cX2_lets 4 = .ok (.iconst (-1), 1) := by decide +kernel
theorem dX2_lets_5 : decode cX2_lets 5 = .ok (.if_icmp .eq 42, 3) := by decide +kernel
theorem dX2_lets_8 : decode cX2_lets 8 = .ok (.iload_n 1, 1) := by decide +kernel
theorem dX2_lets_9 : decode cX2_lets 9 = .ok (.aload_n 0, 1) := by decide +kernel
theorem dX2_lets_10 : decode cX2_lets 10 = .ok (.getfield 9, 3) := by decide +kernel
theorem dX2_lets_13 : decode cX2_lets 13 = .ok (.if_icmp .ne 34, 3) := by decide +kernel
theorem dX2_lets_16 : decode cX2_lets 16 = .ok (.iload_n 2, 1) := by decide +kernel
theorem dX2_lets_17 : decode cX2_lets 17 = .ok (.aload_n 0, 1) := by decide +kernel
theorem dX2_lets_18 : decode cX2_lets 18 = .ok (.getfield 23, 3) := by decide +kernel
theorem dX2_lets_21 : decode cX2_lets 21 = .ok (.if_icmp .ne 26, 3) := by decide +kernel
theorem dX2_lets_24 : decode cX2_lets 24 = .ok (.iload_n 3, 1) := by decide +kernel
theorem dX2_lets_25 : decode cX2_lets 25 = .ok (.bipush 64, 2) := by decide +kernel
theorem dX2_lets_27 : decode cX2_lets 27 = .ok (.if_icmp .ge 20, 3) := by decide +kernel
theorem dX2_lets_30 : decode cX2_lets 30 = .ok (.aload_n 0, 1) := by decide +kernel
theorem dX2_lets_31 : decode cX2_lets 31 = .ok (.getfield 26, 3) := by decide +kernel
theorem dX2_lets_34 : decode cX2_lets 34 = .ok (.lconst 1, 1) := by decide +kernel
theorem dX2_lets_35 : decode cX2_lets 35 = .ok (.iload_n 3, 1) := by decide +kernel
theorem dX2_lets_36 : decode cX2_lets 36 = .ok (.lshl, 1) := by decide +kernel
theorem dX2_lets_37 : decode cX2_lets 37 = .ok (.land, 1) := by decide +kernel
theorem dX2_lets_38 : decode cX2_lets 38 = .ok (.lconst 0, 1) := by decide +kernel
theorem dX2_lets_39 : decode cX2_lets 39 = .ok (.lcmp, 1) := by decide +kernel
theorem dX2_lets_40 : decode cX2_lets 40 = .ok (.ifCond .ne 7, 3) := by decide +kernel
theorem dX2_lets_43 : decode cX2_lets 43 = .ok (.iconst 1, 1) := by decide +kernel
theorem dX2_lets_44 : decode cX2_lets 44 = .ok (.goto 4, 3) := by decide +kernel
theorem dX2_lets_47 : decode cX2_lets 47 = .ok (.iconst 0, 1) := by decide +kernel
theorem dX2_lets_48 : decode cX2_lets 48 = .ok (.ireturn, 1) := by decide +kernel
theorem dX2_field_0 : decode cX2_field 0 = .ok (.iload_n 1, 1) := by decide +kernel
theorem dX2_field_1 : decode cX2_field 1 = .ok (.tableswitch 42 0 2 #[27, 32, 37], 27) := by decide +kernel
theorem dX2_field_28 : decode cX2_field 28 = .ok (.aload_n 0, 1) := by decide +kernel
theorem dX2_field_29 : decode cX2_field 29 = .ok (.getfield 23, 3) := by decide +kernel
theorem dX2_field_32 : decode cX2_field 32 = .ok (.ireturn, 1) := by decide +kernel
theorem dX2_field_33 : decode cX2_field 33 = .ok (.aload_n 0, 1) := by decide +kernel
theorem dX2_field_34 : decode cX2_field 34 = .ok (.getfield 9, 3) := by decide +kernel
theorem dX2_field_37 : decode cX2_field 37 = .ok (.ireturn, 1) := by decide +kernel
