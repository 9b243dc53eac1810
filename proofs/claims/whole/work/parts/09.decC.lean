theorem dX9_init_54 : decode cX9_init 54 = .ok (.dup, 1) := by decide +kernel
theorem dX9_init_55 : decode cX9_init 55 = .ok (.aload_n 0, 1) := by decide +kernel
theorem dX9_init_56 : decode cX9_init 56 = .ok (.getfield 10, 3) := by decide +kernel
theorem dX9_init_59 : decode cX9_init 59 = .ok (.iload_n 1, 1) := by decide +kernel
theorem dX9_init_60 : decode cX9_init 60 = .ok (.invokespecial 34, 3) := by decide +kernel
theorem dX9_init_63 : decode cX9_init 63 = .ok (.aastore, 1) := by decide +kernel
theorem dX9_init_64 : decode cX9_init 64 = .ok (.aload_n 0, 1) := by decide +kernel
theorem dX9_init_65 : decode cX9_init 65 = .ok (.getfield 24, 3) := by decide +kernel
theorem dX9_init_68 : decode cX9_init 68 = .ok (.iload_n 1, 1) := by decide +kernel
theorem dX9_init_69 : decode cX9_init 69 = .ok (.new 22, 3) := by decide +kernel
theorem dX9_init_72 : decode cX9_init 72 = .ok (.dup, 1) := by decide +kernel
theorem dX9_init_73 : decode cX9_init 73 = .ok (.aload_n 0, 1) := by decide +kernel
theorem dX9_init_74 : decode cX9_init 74 = .ok (.getfield 18, 3) := by decide +kernel
theorem dX9_init_77 : decode cX9_init 77 = .ok (.iload_n 1, 1) := by decide +kernel
theorem dX9_init_78 : decode cX9_init 78 = .ok (.aaload, 1) := by decide +kernel
theorem dX9_init_79 : decode cX9_init 79 = .ok (.invokespecial 37, 3) := by decide +kernel
theorem dX9_init_82 : decode cX9_init 82 = .ok (.aastore, 1) := by decide +kernel
theorem dX9_init_83 : decode cX9_init 83 = .ok (.aload_n 0, 1) := by decide +kernel
theorem dX9_init_84 : decode cX9_init 84 = .ok (.getfield 30, 3) := by decide +kernel
theorem dX9_init_87 : decode cX9_init 87 = .ok (.iload_n 1, 1) := by decide +kernel
theorem dX9_init_88 : decode cX9_init 88 = .ok (.new 28, 3) := by decide +kernel
theorem dX9_init_91 : decode cX9_init 91 = .ok (.dup, 1) := by decide +kernel
theorem dX9_init_92 : decode cX9_init 92 = .ok (.aload_n 0, 1) := by decide +kernel
theorem dX9_init_93 : decode cX9_init 93 = .ok (.getfield 18, 3) := by decide +kernel
theorem dX9_init_96 : decode cX9_init 96 = .ok (.iload_n 1, 1) := by decide +kernel
theorem dX9_init_97 : decode cX9_init 97 = .ok (.aaload, 1) := by decide +kernel
theorem dX9_init_98 : decode cX9_init 98 = .ok (.aload_n 0, 1) := by decide +kernel
theorem dX9_init_99 : decode cX9_init 99 = .ok (.getfield 24, 3) := by decide +kernel
theorem dX9_init_102 : decode cX9_init 102 = .ok (.iload_n 1, 1) := by decide +kernel
theorem dX9_init_103 : decode cX9_init 103 = .ok (.aaload, 1) := by decide +kernel
theorem dX9_init_104 : decode cX9_init 104 = .ok (.invokespecial 40, 3) := by decide +kernel
theorem dX9_init_107 : decode cX9_init 107 = .ok (.aastore, 1) := by decide +kernel
theorem dX9_init_108 : decode cX9_init 108 = .ok (.iinc 1 1, 3) := by decide +kernel
theorem dX9_init_111 : decode cX9_init 111 = .ok (.goto (-70), 3) := by decide +kernel
theorem dX9_init_114 : decode cX9_init 114 = .ok (.return_, 1) := by decide +kernel
theorem dX9_rules_0 : decode cX9_rules 0 = .ok (.iload_n 1, 1) := by decide +kernel
theorem dX9_rules_1 : decode cX9_rules 1 = .ok (.invokestatic 43, 3) := by decide +kernel
theorem dX9_rules_4 : decode cX9_rules 4 = .ok (.iload_n 3, 1) := by decide +kernel
theorem dX9_rules_5 : decode cX9_rules 5 = .ok (.iconst 1, 1) := by decide +kernel
theorem dX9_rules_6 : decode cX9_rules 6 = .ok (.bipush 100, 2) := by decide +kernel
theorem dX9_rules_8 : decode cX9_rules 8 = .ok (.invokestatic 47, 3) := by decide +kernel
theorem dX9_rules_11 : decode cX9_rules 11 = .ok (.iload 4, 2) := by decide +kernel
theorem dX9_rules_13 : decode cX9_rules 13 = .ok (.iconst 1, 1) := by decide +kernel
theorem dX9_rules_14 : decode cX9_rules 14 = .ok (.bipush 50, 2) := by decide +kernel
theorem dX9_rules_16 : decode cX9_rules 16 = .ok (.invokestatic 47, 3) := by decide +kernel
theorem dX9_rules_19 : decode cX9_rules 19 = .ok (.iload 5, 2) := by decide +kernel
theorem dX9_rules_21 : decode cX9_rules 21 = .ok (.iconst 0, 1) := by decide +kernel
theorem dX9_rules_22 : decode cX9_rules 22 = .ok (.bipush 20, 2) := by decide +kernel
theorem dX9_rules_24 : decode cX9_rules 24 = .ok (.invokestatic 47, 3) := by decide +kernel
theorem dX9_rules_27 : decode cX9_rules 27 = .ok (.aload_n 0, 1) := by decide +kernel
theorem dX9_rules_28 : decode cX9_rules 28 = .ok (.getfield 24, 3) := by decide +kernel
theorem dX9_rules_31 : decode cX9_rules 31 = .ok (.iload_n 1, 1) := by decide +kernel
theorem dX9_rules_32 : decode cX9_rules 32 = .ok (.aaload, 1) := by decide +kernel
theorem dX9_rules_33 : decode cX9_rules 33 = .ok (.getfield 51, 3) := by decide +kernel
theorem dX9_rules_36 : decode cX9_rules 36 = .ok (.iload_n 2, 1) := by decide +kernel
theorem dX9_rules_37 : decode cX9_rules 37 = .ok (.iload_n 3, 1) := by decide +kernel
theorem dX9_rules_38 : decode cX9_rules 38 = .ok (.iload 4, 2) := by decide +kernel
theorem dX9_rules_40 : decode cX9_rules 40 = .ok (.iload 5, 2) := by decide +kernel
theorem dX9_rules_42 : decode cX9_rules 42 = .ok (.invokevirtual 55, 3) := by decide +kernel
theorem dX9_rules_45 : decode cX9_rules 45 = .ok (.return_, 1) := by decide +kernel
theorem dX9_member_0 : decode cX9_member 0 = .ok (.aload_n 0, 1) := by decide +kernel
theorem dX9_member_1 : decode cX9_member 1 = .ok (.iload_n 1, 1) := by decide +kernel
theorem dX9_member_2 : decode cX9_member 2 = .ok (.iload_n 2, 1) := by decide +kernel
theorem dX9_member_3 : decode cX9_member 3 = .ok (.invokevirtual 61, 3) := by decide +kernel
theorem dX9_member_6 : decode cX9_member 6 = .ok (.astore 4, 2) := by decide +kernel
theorem dX9_member_8 : decode cX9_member 8 = .ok (.iload_n 3, 1) := by decide +kernel
theorem dX9_member_9 : decode cX9_member 9 = .ok (.iconst 0, 1) := by decide +kernel
theorem dX9_member_10 : decode cX9_member 10 = .ok (.bipush 7, 2) := by decide +kernel
theorem dX9_member_12 : decode cX9_member 12 = .ok (.invokestatic 47, 3) := by decide +kernel
theorem dX9_member_15 : decode cX9_member 15 = .ok (.aload 4, 2) := by decide +kernel
theorem dX9_member_17 : decode cX9_member 17 = .ok (.iconst 1, 1) := by decide +kernel
theorem dX9_member_18 : decode cX9_member 18 = .ok (.putfield 65, 3) := by decide +kernel
theorem dX9_member_21 : decode cX9_member 21 = .ok (.aload 4, 2) := by decide +kernel
theorem dX9_member_23 : decode cX9_member 23 = .ok (.iload_n 3, 1) := by decide +kernel
theorem dX9_member_24 : decode cX9_member 24 = .ok (.putfield 71, 3) := by decide +kernel
theorem dX9_member_27 : decode cX9_member 27 = .ok (.return_, 1) := by decide +kernel
theorem dX9_leave_0 : decode cX9_leave 0 = .ok (.aload_n 0, 1) := by decide +kernel
theorem dX9_leave_1 : decode cX9_leave 1 = .ok (.iload_n 1, 1) := by decide +kernel
theorem dX9_leave_2 : decode cX9_leave 2 = .ok (.iload_n 2, 1) := by decide +kernel
theorem dX9_leave_3 : decode cX9_leave 3 = .ok (.invokevirtual 61, 3) := by decide +kernel
theorem dX9_leave_6 : decode cX9_leave 6 = .ok (.astore_n 3, 1) := by decide +kernel
theorem dX9_leave_7 : decode cX9_leave 7 = .ok (.aload_n 3, 1) := by decide +kernel
theorem dX9_leave_8 : decode cX9_leave 8 = .ok (.getfield 65, 3) := by decide +kernel
theorem dX9_leave_11 : decode cX9_leave 11 = .ok (.ifCond .ne 5, 3) := by decide +kernel
theorem dX9_leave_14 : decode cX9_leave 14 = .ok (.iconst 0, 1) := by decide +kernel
theorem dX9_leave_15 : decode cX9_leave 15 = .ok (.ireturn, 1) := by decide +kernel
theorem dX9_leave_16 : decode cX9_leave 16 = .ok (.aload_n 3, 1) := by decide +kernel
theorem dX9_leave_17 : decode cX9_leave 17 = .ok (.invokevirtual 75, 3) := by decide +kernel
theorem dX9_leave_20 : decode cX9_leave 20 = .ok (.aload_n 0, 1) := by decide +kernel
theorem dX9_leave_21 : decode cX9_leave 21 = .ok (.getfield 24, 3) := by decide +kernel
theorem dX9_leave_24 : decode cX9_leave 24 = .ok (.iload_n 1, 1) := by decide +kernel
theorem dX9_leave_25 : decode cX9_leave 25 = .ok (.aaload, 1) := by decide +kernel
theorem dX9_leave_26 : decode cX9_leave 26 = .ok (.iload_n 2, 1) := by decide +kernel
theorem dX9_leave_27 : decode cX9_leave 27 = .ok (.aload_n 0, 1) := by decide +kernel
theorem dX9_leave_28 : decode cX9_leave 28 = .ok (.getfield 78, 3) := by decide +kernel
theorem dX9_leave_31 : decode cX9_leave 31 = .ok (.invokevirtual 81, 3) := by decide +kernel
theorem dX9_leave_34 : decode cX9_leave 34 = .ok (.iconst 1, 1) := by decide +kernel
theorem dX9_leave_35 : decode cX9_leave 35 = .ok (.ireturn, 1) := by decide +kernel
theorem dX9_press_0 : decode cX9_press 0 = .ok (.aload_n 0, 1) := by decide +kernel
theorem dX9_press_1 : decode cX9_press 1 = .ok (.iload_n 1, 1) := by decide +kernel
theorem dX9_press_2 : decode cX9_press 2 = .ok (.iload_n 2, 1) := by decide +kernel
theorem dX9_press_3 : decode cX9_press 3 = .ok (.invokevirtual 85, 3) := by decide +kernel
theorem dX9_press_6 : decode cX9_press 6 = .ok (.astore 4, 2) := by decide +kernel
theorem dX9_press_8 : decode cX9_press 8 = .ok (.aload 4, 2) := by decide +kernel
theorem dX9_press_10 : decode cX9_press 10 = .ok (.getfield 88, 3) := by decide +kernel
theorem dX9_press_13 : decode cX9_press 13 = .ok (.ifCond .ne 7, 3) := by decide +kernel
theorem dX9_press_16 : decode cX9_press 16 = .ok (.iconst 1, 1) := by decide +kernel
theorem dX9_press_17 : decode cX9_press 17 = .ok (.goto 4, 3) := by decide +kernel
theorem dX9_press_20 : decode cX9_press 20 = .ok (.iconst 0, 1) := by decide +kernel
theorem dX9_press_21 : decode cX9_press 21 = .ok (.invokestatic 91, 3) := by decide +kernel
theorem dX9_press_24 : decode cX9_press 24 = .ok (.aload 4, 2) := by decide +kernel
theorem dX9_press_26 : decode cX9_press 26 = .ok (.dup, 1) := by decide +kernel
theorem dX9_press_27 : decode cX9_press 27 = .ok (.getfield 95, 3) := by decide +kernel
theorem dX9_press_30 : decode cX9_press 30 = .ok (.iconst 1, 1) := by decide +kernel
theorem dX9_press_31 : decode cX9_press 31 = .ok (.iadd, 1) := by decide +kernel
theorem dX9_press_32 : decode cX9_press 32 = .ok (.putfield 95, 3) := by decide +kernel
theorem dX9_press_35 : decode cX9_press 35 = .ok (.aload 4, 2) := by decide +kernel
theorem dX9_press_37 : decode cX9_press 37 = .ok (.iload_n 3, 1) := by decide +kernel
theorem dX9_press_38 : decode cX9_press 38 = .ok (.putfield 98, 3) := by decide +kernel
theorem dX9_press_41 : decode cX9_press 41 = .ok (.aload 4, 2) := by decide +kernel
theorem dX9_press_43 : decode cX9_press 43 = .ok (.iconst 1, 1) := by decide +kernel
theorem dX9_press_44 : decode cX9_press 44 = .ok (.putfield 88, 3) := by decide +kernel
theorem dX9_press_47 : decode cX9_press 47 = .ok (.aload_n 0, 1) := by decide +kernel
theorem dX9_press_48 : decode cX9_press 48 = .ok (.iload_n 1, 1) := by decide +kernel
theorem dX9_press_49 : decode cX9_press 49 = .ok (.iload_n 2, 1) := by decide +kernel
theorem dX9_press_50 : decode cX9_press 50 = .ok (.aload 4, 2) := by decide +kernel
theorem dX9_press_52 : decode cX9_press 52 = .ok (.invokevirtual 101, 3) := by decide +kernel
theorem dX9_press_55 : decode cX9_press 55 = .ok (.aload 4, 2) := by decide +kernel
theorem dX9_press_57 : decode cX9_press 57 = .ok (.getfield 95, 3) := by decide +kernel
theorem dX9_press_60 : decode cX9_press 60 = .ok (.ireturn, 1) := by decide +kernel
theorem dX9_again_0 : decode cX9_again 0 = .ok (.aload_n 0, 1) := by decide +kernel
theorem dX9_again_1 : decode cX9_again 1 = .ok (.iload_n 1, 1) := by decide +kernel
theorem dX9_again_2 : decode cX9_again 2 = .ok (.iload_n 2, 1) := by decide +kernel
theorem dX9_again_3 : decode cX9_again 3 = .ok (.invokevirtual 85, 3) := by decide +kernel
theorem dX9_again_6 : decode cX9_again 6 = .ok (.astore_n 3, 1) := by decide +kernel
theorem dX9_again_7 : decode cX9_again 7 = .ok (.aload_n 3, 1) := by decide +kernel
theorem dX9_again_8 : decode cX9_again 8 = .ok (.invokevirtual 105, 3) := by decide +kernel
theorem dX9_again_11 : decode cX9_again 11 = .ok (.invokestatic 91, 3) := by decide +kernel
theorem dX9_again_14 : decode cX9_again 14 = .ok (.aload_n 0, 1) := by decide +kernel
theorem dX9_again_15 : decode cX9_again 15 = .ok (.iload_n 1, 1) := by decide +kernel
theorem dX9_again_16 : decode cX9_again 16 = .ok (.iload_n 2, 1) := by decide +kernel
theorem dX9_again_17 : decode cX9_again 17 = .ok (.aload_n 3, 1) := by decide +kernel
theorem dX9_again_18 : decode cX9_again 18 = .ok (.invokevirtual 101, 3) := by decide +kernel
theorem dX9_again_21 : decode cX9_again 21 = .ok (.return_, 1) := by decide +kernel
theorem dX9_release_0 : decode cX9_release 0 = .ok (.aload_n 0, 1) := by decide +kernel
theorem dX9_release_1 : decode cX9_release 1 = .ok (.iload_n 1, 1) := by decide +kernel
theorem dX9_release_2 : decode cX9_release 2 = .ok (.iload_n 2, 1) := by decide +kernel
theorem dX9_release_3 : decode cX9_release 3 = .ok (.invokevirtual 85, 3) := by decide +kernel
theorem dX9_release_6 : decode cX9_release 6 = .ok (.astore_n 3, 1) := by decide +kernel
theorem dX9_release_7 : decode cX9_release 7 = .ok (.aload_n 3, 1) := by decide +kernel
theorem dX9_release_8 : decode cX9_release 8 = .ok (.getfield 88, 3) := by decide +kernel
theorem dX9_release_11 : decode cX9_release 11 = .ok (.ifCond .eq 7, 3) := by decide +kernel
theorem dX9_release_14 : decode cX9_release 14 = .ok (.iconst 1, 1) := by decide +kernel
theorem dX9_release_15 : decode cX9_release 15 = .ok (.goto 4, 3) := by decide +kernel
theorem dX9_release_18 : decode cX9_release 18 = .ok (.iconst 0, 1) := by decide +kernel
theorem dX9_release_19 : decode cX9_release 19 = .ok (.invokestatic 91, 3) := by decide +kernel
theorem dX9_release_22 : decode cX9_release 22 = .ok (.aload_n 3, 1) := by decide +kernel
theorem dX9_release_23 : decode cX9_release 23 = .ok (.iconst 0, 1) := by decide +kernel
theorem dX9_release_24 : decode cX9_release 24 = .ok (.putfield 88, 3) := by decide +kernel
theorem dX9_release_27 : decode cX9_release 27 = .ok (.aload_n 0, 1) := by decide +kernel
theorem dX9_release_28 : decode cX9_release 28 = .ok (.getfield 10, 3) := by decide +kernel
theorem dX9_release_31 : decode cX9_release 31 = .ok (.iconst 2, 1) := by decide +kernel
theorem dX9_release_32 : decode cX9_release 32 = .ok (.iload_n 1, 1) := by decide +kernel
theorem dX9_release_33 : decode cX9_release 33 = .ok (.iload_n 2, 1) := by decide +kernel
theorem dX9_release_34 : decode cX9_release 34 = .ok (.aload_n 3, 1) := by decide +kernel
theorem dX9_release_35 : decode cX9_release 35 = .ok (.getfield 95, 3) := by decide +kernel
theorem dX9_release_38 : decode cX9_release 38 = .ok (.iconst 0, 1) := by decide +kernel
theorem dX9_release_39 : decode cX9_release 39 = .ok (.iconst 0, 1) := by decide +kernel
theorem dX9_release_40 : decode cX9_release 40 = .ok (.invokevirtual 109, 3) := by decide +kernel
theorem dX9_release_43 : decode cX9_release 43 = .ok (.return_, 1) := by decide +kernel
theorem dX9_unit_0 : decode cX9_unit 0 = .ok (.aload_n 0, 1) := by decide +kernel
theorem dX9_unit_1 : decode cX9_unit 1 = .ok (.iload_n 1, 1) := by decide +kernel
theorem dX9_unit_2 : decode cX9_unit 2 = .ok (.iload_n 2, 1) := by decide +kernel
theorem dX9_unit_3 : decode cX9_unit 3 = .ok (.invokevirtual 85, 3) := by decide +kernel
theorem dX9_unit_6 : decode cX9_unit 6 = .ok (.astore 4, 2) := by decide +kernel
theorem dX9_unit_8 : decode cX9_unit 8 = .ok (.aload 4, 2) := by decide +kernel
theorem dX9_unit_10 : decode cX9_unit 10 = .ok (.invokevirtual 113, 3) := by decide +kernel
theorem dX9_unit_13 : decode cX9_unit 13 = .ok (.invokestatic 91, 3) := by decide +kernel
theorem dX9_unit_16 : decode cX9_unit 16 = .ok (.aload 4, 2) := by decide +kernel
theorem dX9_unit_18 : decode cX9_unit 18 = .ok (.getfield 116, 3) := by decide +kernel
theorem dX9_unit_21 : decode cX9_unit 21 = .ok (.bipush 64, 2) := by decide +kernel
theorem dX9_unit_23 : decode cX9_unit 23 = .ok (.if_icmp .lt 11, 3) := by decide +kernel
theorem dX9_unit_26 : decode cX9_unit 26 = .ok (.new 119, 3) := by decide +kernel
theorem dX9_unit_29 : decode cX9_unit 29 = .ok (.dup, 1) := by decide +kernel
theorem dX9_unit_30 : decode cX9_unit 30 = .ok (.invokespecial 121, 3) := by decide +kernel
theorem dX9_unit_33 : decode cX9_unit 33 = .ok (.athrow, 1) := by decide +kernel
theorem dX9_unit_34 : decode cX9_unit 34 = .ok (.aload 4, 2) := by decide +kernel
theorem dX9_unit_36 : decode cX9_unit 36 = .ok (.getfield 116, 3) := by decide +kernel
theorem dX9_unit_39 : decode cX9_unit 39 = .ok (.istore 5, 2) := by decide +kernel
theorem dX9_unit_41 : decode cX9_unit 41 = .ok (.aload 4, 2) := by decide +kernel
theorem dX9_unit_43 : decode cX9_unit 43 = .ok (.dup, 1) := by decide +kernel
theorem dX9_unit_44 : decode cX9_unit 44 = .ok (.getfield 116, 3) := by decide +kernel
theorem dX9_unit_47 : decode cX9_unit 47 = .ok (.iconst 1, 1) := by decide +kernel
theorem dX9_unit_48 : decode cX9_unit 48 = .ok (.iadd, 1) := by decide +kernel
theorem dX9_unit_49 : decode cX9_unit 49 = .ok (.putfield 116, 3) := by decide +kernel
theorem dX9_unit_52 : decode cX9_unit 52 = .ok (.aload_n 0, 1) := by decide +kernel
theorem dX9_unit_53 : decode cX9_unit 53 = .ok (.getfield 10, 3) := by decide +kernel
theorem dX9_unit_56 : decode cX9_unit 56 = .ok (.bipush 11, 2) := by decide +kernel
theorem dX9_unit_58 : decode cX9_unit 58 = .ok (.iload_n 1, 1) := by decide +kernel
theorem dX9_unit_59 : decode cX9_unit 59 = .ok (.iload_n 2, 1) := by decide +kernel
theorem dX9_unit_60 : decode cX9_unit 60 = .ok (.aload 4, 2) := by decide +kernel
theorem dX9_unit_62 : decode cX9_unit 62 = .ok (.getfield 122, 3) := by decide +kernel
theorem dX9_unit_65 : decode cX9_unit 65 = .ok (.iload 5, 2) := by decide +kernel
theorem dX9_unit_67 : decode cX9_unit 67 = .ok (.iload_n 3, 1) := by decide +kernel
theorem dX9_unit_68 : decode cX9_unit 68 = .ok (.invokevirtual 109, 3) := by decide +kernel
theorem dX9_unit_71 : decode cX9_unit 71 = .ok (.iload 5, 2) := by decide +kernel
theorem dX9_unit_73 : decode cX9_unit 73 = .ok (.ireturn, 1) := by decide +kernel
theorem dX9_messages_0 : decode cX9_messages 0 = .ok (.aload_n 0, 1) := by decide +kernel
theorem dX9_messages_1 : decode cX9_messages 1 = .ok (.getfield 10, 3) := by decide +kernel
theorem dX9_messages_4 : decode cX9_messages 4 = .ok (.getfield 125, 3) := by decide +kernel
theorem dX9_messages_7 : decode cX9_messages 7 = .ok (.ireturn, 1) := by decide +kernel
theorem dX9_message_0 : decode cX9_message 0 = .ok (.aload_n 0, 1) := by decide +kernel
theorem dX9_message_1 : decode cX9_message 1 = .ok (.iload_n 1, 1) := by decide +kernel
theorem dX9_message_2 : decode cX9_message 2 = .ok (.invokevirtual 128, 3) := by decide +kernel
theorem dX9_message_5 : decode cX9_message 5 = .ok (.iload_n 2, 1) := by decide +kernel
theorem dX9_message_6 : decode cX9_message 6 = .ok (.bipush 6, 2) := by decide +kernel
theorem dX9_message_8 : decode cX9_message 8 = .ok (.invokestatic 131, 3) := by decide +kernel
theorem dX9_message_11 : decode cX9_message 11 = .ok (.aload_n 0, 1) := by decide +kernel
theorem dX9_message_12 : decode cX9_message 12 = .ok (.getfield 10, 3) := by decide +kernel
theorem dX9_message_15 : decode cX9_message 15 = .ok (.iload_n 1, 1) := by decide +kernel
theorem dX9_message_16 : decode cX9_message 16 = .ok (.invokevirtual 134, 3) := by decide +kernel
theorem dX9_message_19 : decode cX9_message 19 = .ok (.iload_n 2, 1) := by decide +kernel
theorem dX9_message_20 : decode cX9_message 20 = .ok (.invokevirtual 138, 3) := by decide +kernel
theorem dX9_message_23 : decode cX9_message 23 = .ok (.ireturn, 1) := by decide +kernel
theorem dX9_carry_0 : decode cX9_carry 0 = .ok (.aload_n 0, 1) := by decide +kernel
theorem dX9_carry_1 : decode cX9_carry 1 = .ok (.iload_n 1, 1) := by decide +kernel
theorem dX9_carry_2 : decode cX9_carry 2 = .ok (.invokevirtual 128, 3) := by decide +kernel
theorem dX9_carry_5 : decode cX9_carry 5 = .ok (.aload_n 0, 1) := by decide +kernel
theorem dX9_carry_6 : decode cX9_carry 6 = .ok (.aload_n 0, 1) := by decide +kernel
theorem dX9_carry_7 : decode cX9_carry 7 = .ok (.getfield 10, 3) := by decide +kernel
theorem dX9_carry_10 : decode cX9_carry 10 = .ok (.iload_n 1, 1) := by decide +kernel
theorem dX9_carry_11 : decode cX9_carry 11 = .ok (.invokevirtual 144, 3) := by decide +kernel
theorem dX9_carry_14 : decode cX9_carry 14 = .ok (.invokevirtual 147, 3) := by decide +kernel
theorem dX9_carry_17 : decode cX9_carry 17 = .ok (.return_, 1) := by decide +kernel
theorem dX9_twice_0 : decode cX9_twice 0 = .ok (.aload_n 0, 1) := by decide +kernel
theorem dX9_twice_1 : decode cX9_twice 1 = .ok (.iload_n 1, 1) := by decide +kernel
theorem dX9_twice_2 : decode cX9_twice 2 = .ok (.invokevirtual 128, 3) := by decide +kernel
theorem dX9_twice_5 : decode cX9_twice 5 = .ok (.aload_n 0, 1) := by decide +kernel
theorem dX9_twice_6 : decode cX9_twice 6 = .ok (.aload_n 0, 1) := by decide +kernel
theorem dX9_twice_7 : decode cX9_twice 7 = .ok (.getfield 10, 3) := by decide +kernel
theorem dX9_twice_10 : decode cX9_twice 10 = .ok (.iload_n 1, 1) := by decide +kernel
theorem dX9_twice_11 : decode cX9_twice 11 = .ok (.invokevirtual 134, 3) := by decide +kernel
theorem dX9_twice_14 : decode cX9_twice 14 = .ok (.invokevirtual 147, 3) := by decide +kernel
theorem dX9_twice_17 : decode cX9_twice 17 = .ok (.return_, 1) := by decide +kernel
theorem dX9_drop_0 : decode cX9_drop 0 = .ok (.aload_n 0, 1) := by decide +kernel
theorem dX9_drop_1 : decode cX9_drop 1 = .ok (.iload_n 1, 1) := by decide +kernel
theorem dX9_drop_2 : decode cX9_drop 2 = .ok (.invokevirtual 128, 3) := by decide +kernel
theorem dX9_drop_5 : decode cX9_drop 5 = .ok (.aload_n 0, 1) := by decide +kernel
theorem dX9_drop_6 : decode cX9_drop 6 = .ok (.getfield 10, 3) := by decide +kernel
theorem dX9_drop_9 : decode cX9_drop 9 = .ok (.iload_n 1, 1) := by decide +kernel
theorem dX9_drop_10 : decode cX9_drop 10 = .ok (.invokevirtual 144, 3) := by decide +kernel
theorem dX9_drop_13 : decode cX9_drop 13 = .ok (.pop, 1) := by decide +kernel
theorem dX9_drop_14 : decode cX9_drop 14 = .ok (.return_, 1) := by decide +kernel
theorem dX9_run_0 : decode cX9_run 0 = .ok (.iload_n 1, 1) := by decide +kernel
theorem dX9_run_1 : decode cX9_run 1 = .ok (.iconst 0, 1) := by decide +kernel
theorem dX9_run_2 : decode cX9_run 2 = .ok (.sipush 200, 3) := by decide +kernel
theorem dX9_run_5 : decode cX9_run 5 = .ok (.invokestatic 47, 3) := by decide +kernel
theorem dX9_run_8 : decode cX9_run 8 = .ok (.iconst 0, 1) := by decide +kernel
theorem dX9_run_9 : decode cX9_run 9 = .ok (.istore_n 2, 1) := by decide +kernel
theorem dX9_run_10 : decode cX9_run 10 = .ok (.iload_n 2, 1) := by decide +kernel
theorem dX9_run_11 : decode cX9_run 11 = .ok (.iload_n 1, 1) := by decide +kernel
theorem dX9_run_12 : decode cX9_run 12 = .ok (.if_icmp .ge 31, 3) := by decide +kernel
theorem dX9_run_15 : decode cX9_run 15 = .ok (.aload_n 0, 1) := by decide +kernel
theorem dX9_run_16 : decode cX9_run 16 = .ok (.getfield 10, 3) := by decide +kernel
theorem dX9_run_19 : decode cX9_run 19 = .ok (.getfield 125, 3) := by decide +kernel
theorem dX9_run_22 : decode cX9_run 22 = .ok (.ifCond .le 21, 3) := by decide +kernel
theorem dX9_run_25 : decode cX9_run 25 = .ok (.aload_n 0, 1) := by decide +kernel
theorem dX9_run_26 : decode cX9_run 26 = .ok (.aload_n 0, 1) := by decide +kernel
theorem dX9_run_27 : decode cX9_run 27 = .ok (.getfield 10, 3) := by decide +kernel
theorem dX9_run_30 : decode cX9_run 30 = .ok (.iconst 0, 1) := by decide +kernel
theorem dX9_run_31 : decode cX9_run 31 = .ok (.invokevirtual 144, 3) := by decide +kernel
theorem dX9_run_34 : decode cX9_run 34 = .ok (.invokevirtual 147, 3) := by decide +kernel
theorem dX9_run_37 : decode cX9_run 37 = .ok (.iinc 2 1, 3) := by decide +kernel
theorem dX9_run_40 : decode cX9_run 40 = .ok (.goto (-30), 3) := by decide +kernel
theorem dX9_run_43 : decode cX9_run 43 = .ok (.iload_n 2, 1) := by decide +kernel
theorem dX9_run_44 : decode cX9_run 44 = .ok (.ireturn, 1) := by decide +kernel
theorem dX9_tick_0 : decode cX9_tick 0 = .ok (.aload_n 0, 1) := by decide +kernel
theorem dX9_tick_1 : decode cX9_tick 1 = .ok (.dup, 1) := by decide +kernel
theorem dX9_tick_2 : decode cX9_tick 2 = .ok (.getfield 78, 3) := by decide +kernel
theorem dX9_tick_5 : decode cX9_tick 5 = .ok (.iconst 1, 1) := by decide +kernel
theorem dX9_tick_6 : decode cX9_tick 6 = .ok (.iadd, 1) := by decide +kernel
theorem dX9_tick_7 : decode cX9_tick 7 = .ok (.putfield 78, 3) := by decide +kernel
theorem dX9_tick_10 : decode cX9_tick 10 = .ok (.iconst 0, 1) := by decide +kernel
theorem dX9_tick_11 : decode cX9_tick 11 = .ok (.istore_n 1, 1) := by decide +kernel
theorem dX9_tick_12 : decode cX9_tick 12 = .ok (.iload_n 1, 1) := by decide +kernel
theorem dX9_tick_13 : decode cX9_tick 13 = .ok (.iconst 3, 1) := by decide +kernel
theorem dX9_tick_14 : decode cX9_tick 14 = .ok (.if_icmp .ge 35, 3) := by decide +kernel
theorem dX9_tick_17 : decode cX9_tick 17 = .ok (.aload_n 0, 1) := by decide +kernel
theorem dX9_tick_18 : decode cX9_tick 18 = .ok (.getfield 24, 3) := by decide +kernel
theorem dX9_tick_21 : decode cX9_tick 21 = .ok (.iload_n 1, 1) := by decide +kernel
theorem dX9_tick_22 : decode cX9_tick 22 = .ok (.aaload, 1) := by decide +kernel
theorem dX9_tick_23 : decode cX9_tick 23 = .ok (.aload_n 0, 1) := by decide +kernel
theorem dX9_tick_24 : decode cX9_tick 24 = .ok (.getfield 78, 3) := by decide +kernel
theorem dX9_tick_27 : decode cX9_tick 27 = .ok (.invokevirtual 151, 3) := by decide +kernel
theorem dX9_tick_30 : decode cX9_tick 30 = .ok (.aload_n 0, 1) := by decide +kernel
theorem dX9_tick_31 : decode cX9_tick 31 = .ok (.getfield 18, 3) := by decide +kernel
theorem dX9_tick_34 : decode cX9_tick 34 = .ok (.iload_n 1, 1) := by decide +kernel
theorem dX9_tick_35 : decode cX9_tick 35 = .ok (.aaload, 1) := by decide +kernel
theorem dX9_tick_36 : decode cX9_tick 36 = .ok (.aload_n 0, 1) := by decide +kernel
theorem dX9_tick_37 : decode cX9_tick 37 = .ok (.getfield 78, 3) := by decide +kernel
theorem dX9_tick_40 : decode cX9_tick 40 = .ok (.invokevirtual 154, 3) := by decide +kernel
theorem dX9_tick_43 : decode cX9_tick 43 = .ok (.iinc 1 1, 3) := by decide +kernel
theorem dX9_tick_46 : decode cX9_tick 46 = .ok (.goto (-34), 3) := by decide +kernel
theorem dX9_tick_49 : decode cX9_tick 49 = .ok (.aload_n 0, 1) := by decide +kernel
theorem dX9_tick_50 : decode cX9_tick 50 = .ok (.getfield 78, 3) := by decide +kernel
theorem dX9_tick_53 : decode cX9_tick 53 = .ok (.ireturn, 1) := by decide +kernel
theorem dX9_server_0 : decode cX9_server 0 = .ok (.iload_n 1, 1) := by decide +kernel
theorem dX9_server_1 : decode cX9_server 1 = .ok (.invokestatic 43, 3) := by decide +kernel
theorem dX9_server_4 : decode cX9_server 4 = .ok (.iload_n 2, 1) := by decide +kernel
theorem dX9_server_5 : decode cX9_server 5 = .ok (.bipush 6, 2) := by decide +kernel
theorem dX9_server_7 : decode cX9_server 7 = .ok (.invokestatic 131, 3) := by decide +kernel
theorem dX9_server_10 : decode cX9_server 10 = .ok (.aload_n 0, 1) := by decide +kernel
theorem dX9_server_11 : decode cX9_server 11 = .ok (.getfield 24, 3) := by decide +kernel
theorem dX9_server_14 : decode cX9_server 14 = .ok (.iload_n 1, 1) := by decide +kernel
theorem dX9_server_15 : decode cX9_server 15 = .ok (.aaload, 1) := by decide +kernel
theorem dX9_server_16 : decode cX9_server 16 = .ok (.iload_n 2, 1) := by decide +kernel
theorem dX9_server_17 : decode cX9_server 17 = .ok (.invokevirtual 157, 3) := by decide +kernel
theorem dX9_server_20 : decode cX9_server 20 = .ok (.ireturn, 1) := by decide +kernel
theorem dX9_waiting_0 : decode cX9_waiting 0 = .ok (.iload_n 1, 1) := by decide +kernel
theorem dX9_waiting_1 : decode cX9_waiting 1 = .ok (.invokestatic 43, 3) := by decide +kernel
theorem dX9_waiting_4 : decode cX9_waiting 4 = .ok (.iload_n 2, 1) := by decide +kernel
theorem dX9_waiting_5 : decode cX9_waiting 5 = .ok (.aload_n 0, 1) := by decide +kernel
theorem dX9_waiting_6 : decode cX9_waiting 6 = .ok (.getfield 24, 3) := by decide +kernel
theorem dX9_waiting_9 : decode cX9_waiting 9 = .ok (.iload_n 1, 1) := by decide +kernel
theorem dX9_waiting_10 : decode cX9_waiting 10 = .ok (.aaload, 1) := by decide +kernel
theorem dX9_waiting_11 : decode cX9_waiting 11 = .ok (.getfield 158, 3) := by decide +kernel
theorem dX9_waiting_14 : decode cX9_waiting 14 = .ok (.invokestatic 131, 3) := by decide +kernel
theorem dX9_waiting_17 : decode cX9_waiting 17 = .ok (.aload_n 0, 1) := by decide +kernel
theorem dX9_waiting_18 : decode cX9_waiting 18 = .ok (.getfield 24, 3) := by decide +kernel
theorem dX9_waiting_21 : decode cX9_waiting 21 = .ok (.iload_n 1, 1) := by decide +kernel
theorem dX9_waiting_22 : decode cX9_waiting 22 = .ok (.aaload, 1) := by decide +kernel
theorem dX9_waiting_23 : decode cX9_waiting 23 = .ok (.getfield 161, 3) := by decide +kernel
theorem dX9_waiting_26 : decode cX9_waiting 26 = .ok (.iload_n 2, 1) := by decide +kernel
theorem dX9_waiting_27 : decode cX9_waiting 27 = .ok (.iaload, 1) := by decide +kernel
theorem dX9_waiting_28 : decode cX9_waiting 28 = .ok (.ireturn, 1) := by decide +kernel
theorem dX9_relay_0 : decode cX9_relay 0 = .ok (.iload_n 1, 1) := by decide +kernel
theorem dX9_relay_1 : decode cX9_relay 1 = .ok (.invokestatic 43, 3) := by decide +kernel
theorem dX9_relay_4 : decode cX9_relay 4 = .ok (.iload_n 2, 1) := by decide +kernel
theorem dX9_relay_5 : decode cX9_relay 5 = .ok (.iconst 4, 1) := by decide +kernel
theorem dX9_relay_6 : decode cX9_relay 6 = .ok (.invokestatic 131, 3) := by decide +kernel
theorem dX9_relay_9 : decode cX9_relay 9 = .ok (.aload_n 0, 1) := by decide +kernel
theorem dX9_relay_10 : decode cX9_relay 10 = .ok (.getfield 30, 3) := by decide +kernel
theorem dX9_relay_13 : decode cX9_relay 13 = .ok (.iload_n 1, 1) := by decide +kernel
theorem dX9_relay_14 : decode cX9_relay 14 = .ok (.aaload, 1) := by decide +kernel
theorem dX9_relay_15 : decode cX9_relay 15 = .ok (.iload_n 2, 1) := by decide +kernel
theorem dX9_relay_16 : decode cX9_relay 16 = .ok (.invokevirtual 165, 3) := by decide +kernel
theorem dX9_relay_19 : decode cX9_relay 19 = .ok (.ireturn, 1) := by decide +kernel
theorem dX9_about_0 : decode cX9_about 0 = .ok (.aload_n 0, 1) := by decide +kernel
theorem dX9_about_1 : decode cX9_about 1 = .ok (.iload_n 1, 1) := by decide +kernel
theorem dX9_about_2 : decode cX9_about 2 = .ok (.iload_n 2, 1) := by decide +kernel
theorem dX9_about_3 : decode cX9_about 3 = .ok (.invokevirtual 61, 3) := by decide +kernel
theorem dX9_about_6 : decode cX9_about 6 = .ok (.astore 4, 2) := by decide +kernel
theorem dX9_about_8 : decode cX9_about 8 = .ok (.iload_n 3, 1) := by decide +kernel
theorem dX9_about_9 : decode cX9_about 9 = .ok (.bipush 15, 2) := by decide +kernel
theorem dX9_about_11 : decode cX9_about 11 = .ok (.invokestatic 131, 3) := by decide +kernel
theorem dX9_about_14 : decode cX9_about 14 = .ok (.iload_n 3, 1) := by decide +kernel
theorem dX9_about_15 : decode cX9_about 15 = .ok (.bipush 8, 2) := by decide +kernel
theorem dX9_about_17 : decode cX9_about 17 = .ok (.if_icmp .ge 12, 3) := by decide +kernel
theorem dX9_about_20 : decode cX9_about 20 = .ok (.aload 4, 2) := by decide +kernel
theorem dX9_about_22 : decode cX9_about 22 = .ok (.iload_n 3, 1) := by decide +kernel
theorem dX9_about_23 : decode cX9_about 23 = .ok (.invokevirtual 166, 3) := by decide +kernel
theorem dX9_about_26 : decode cX9_about 26 = .ok (.goto 12, 3) := by decide +kernel
theorem dX9_about_29 : decode cX9_about 29 = .ok (.aload 4, 2) := by decide +kernel
theorem dX9_about_31 : decode cX9_about 31 = .ok (.getfield 167, 3) := by decide +kernel
theorem dX9_about_34 : decode cX9_about 34 = .ok (.iload_n 3, 1) := by decide +kernel
theorem dX9_about_35 : decode cX9_about 35 = .ok (.invokevirtual 171, 3) := by decide +kernel
theorem dX9_about_38 : decode cX9_about 38 = .ok (.ireturn, 1) := by decide +kernel
theorem dX9_lost_0 : decode cX9_lost 0 = .ok (.aload_n 0, 1) := by decide +kernel
theorem dX9_lost_1 : decode cX9_lost 1 = .ok (.getfield 10, 3) := by decide +kernel
theorem dX9_lost_4 : decode cX9_lost 4 = .ok (.getfield 174, 3) := by decide +kernel
theorem dX9_lost_7 : decode cX9_lost 7 = .ok (.ireturn, 1) := by decide +kernel
theorem dX9_sendRequest_0 : decode cX9_sendRequest 0 = .ok (.aload_n 0, 1) := by decide +kernel
theorem dX9_sendRequest_1 : decode cX9_sendRequest 1 = .ok (.getfield 10, 3) := by decide +kernel
theorem dX9_sendRequest_4 : decode cX9_sendRequest 4 = .ok (.iconst 1, 1) := by decide +kernel
theorem dX9_sendRequest_5 : decode cX9_sendRequest 5 = .ok (.iload_n 1, 1) := by decide +kernel
theorem dX9_sendRequest_6 : decode cX9_sendRequest 6 = .ok (.iload_n 2, 1) := by decide +kernel
theorem dX9_sendRequest_7 : decode cX9_sendRequest 7 = .ok (.aload_n 3, 1) := by decide +kernel
theorem dX9_sendRequest_8 : decode cX9_sendRequest 8 = .ok (.getfield 95, 3) := by decide +kernel
theorem dX9_sendRequest_11 : decode cX9_sendRequest 11 = .ok (.aload_n 3, 1) := by decide +kernel
theorem dX9_sendRequest_12 : decode cX9_sendRequest 12 = .ok (.getfield 98, 3) := by decide +kernel
theorem dX9_sendRequest_15 : decode cX9_sendRequest 15 = .ok (.ifCond .eq 7, 3) := by decide +kernel
theorem dX9_sendRequest_18 : decode cX9_sendRequest 18 = .ok (.iconst 1, 1) := by decide +kernel
theorem dX9_sendRequest_19 : decode cX9_sendRequest 19 = .ok (.goto 4, 3) := by decide +kernel
theorem dX9_sendRequest_22 : decode cX9_sendRequest 22 = .ok (.iconst 0, 1) := by decide +kernel
theorem dX9_sendRequest_23 : decode cX9_sendRequest 23 = .ok (.iconst 0, 1) := by decide +kernel
theorem dX9_sendRequest_24 : decode cX9_sendRequest 24 = .ok (.invokevirtual 109, 3) := by decide +kernel
theorem dX9_sendRequest_27 : decode cX9_sendRequest 27 = .ok (.return_, 1) := by decide +kernel
theorem dX9_deliver_0 : decode cX9_deliver 0 = .ok (.aload_n 1, 1) := by decide +kernel
theorem dX9_deliver_1 : decode cX9_deliver 1 = .ok (.getfield 177, 3) := by decide +kernel
theorem dX9_deliver_4 : decode cX9_deliver 4 = .ok (.lookupswitch 169 #[(1, 44), (2, 84), (10, 111), (11, 134)], 44) := by decide +kernel
theorem dX9_deliver_48 : decode cX9_deliver 48 = .ok (.aload_n 0, 1) := by decide +kernel
theorem dX9_deliver_49 : decode cX9_deliver 49 = .ok (.getfield 24, 3) := by decide +kernel
theorem dX9_deliver_52 : decode cX9_deliver 52 = .ok (.aload_n 1, 1) := by decide +kernel
theorem dX9_deliver_53 : decode cX9_deliver 53 = .ok (.getfield 180, 3) := by decide +kernel
theorem dX9_deliver_56 : decode cX9_deliver 56 = .ok (.aaload, 1) := by decide +kernel
theorem dX9_deliver_57 : decode cX9_deliver 57 = .ok (.aload_n 1, 1) := by decide +kernel
theorem dX9_deliver_58 : decode cX9_deliver 58 = .ok (.getfield 183, 3) := by decide +kernel
theorem dX9_deliver_61 : decode cX9_deliver 61 = .ok (.aload_n 1, 1) := by decide +kernel
theorem dX9_deliver_62 : decode cX9_deliver 62 = .ok (.getfield 186, 3) := by decide +kernel
theorem dX9_deliver_65 : decode cX9_deliver 65 = .ok (.aload_n 1, 1) := by decide +kernel
theorem dX9_deliver_66 : decode cX9_deliver 66 = .ok (.getfield 189, 3) := by decide +kernel
theorem dX9_deliver_69 : decode cX9_deliver 69 = .ok (.iconst 1, 1) := by decide +kernel
theorem dX9_deliver_70 : decode cX9_deliver 70 = .ok (.if_icmp .ne 7, 3) := by decide +kernel
theorem dX9_deliver_73 : decode cX9_deliver 73 = .ok (.iconst 1, 1) := by decide +kernel
theorem dX9_deliver_74 : decode cX9_deliver 74 = .ok (.goto 4, 3) := by decide +kernel
theorem dX9_deliver_77 : decode cX9_deliver 77 = .ok (.iconst 0, 1) := by decide +kernel
theorem dX9_deliver_78 : decode cX9_deliver 78 = .ok (.aload_n 0, 1) := by decide +kernel
theorem dX9_deliver_79 : decode cX9_deliver 79 = .ok (.getfield 78, 3) := by decide +kernel
theorem dX9_deliver_82 : decode cX9_deliver 82 = .ok (.invokevirtual 192, 3) := by decide +kernel
theorem dX9_deliver_85 : decode cX9_deliver 85 = .ok (.goto 113, 3) := by decide +kernel
theorem dX9_deliver_88 : decode cX9_deliver 88 = .ok (.aload_n 0, 1) := by decide +kernel
theorem dX9_deliver_89 : decode cX9_deliver 89 = .ok (.getfield 24, 3) := by decide +kernel
theorem dX9_deliver_92 : decode cX9_deliver 92 = .ok (.aload_n 1, 1) := by decide +kernel
theorem dX9_deliver_93 : decode cX9_deliver 93 = .ok (.getfield 180, 3) := by decide +kernel
theorem dX9_deliver_96 : decode cX9_deliver 96 = .ok (.aaload, 1) := by decide +kernel
theorem dX9_deliver_97 : decode cX9_deliver 97 = .ok (.aload_n 1, 1) := by decide +kernel
theorem dX9_deliver_98 : decode cX9_deliver 98 = .ok (.getfield 183, 3) := by decide +kernel
theorem dX9_deliver_101 : decode cX9_deliver 101 = .ok (.aload_n 1, 1) := by decide +kernel
theorem dX9_deliver_102 : decode cX9_deliver 102 = .ok (.getfield 186, 3) := by decide +kernel
theorem dX9_deliver_105 : decode cX9_deliver 105 = .ok (.aload_n 0, 1) := by decide +kernel
theorem dX9_deliver_106 : decode cX9_deliver 106 = .ok (.getfield 78, 3) := by decide +kernel
theorem dX9_deliver_109 : decode cX9_deliver 109 = .ok (.invokevirtual 196, 3) := by decide +kernel
theorem dX9_deliver_112 : decode cX9_deliver 112 = .ok (.goto 86, 3) := by decide +kernel
theorem dX9_deliver_115 : decode cX9_deliver 115 = .ok (.aload_n 0, 1) := by decide +kernel
theorem dX9_deliver_116 : decode cX9_deliver 116 = .ok (.getfield 30, 3) := by decide +kernel
theorem dX9_deliver_119 : decode cX9_deliver 119 = .ok (.aload_n 1, 1) := by decide +kernel
theorem dX9_deliver_120 : decode cX9_deliver 120 = .ok (.getfield 180, 3) := by decide +kernel
theorem dX9_deliver_123 : decode cX9_deliver 123 = .ok (.aaload, 1) := by decide +kernel
theorem dX9_deliver_124 : decode cX9_deliver 124 = .ok (.aload_n 1, 1) := by decide +kernel
theorem dX9_deliver_125 : decode cX9_deliver 125 = .ok (.getfield 186, 3) := by decide +kernel
theorem dX9_deliver_128 : decode cX9_deliver 128 = .ok (.aload_n 1, 1) := by decide +kernel
theorem dX9_deliver_129 : decode cX9_deliver 129 = .ok (.getfield 189, 3) := by decide +kernel
theorem dX9_deliver_132 : decode cX9_deliver 132 = .ok (.invokevirtual 199, 3) := by decide +kernel
theorem dX9_deliver_135 : decode cX9_deliver 135 = .ok (.goto 63, 3) := by decide +kernel
theorem dX9_deliver_138 : decode cX9_deliver 138 = .ok (.aload_n 0, 1) := by decide +kernel
theorem dX9_deliver_139 : decode cX9_deliver 139 = .ok (.getfield 30, 3) := by decide +kernel
theorem dX9_deliver_142 : decode cX9_deliver 142 = .ok (.aload_n 1, 1) := by decide +kernel
theorem dX9_deliver_143 : decode cX9_deliver 143 = .ok (.getfield 180, 3) := by decide +kernel
theorem dX9_deliver_146 : decode cX9_deliver 146 = .ok (.aaload, 1) := by decide +kernel
theorem dX9_deliver_147 : decode cX9_deliver 147 = .ok (.aload_n 1, 1) := by decide +kernel
theorem dX9_deliver_148 : decode cX9_deliver 148 = .ok (.getfield 183, 3) := by decide +kernel
theorem dX9_deliver_151 : decode cX9_deliver 151 = .ok (.aload_n 1, 1) := by decide +kernel
theorem dX9_deliver_152 : decode cX9_deliver 152 = .ok (.getfield 186, 3) := by decide +kernel
theorem dX9_deliver_155 : decode cX9_deliver 155 = .ok (.aload_n 1, 1) := by decide +kernel
theorem dX9_deliver_156 : decode cX9_deliver 156 = .ok (.getfield 189, 3) := by decide +kernel
theorem dX9_deliver_159 : decode cX9_deliver 159 = .ok (.aload_n 1, 1) := by decide +kernel
theorem dX9_deliver_160 : decode cX9_deliver 160 = .ok (.getfield 202, 3) := by decide +kernel
theorem dX9_deliver_163 : decode cX9_deliver 163 = .ok (.aload_n 0, 1) := by decide +kernel
theorem dX9_deliver_164 : decode cX9_deliver 164 = .ok (.getfield 78, 3) := by decide +kernel
theorem dX9_deliver_167 : decode cX9_deliver 167 = .ok (.invokevirtual 205, 3) := by decide +kernel
theorem dX9_deliver_170 : decode cX9_deliver 170 = .ok (.goto 28, 3) := by decide +kernel
theorem dX9_deliver_173 : decode cX9_deliver 173 = .ok (.aload_n 0, 1) := by decide +kernel
theorem dX9_deliver_174 : decode cX9_deliver 174 = .ok (.getfield 18, 3) := by decide +kernel
theorem dX9_deliver_177 : decode cX9_deliver 177 = .ok (.aload_n 1, 1) := by decide +kernel
theorem dX9_deliver_178 : decode cX9_deliver 178 = .ok (.getfield 180, 3) := by decide +kernel
theorem dX9_deliver_181 : decode cX9_deliver 181 = .ok (.aaload, 1) := by decide +kernel
theorem dX9_deliver_182 : decode cX9_deliver 182 = .ok (.getfield 209, 3) := by decide +kernel
theorem dX9_deliver_185 : decode cX9_deliver 185 = .ok (.aload_n 1, 1) := by decide +kernel
theorem dX9_deliver_186 : decode cX9_deliver 186 = .ok (.getfield 183, 3) := by decide +kernel
theorem dX9_deliver_189 : decode cX9_deliver 189 = .ok (.aaload, 1) := by decide +kernel
theorem dX9_deliver_190 : decode cX9_deliver 190 = .ok (.aload_n 1, 1) := by decide +kernel
theorem dX9_deliver_191 : decode cX9_deliver 191 = .ok (.aload_n 0, 1) := by decide +kernel
theorem dX9_deliver_192 : decode cX9_deliver 192 = .ok (.getfield 78, 3) := by decide +kernel
theorem dX9_deliver_195 : decode cX9_deliver 195 = .ok (.invokevirtual 213, 3) := by decide +kernel
theorem dX9_deliver_198 : decode cX9_deliver 198 = .ok (.return_, 1) := by decide +kernel
theorem dX9_memberOf_0 : decode cX9_memberOf 0 = .ok (.iload_n 1, 1) := by decide +kernel
theorem dX9_memberOf_1 : decode cX9_memberOf 1 = .ok (.invokestatic 43, 3) := by decide +kernel
theorem dX9_memberOf_4 : decode cX9_memberOf 4 = .ok (.iload_n 2, 1) := by decide +kernel
theorem dX9_memberOf_5 : decode cX9_memberOf 5 = .ok (.ifCond .lt 9, 3) := by decide +kernel
theorem dX9_memberOf_8 : decode cX9_memberOf 8 = .ok (.iload_n 2, 1) := by decide +kernel
theorem dX9_memberOf_9 : decode cX9_memberOf 9 = .ok (.bipush 6, 2) := by decide +kernel
theorem dX9_memberOf_11 : decode cX9_memberOf 11 = .ok (.if_icmp .lt 11, 3) := by decide +kernel
theorem dX9_memberOf_14 : decode cX9_memberOf 14 = .ok (.new 217, 3) := by decide +kernel
theorem dX9_memberOf_17 : decode cX9_memberOf 17 = .ok (.dup, 1) := by decide +kernel
theorem dX9_memberOf_18 : decode cX9_memberOf 18 = .ok (.invokespecial 219, 3) := by decide +kernel
theorem dX9_memberOf_21 : decode cX9_memberOf 21 = .ok (.athrow, 1) := by decide +kernel
theorem dX9_memberOf_22 : decode cX9_memberOf 22 = .ok (.aload_n 0, 1) := by decide +kernel
theorem dX9_memberOf_23 : decode cX9_memberOf 23 = .ok (.getfield 18, 3) := by decide +kernel
theorem dX9_memberOf_26 : decode cX9_memberOf 26 = .ok (.iload_n 1, 1) := by decide +kernel
theorem dX9_memberOf_27 : decode cX9_memberOf 27 = .ok (.aaload, 1) := by decide +kernel
theorem dX9_memberOf_28 : decode cX9_memberOf 28 = .ok (.getfield 209, 3) := by decide +kernel
theorem dX9_memberOf_31 : decode cX9_memberOf 31 = .ok (.iload_n 2, 1) := by decide +kernel
theorem dX9_memberOf_32 : decode cX9_memberOf 32 = .ok (.aaload, 1) := by decide +kernel
theorem dX9_memberOf_33 : decode cX9_memberOf 33 = .ok (.areturn, 1) := by decide +kernel
theorem dX9_memberThere_0 : decode cX9_memberThere 0 = .ok (.aload_n 0, 1) := by decide +kernel
theorem dX9_memberThere_1 : decode cX9_memberThere 1 = .ok (.iload_n 1, 1) := by decide +kernel
theorem dX9_memberThere_2 : decode cX9_memberThere 2 = .ok (.iload_n 2, 1) := by decide +kernel
theorem dX9_memberThere_3 : decode cX9_memberThere 3 = .ok (.invokevirtual 61, 3) := by decide +kernel
theorem dX9_memberThere_6 : decode cX9_memberThere 6 = .ok (.astore_n 3, 1) := by decide +kernel
theorem dX9_memberThere_7 : decode cX9_memberThere 7 = .ok (.aload_n 3, 1) := by decide +kernel
theorem dX9_memberThere_8 : decode cX9_memberThere 8 = .ok (.getfield 65, 3) := by decide +kernel
theorem dX9_memberThere_11 : decode cX9_memberThere 11 = .ok (.invokestatic 91, 3) := by decide +kernel
theorem dX9_memberThere_14 : decode cX9_memberThere 14 = .ok (.aload_n 3, 1) := by decide +kernel
theorem dX9_memberThere_15 : decode cX9_memberThere 15 = .ok (.areturn, 1) := by decide +kernel
theorem dX9_needMessage_0 : decode cX9_needMessage 0 = .ok (.iload_n 1, 1) := by decide +kernel
theorem dX9_needMessage_1 : decode cX9_needMessage 1 = .ok (.ifCond .lt 14, 3) := by decide +kernel
theorem dX9_needMessage_4 : decode cX9_needMessage 4 = .ok (.iload_n 1, 1) := by decide +kernel
theorem dX9_needMessage_5 : decode cX9_needMessage 5 = .ok (.aload_n 0, 1) := by decide +kernel
theorem dX9_needMessage_6 : decode cX9_needMessage 6 = .ok (.getfield 10, 3) := by decide +kernel
theorem dX9_needMessage_9 : decode cX9_needMessage 9 = .ok (.getfield 125, 3) := by decide +kernel
theorem dX9_needMessage_12 : decode cX9_needMessage 12 = .ok (.if_icmp .lt 11, 3) := by decide +kernel
theorem dX9_needMessage_15 : decode cX9_needMessage 15 = .ok (.new 217, 3) := by decide +kernel
theorem dX9_needMessage_18 : decode cX9_needMessage 18 = .ok (.dup, 1) := by decide +kernel
theorem dX9_needMessage_19 : decode cX9_needMessage 19 = .ok (.invokespecial 219, 3) := by decide +kernel
theorem dX9_needMessage_22 : decode cX9_needMessage 22 = .ok (.athrow, 1) := by decide +kernel
theorem dX9_needMessage_23 : decode cX9_needMessage 23 = .ok (.return_, 1) := by decide +kernel
theorem dX9_needGroup_0 : decode cX9_needGroup 0 = .ok (.iload_n 0, 1) := by decide +kernel
theorem dX9_needGroup_1 : decode cX9_needGroup 1 = .ok (.ifCond .lt 8, 3) := by decide +kernel
theorem dX9_needGroup_4 : decode cX9_needGroup 4 = .ok (.iload_n 0, 1) := by decide +kernel
theorem dX9_needGroup_5 : decode cX9_needGroup 5 = .ok (.iconst 3, 1) := by decide +kernel
theorem dX9_needGroup_6 : decode cX9_needGroup 6 = .ok (.if_icmp .lt 11, 3) := by decide +kernel
theorem dX9_needGroup_9 : decode cX9_needGroup 9 = .ok (.new 217, 3) := by decide +kernel
theorem dX9_needGroup_12 : decode cX9_needGroup 12 = .ok (.dup, 1) := by decide +kernel
theorem dX9_needGroup_13 : decode cX9_needGroup 13 = .ok (.invokespecial 219, 3) := by decide +kernel
theorem dX9_needGroup_16 : decode cX9_needGroup 16 = .ok (.athrow, 1) := by decide +kernel
theorem dX9_needGroup_17 : decode cX9_needGroup 17 = .ok (.return_, 1) := by decide +kernel
theorem dX9_needArgument_0 : decode cX9_needArgument 0 = .ok (.iload_n 0, 1) := by decide +kernel
theorem dX9_needArgument_1 : decode cX9_needArgument 1 = .ok (.iload_n 1, 1) := by decide +kernel
theorem dX9_needArgument_2 : decode cX9_needArgument 2 = .ok (.if_icmp .lt 8, 3) := by decide +kernel
theorem dX9_needArgument_5 : decode cX9_needArgument 5 = .ok (.iload_n 0, 1) := by decide +kernel
theorem dX9_needArgument_6 : decode cX9_needArgument 6 = .ok (.iload_n 2, 1) := by decide +kernel
theorem dX9_needArgument_7 : decode cX9_needArgument 7 = .ok (.if_icmp .le 11, 3) := by decide +kernel
theorem dX9_needArgument_10 : decode cX9_needArgument 10 = .ok (.new 220, 3) := by decide +kernel
theorem dX9_needArgument_13 : decode cX9_needArgument 13 = .ok (.dup, 1) := by decide +kernel
theorem dX9_needArgument_14 : decode cX9_needArgument 14 = .ok (.invokespecial 222, 3) := by decide +kernel
theorem dX9_needArgument_17 : decode cX9_needArgument 17 = .ok (.athrow, 1) := by decide +kernel
theorem dX9_needArgument_18 : decode cX9_needArgument 18 = .ok (.return_, 1) := by decide +kernel
theorem dX9_needIndex_0 : decode cX9_needIndex 0 = .ok (.iload_n 0, 1) := by decide +kernel
theorem dX9_needIndex_1 : decode cX9_needIndex 1 = .ok (.ifCond .lt 8, 3) := by decide +kernel
theorem dX9_needIndex_4 : decode cX9_needIndex 4 = .ok (.iload_n 0, 1) := by decide +kernel
theorem dX9_needIndex_5 : decode cX9_needIndex 5 = .ok (.iload_n 1, 1) := by decide +kernel
theorem dX9_needIndex_6 : decode cX9_needIndex 6 = .ok (.if_icmp .lt 11, 3) := by decide +kernel
theorem dX9_needIndex_9 : decode cX9_needIndex 9 = .ok (.new 223, 3) := by decide +kernel
theorem dX9_needIndex_12 : decode cX9_needIndex 12 = .ok (.dup, 1) := by decide +kernel
theorem dX9_needIndex_13 : decode cX9_needIndex 13 = .ok (.invokespecial 225, 3) := by decide +kernel
theorem dX9_needIndex_16 : decode cX9_needIndex 16 = .ok (.athrow, 1) := by decide +kernel
theorem dX9_needIndex_17 : decode cX9_needIndex 17 = .ok (.return_, 1) := by decide +kernel
theorem dX9_needState_0 : decode cX9_needState 0 = .ok (.iload_n 0, 1) := by decide +kernel
theorem dX9_needState_1 : decode cX9_needState 1 = .ok (.ifCond .ne 11, 3) := by decide +kernel
theorem dX9_needState_4 : decode cX9_needState 4 = .ok (.new 226, 3) := by decide +kernel
theorem dX9_needState_7 : decode cX9_needState 7 = .ok (.dup, 1) := by decide +kernel
theorem dX9_needState_8 : decode cX9_needState 8 = .ok (.invokespecial 228, 3) := by decide +kernel
theorem dX9_needState_11 : decode cX9_needState 11 = .ok (.athrow, 1) := by decide +kernel
theorem dX9_needState_12 : decode cX9_needState 12 = .ok (.return_, 1) := by decide +kernel
