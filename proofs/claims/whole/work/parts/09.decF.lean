theorem dX10_serverTick_20 : decode cX10_serverTick 20 = .ok (.getfield 110, 3) := by decide +kernel
theorem dX10_serverTick_23 : decode cX10_serverTick 23 = .ok (.iload_n 1, 1) := by decide +kernel
theorem dX10_serverTick_24 : decode cX10_serverTick 24 = .ok (.iaload, 1) := by decide +kernel
theorem dX10_serverTick_25 : decode cX10_serverTick 25 = .ok (.goto 9, 3) := by decide +kernel
theorem dX10_serverTick_28 : decode cX10_serverTick 28 = .ok (.aload_n 0, 1) := by decide +kernel
theorem dX10_serverTick_29 : decode cX10_serverTick 29 = .ok (.getfield 113, 3) := by decide +kernel
theorem dX10_serverTick_32 : decode cX10_serverTick 32 = .ok (.iload_n 1, 1) := by decide +kernel
theorem dX10_serverTick_33 : decode cX10_serverTick 33 = .ok (.iaload, 1) := by decide +kernel
theorem dX10_serverTick_34 : decode cX10_serverTick 34 = .ok (.istore_n 2, 1) := by decide +kernel
theorem dX10_serverTick_35 : decode cX10_serverTick 35 = .ok (.aload_n 0, 1) := by decide +kernel
theorem dX10_serverTick_36 : decode cX10_serverTick 36 = .ok (.getfield 107, 3) := by decide +kernel
theorem dX10_serverTick_39 : decode cX10_serverTick 39 = .ok (.iload_n 1, 1) := by decide +kernel
theorem dX10_serverTick_40 : decode cX10_serverTick 40 = .ok (.iaload, 1) := by decide +kernel
theorem dX10_serverTick_41 : decode cX10_serverTick 41 = .ok (.ifCond .lt 27, 3) := by decide +kernel
theorem dX10_serverTick_44 : decode cX10_serverTick 44 = .ok (.aload_n 0, 1) := by decide +kernel
theorem dX10_serverTick_45 : decode cX10_serverTick 45 = .ok (.getfield 179, 3) := by decide +kernel
theorem dX10_serverTick_48 : decode cX10_serverTick 48 = .ok (.aload_n 0, 1) := by decide +kernel
theorem dX10_serverTick_49 : decode cX10_serverTick 49 = .ok (.getfield 107, 3) := by decide +kernel
theorem dX10_serverTick_52 : decode cX10_serverTick 52 = .ok (.iload_n 1, 1) := by decide +kernel
theorem dX10_serverTick_53 : decode cX10_serverTick 53 = .ok (.iaload, 1) := by decide +kernel
theorem dX10_serverTick_54 : decode cX10_serverTick 54 = .ok (.isub, 1) := by decide +kernel
theorem dX10_serverTick_55 : decode cX10_serverTick 55 = .ok (.aload_n 0, 1) := by decide +kernel
theorem dX10_serverTick_56 : decode cX10_serverTick 56 = .ok (.getfield 98, 3) := by decide +kernel
theorem dX10_serverTick_59 : decode cX10_serverTick 59 = .ok (.iload_n 1, 1) := by decide +kernel
theorem dX10_serverTick_60 : decode cX10_serverTick 60 = .ok (.iaload, 1) := by decide +kernel
theorem dX10_serverTick_61 : decode cX10_serverTick 61 = .ok (.if_icmp .lt 7, 3) := by decide +kernel
theorem dX10_serverTick_64 : decode cX10_serverTick 64 = .ok (.iconst 1, 1) := by decide +kernel
theorem dX10_serverTick_65 : decode cX10_serverTick 65 = .ok (.goto 4, 3) := by decide +kernel
theorem dX10_serverTick_68 : decode cX10_serverTick 68 = .ok (.iconst 0, 1) := by decide +kernel
theorem dX10_serverTick_69 : decode cX10_serverTick 69 = .ok (.istore_n 3, 1) := by decide +kernel
theorem dX10_serverTick_70 : decode cX10_serverTick 70 = .ok (.iload_n 3, 1) := by decide +kernel
theorem dX10_serverTick_71 : decode cX10_serverTick 71 = .ok (.ifCond .ne 38, 3) := by decide +kernel
theorem dX10_serverTick_74 : decode cX10_serverTick 74 = .ok (.aload_n 0, 1) := by decide +kernel
theorem dX10_serverTick_75 : decode cX10_serverTick 75 = .ok (.getfield 179, 3) := by decide +kernel
theorem dX10_serverTick_78 : decode cX10_serverTick 78 = .ok (.aload_n 0, 1) := by decide +kernel
theorem dX10_serverTick_79 : decode cX10_serverTick 79 = .ok (.getfield 110, 3) := by decide +kernel
theorem dX10_serverTick_82 : decode cX10_serverTick 82 = .ok (.iload_n 1, 1) := by decide +kernel
theorem dX10_serverTick_83 : decode cX10_serverTick 83 = .ok (.iaload, 1) := by decide +kernel
theorem dX10_serverTick_84 : decode cX10_serverTick 84 = .ok (.isub, 1) := by decide +kernel
theorem dX10_serverTick_85 : decode cX10_serverTick 85 = .ok (.aload_n 0, 1) := by decide +kernel
theorem dX10_serverTick_86 : decode cX10_serverTick 86 = .ok (.getfield 92, 3) := by decide +kernel
theorem dX10_serverTick_89 : decode cX10_serverTick 89 = .ok (.iload_n 1, 1) := by decide +kernel
theorem dX10_serverTick_90 : decode cX10_serverTick 90 = .ok (.iaload, 1) := by decide +kernel
theorem dX10_serverTick_91 : decode cX10_serverTick 91 = .ok (.if_icmp .ge 18, 3) := by decide +kernel
theorem dX10_serverTick_94 : decode cX10_serverTick 94 = .ok (.aload_n 0, 1) := by decide +kernel
theorem dX10_serverTick_95 : decode cX10_serverTick 95 = .ok (.getfield 179, 3) := by decide +kernel
theorem dX10_serverTick_98 : decode cX10_serverTick 98 = .ok (.iload_n 2, 1) := by decide +kernel
theorem dX10_serverTick_99 : decode cX10_serverTick 99 = .ok (.isub, 1) := by decide +kernel
theorem dX10_serverTick_100 : decode cX10_serverTick 100 = .ok (.aload_n 0, 1) := by decide +kernel
theorem dX10_serverTick_101 : decode cX10_serverTick 101 = .ok (.getfield 95, 3) := by decide +kernel
theorem dX10_serverTick_104 : decode cX10_serverTick 104 = .ok (.iload_n 1, 1) := by decide +kernel
theorem dX10_serverTick_105 : decode cX10_serverTick 105 = .ok (.iaload, 1) := by decide +kernel
theorem dX10_serverTick_106 : decode cX10_serverTick 106 = .ok (.if_icmp .lt 7, 3) := by decide +kernel
theorem dX10_serverTick_109 : decode cX10_serverTick 109 = .ok (.iconst 1, 1) := by decide +kernel
theorem dX10_serverTick_110 : decode cX10_serverTick 110 = .ok (.goto 4, 3) := by decide +kernel
theorem dX10_serverTick_113 : decode cX10_serverTick 113 = .ok (.iconst 0, 1) := by decide +kernel
theorem dX10_serverTick_114 : decode cX10_serverTick 114 = .ok (.istore_n 3, 1) := by decide +kernel
theorem dX10_serverTick_115 : decode cX10_serverTick 115 = .ok (.iload_n 3, 1) := by decide +kernel
theorem dX10_serverTick_116 : decode cX10_serverTick 116 = .ok (.ifCond .eq 29, 3) := by decide +kernel
theorem dX10_serverTick_119 : decode cX10_serverTick 119 = .ok (.aload_n 0, 1) := by decide +kernel
theorem dX10_serverTick_120 : decode cX10_serverTick 120 = .ok (.bipush 7, 2) := by decide +kernel
theorem dX10_serverTick_122 : decode cX10_serverTick 122 = .ok (.iload_n 1, 1) := by decide +kernel
theorem dX10_serverTick_123 : decode cX10_serverTick 123 = .ok (.aload_n 0, 1) := by decide +kernel
theorem dX10_serverTick_124 : decode cX10_serverTick 124 = .ok (.getfield 104, 3) := by decide +kernel
theorem dX10_serverTick_127 : decode cX10_serverTick 127 = .ok (.iload_n 1, 1) := by decide +kernel
theorem dX10_serverTick_128 : decode cX10_serverTick 128 = .ok (.iaload, 1) := by decide +kernel
theorem dX10_serverTick_129 : decode cX10_serverTick 129 = .ok (.aload_n 0, 1) := by decide +kernel
theorem dX10_serverTick_130 : decode cX10_serverTick 130 = .ok (.getfield 101, 3) := by decide +kernel
theorem dX10_serverTick_133 : decode cX10_serverTick 133 = .ok (.iload_n 1, 1) := by decide +kernel
theorem dX10_serverTick_134 : decode cX10_serverTick 134 = .ok (.iaload, 1) := by decide +kernel
theorem dX10_serverTick_135 : decode cX10_serverTick 135 = .ok (.iconst 0, 1) := by decide +kernel
theorem dX10_serverTick_136 : decode cX10_serverTick 136 = .ok (.iconst 0, 1) := by decide +kernel
theorem dX10_serverTick_137 : decode cX10_serverTick 137 = .ok (.invokevirtual 168, 3) := by decide +kernel
theorem dX10_serverTick_140 : decode cX10_serverTick 140 = .ok (.aload_n 0, 1) := by decide +kernel
theorem dX10_serverTick_141 : decode cX10_serverTick 141 = .ok (.iload_n 1, 1) := by decide +kernel
theorem dX10_serverTick_142 : decode cX10_serverTick 142 = .ok (.invokevirtual 200, 3) := by decide +kernel
theorem dX10_serverTick_145 : decode cX10_serverTick 145 = .ok (.aload_n 0, 1) := by decide +kernel
theorem dX10_serverTick_146 : decode cX10_serverTick 146 = .ok (.getfield 179, 3) := by decide +kernel
theorem dX10_serverTick_149 : decode cX10_serverTick 149 = .ok (.iconst 5, 1) := by decide +kernel
theorem dX10_serverTick_150 : decode cX10_serverTick 150 = .ok (.irem, 1) := by decide +kernel
theorem dX10_serverTick_151 : decode cX10_serverTick 151 = .ok (.ifCond .ne 17, 3) := by decide +kernel
theorem dX10_serverTick_154 : decode cX10_serverTick 154 = .ok (.aload_n 0, 1) := by decide +kernel
theorem dX10_serverTick_155 : decode cX10_serverTick 155 = .ok (.getfield 104, 3) := by decide +kernel
theorem dX10_serverTick_158 : decode cX10_serverTick 158 = .ok (.iload_n 1, 1) := by decide +kernel
theorem dX10_serverTick_159 : decode cX10_serverTick 159 = .ok (.iaload, 1) := by decide +kernel
theorem dX10_serverTick_160 : decode cX10_serverTick 160 = .ok (.ifCond .lt 8, 3) := by decide +kernel
theorem dX10_serverTick_163 : decode cX10_serverTick 163 = .ok (.aload_n 0, 1) := by decide +kernel
theorem dX10_serverTick_164 : decode cX10_serverTick 164 = .ok (.iload_n 1, 1) := by decide +kernel
theorem dX10_serverTick_165 : decode cX10_serverTick 165 = .ok (.invokevirtual 190, 3) := by decide +kernel
theorem dX10_serverTick_168 : decode cX10_serverTick 168 = .ok (.return_, 1) := by decide +kernel
theorem dX10_gateComes_0 : decode cX10_gateComes 0 = .ok (.iload_n 2, 1) := by decide +kernel
theorem dX10_gateComes_1 : decode cX10_gateComes 1 = .ok (.aload_n 0, 1) := by decide +kernel
theorem dX10_gateComes_2 : decode cX10_gateComes 2 = .ok (.getfield 131, 3) := by decide +kernel
theorem dX10_gateComes_5 : decode cX10_gateComes 5 = .ok (.iload_n 1, 1) := by decide +kernel
theorem dX10_gateComes_6 : decode cX10_gateComes 6 = .ok (.iaload, 1) := by decide +kernel
theorem dX10_gateComes_7 : decode cX10_gateComes 7 = .ok (.if_icmp .lt 17, 3) := by decide +kernel
theorem dX10_gateComes_10 : decode cX10_gateComes 10 = .ok (.iload_n 2, 1) := by decide +kernel
theorem dX10_gateComes_11 : decode cX10_gateComes 11 = .ok (.aload_n 0, 1) := by decide +kernel
theorem dX10_gateComes_12 : decode cX10_gateComes 12 = .ok (.getfield 131, 3) := by decide +kernel
theorem dX10_gateComes_15 : decode cX10_gateComes 15 = .ok (.iload_n 1, 1) := by decide +kernel
theorem dX10_gateComes_16 : decode cX10_gateComes 16 = .ok (.iaload, 1) := by decide +kernel
theorem dX10_gateComes_17 : decode cX10_gateComes 17 = .ok (.if_icmp .ne 8, 3) := by decide +kernel
theorem dX10_gateComes_20 : decode cX10_gateComes 20 = .ok (.iload_n 3, 1) := by decide +kernel
theorem dX10_gateComes_21 : decode cX10_gateComes 21 = .ok (.ifCond .lt 4, 3) := by decide +kernel
theorem dX10_gateComes_24 : decode cX10_gateComes 24 = .ok (.return_, 1) := by decide +kernel
theorem dX10_gateComes_25 : decode cX10_gateComes 25 = .ok (.iconst 0, 1) := by decide +kernel
theorem dX10_gateComes_26 : decode cX10_gateComes 26 = .ok (.istore 4, 2) := by decide +kernel
theorem dX10_gateComes_28 : decode cX10_gateComes 28 = .ok (.iload 4, 2) := by decide +kernel
theorem dX10_gateComes_30 : decode cX10_gateComes 30 = .ok (.bipush 64, 2) := by decide +kernel
theorem dX10_gateComes_32 : decode cX10_gateComes 32 = .ok (.if_icmp .ge 32, 3) := by decide +kernel
theorem dX10_gateComes_35 : decode cX10_gateComes 35 = .ok (.iload_n 2, 1) := by decide +kernel
theorem dX10_gateComes_36 : decode cX10_gateComes 36 = .ok (.aload_n 0, 1) := by decide +kernel
theorem dX10_gateComes_37 : decode cX10_gateComes 37 = .ok (.getfield 131, 3) := by decide +kernel
theorem dX10_gateComes_40 : decode cX10_gateComes 40 = .ok (.iload_n 1, 1) := by decide +kernel
theorem dX10_gateComes_41 : decode cX10_gateComes 41 = .ok (.iaload, 1) := by decide +kernel
theorem dX10_gateComes_42 : decode cX10_gateComes 42 = .ok (.if_icmp .le 22, 3) := by decide +kernel
theorem dX10_gateComes_45 : decode cX10_gateComes 45 = .ok (.aload_n 0, 1) := by decide +kernel
theorem dX10_gateComes_46 : decode cX10_gateComes 46 = .ok (.getfield 143, 3) := by decide +kernel
theorem dX10_gateComes_49 : decode cX10_gateComes 49 = .ok (.bipush 64, 2) := by decide +kernel
theorem dX10_gateComes_51 : decode cX10_gateComes 51 = .ok (.iload_n 1, 1) := by decide +kernel
theorem dX10_gateComes_52 : decode cX10_gateComes 52 = .ok (.imul, 1) := by decide +kernel
theorem dX10_gateComes_53 : decode cX10_gateComes 53 = .ok (.iload 4, 2) := by decide +kernel
theorem dX10_gateComes_55 : decode cX10_gateComes 55 = .ok (.iadd, 1) := by decide +kernel
theorem dX10_gateComes_56 : decode cX10_gateComes 56 = .ok (.iconst 0, 1) := by decide +kernel
theorem dX10_gateComes_57 : decode cX10_gateComes 57 = .ok (.bastore, 1) := by decide +kernel
theorem dX10_gateComes_58 : decode cX10_gateComes 58 = .ok (.iinc 4 1, 3) := by decide +kernel
theorem dX10_gateComes_61 : decode cX10_gateComes 61 = .ok (.goto (-33), 3) := by decide +kernel
theorem dX10_gateComes_64 : decode cX10_gateComes 64 = .ok (.aload_n 0, 1) := by decide +kernel
theorem dX10_gateComes_65 : decode cX10_gateComes 65 = .ok (.getfield 131, 3) := by decide +kernel
theorem dX10_gateComes_68 : decode cX10_gateComes 68 = .ok (.iload_n 1, 1) := by decide +kernel
theorem dX10_gateComes_69 : decode cX10_gateComes 69 = .ok (.iload_n 2, 1) := by decide +kernel
theorem dX10_gateComes_70 : decode cX10_gateComes 70 = .ok (.iastore, 1) := by decide +kernel
theorem dX10_gateComes_71 : decode cX10_gateComes 71 = .ok (.aload_n 0, 1) := by decide +kernel
theorem dX10_gateComes_72 : decode cX10_gateComes 72 = .ok (.getfield 134, 3) := by decide +kernel
theorem dX10_gateComes_75 : decode cX10_gateComes 75 = .ok (.iload_n 1, 1) := by decide +kernel
theorem dX10_gateComes_76 : decode cX10_gateComes 76 = .ok (.iload_n 3, 1) := by decide +kernel
theorem dX10_gateComes_77 : decode cX10_gateComes 77 = .ok (.iastore, 1) := by decide +kernel
theorem dX10_gateComes_78 : decode cX10_gateComes 78 = .ok (.return_, 1) := by decide +kernel
theorem dX10_unitComes_0 : decode cX10_unitComes 0 = .ok (.aload_n 0, 1) := by decide +kernel
theorem dX10_unitComes_1 : decode cX10_unitComes 1 = .ok (.getfield 134, 3) := by decide +kernel
theorem dX10_unitComes_4 : decode cX10_unitComes 4 = .ok (.iload_n 1, 1) := by decide +kernel
theorem dX10_unitComes_5 : decode cX10_unitComes 5 = .ok (.iaload, 1) := by decide +kernel
theorem dX10_unitComes_6 : decode cX10_unitComes 6 = .ok (.iload_n 2, 1) := by decide +kernel
theorem dX10_unitComes_7 : decode cX10_unitComes 7 = .ok (.if_icmp .ne 32, 3) := by decide +kernel
theorem dX10_unitComes_10 : decode cX10_unitComes 10 = .ok (.iload_n 3, 1) := by decide +kernel
theorem dX10_unitComes_11 : decode cX10_unitComes 11 = .ok (.aload_n 0, 1) := by decide +kernel
theorem dX10_unitComes_12 : decode cX10_unitComes 12 = .ok (.getfield 131, 3) := by decide +kernel
theorem dX10_unitComes_15 : decode cX10_unitComes 15 = .ok (.iload_n 1, 1) := by decide +kernel
theorem dX10_unitComes_16 : decode cX10_unitComes 16 = .ok (.iaload, 1) := by decide +kernel
theorem dX10_unitComes_17 : decode cX10_unitComes 17 = .ok (.if_icmp .ne 22, 3) := by decide +kernel
theorem dX10_unitComes_20 : decode cX10_unitComes 20 = .ok (.aload_n 0, 1) := by decide +kernel
theorem dX10_unitComes_21 : decode cX10_unitComes 21 = .ok (.getfield 143, 3) := by decide +kernel
theorem dX10_unitComes_24 : decode cX10_unitComes 24 = .ok (.bipush 64, 2) := by decide +kernel
theorem dX10_unitComes_26 : decode cX10_unitComes 26 = .ok (.iload_n 1, 1) := by decide +kernel
theorem dX10_unitComes_27 : decode cX10_unitComes 27 = .ok (.imul, 1) := by decide +kernel
theorem dX10_unitComes_28 : decode cX10_unitComes 28 = .ok (.iload 4, 2) := by decide +kernel
theorem dX10_unitComes_30 : decode cX10_unitComes 30 = .ok (.iadd, 1) := by decide +kernel
theorem dX10_unitComes_31 : decode cX10_unitComes 31 = .ok (.baload, 1) := by decide +kernel
theorem dX10_unitComes_32 : decode cX10_unitComes 32 = .ok (.ifCond .ne 7, 3) := by decide +kernel
theorem dX10_unitComes_35 : decode cX10_unitComes 35 = .ok (.iconst 1, 1) := by decide +kernel
theorem dX10_unitComes_36 : decode cX10_unitComes 36 = .ok (.goto 4, 3) := by decide +kernel
theorem dX10_unitComes_39 : decode cX10_unitComes 39 = .ok (.iconst 0, 1) := by decide +kernel
theorem dX10_unitComes_40 : decode cX10_unitComes 40 = .ok (.istore 6, 2) := by decide +kernel
theorem dX10_unitComes_42 : decode cX10_unitComes 42 = .ok (.iload 6, 2) := by decide +kernel
theorem dX10_unitComes_44 : decode cX10_unitComes 44 = .ok (.ifCond .ne 14, 3) := by decide +kernel
theorem dX10_unitComes_47 : decode cX10_unitComes 47 = .ok (.aload_n 0, 1) := by decide +kernel
theorem dX10_unitComes_48 : decode cX10_unitComes 48 = .ok (.getfield 140, 3) := by decide +kernel
theorem dX10_unitComes_51 : decode cX10_unitComes 51 = .ok (.iload_n 1, 1) := by decide +kernel
theorem dX10_unitComes_52 : decode cX10_unitComes 52 = .ok (.dup2, 1) := by decide +kernel
theorem dX10_unitComes_53 : decode cX10_unitComes 53 = .ok (.iaload, 1) := by decide +kernel
theorem dX10_unitComes_54 : decode cX10_unitComes 54 = .ok (.iconst 1, 1) := by decide +kernel
theorem dX10_unitComes_55 : decode cX10_unitComes 55 = .ok (.iadd, 1) := by decide +kernel
theorem dX10_unitComes_56 : decode cX10_unitComes 56 = .ok (.iastore, 1) := by decide +kernel
theorem dX10_unitComes_57 : decode cX10_unitComes 57 = .ok (.return_, 1) := by decide +kernel
theorem dX10_unitComes_58 : decode cX10_unitComes 58 = .ok (.aload_n 0, 1) := by decide +kernel
theorem dX10_unitComes_59 : decode cX10_unitComes 59 = .ok (.getfield 143, 3) := by decide +kernel
theorem dX10_unitComes_62 : decode cX10_unitComes 62 = .ok (.bipush 64, 2) := by decide +kernel
theorem dX10_unitComes_64 : decode cX10_unitComes 64 = .ok (.iload_n 1, 1) := by decide +kernel
theorem dX10_unitComes_65 : decode cX10_unitComes 65 = .ok (.imul, 1) := by decide +kernel
theorem dX10_unitComes_66 : decode cX10_unitComes 66 = .ok (.iload 4, 2) := by decide +kernel
theorem dX10_unitComes_68 : decode cX10_unitComes 68 = .ok (.iadd, 1) := by decide +kernel
theorem dX10_unitComes_69 : decode cX10_unitComes 69 = .ok (.iconst 1, 1) := by decide +kernel
theorem dX10_unitComes_70 : decode cX10_unitComes 70 = .ok (.bastore, 1) := by decide +kernel
theorem dX10_unitComes_71 : decode cX10_unitComes 71 = .ok (.aload_n 0, 1) := by decide +kernel
theorem dX10_unitComes_72 : decode cX10_unitComes 72 = .ok (.getfield 137, 3) := by decide +kernel
theorem dX10_unitComes_75 : decode cX10_unitComes 75 = .ok (.iload_n 1, 1) := by decide +kernel
theorem dX10_unitComes_76 : decode cX10_unitComes 76 = .ok (.dup2, 1) := by decide +kernel
theorem dX10_unitComes_77 : decode cX10_unitComes 77 = .ok (.iaload, 1) := by decide +kernel
theorem dX10_unitComes_78 : decode cX10_unitComes 78 = .ok (.iconst 1, 1) := by decide +kernel
theorem dX10_unitComes_79 : decode cX10_unitComes 79 = .ok (.iadd, 1) := by decide +kernel
theorem dX10_unitComes_80 : decode cX10_unitComes 80 = .ok (.iastore, 1) := by decide +kernel
theorem dX10_unitComes_81 : decode cX10_unitComes 81 = .ok (.aload_n 0, 1) := by decide +kernel
theorem dX10_unitComes_82 : decode cX10_unitComes 82 = .ok (.getfield 113, 3) := by decide +kernel
theorem dX10_unitComes_85 : decode cX10_unitComes 85 = .ok (.iload_n 1, 1) := by decide +kernel
theorem dX10_unitComes_86 : decode cX10_unitComes 86 = .ok (.aload_n 0, 1) := by decide +kernel
theorem dX10_unitComes_87 : decode cX10_unitComes 87 = .ok (.getfield 104, 3) := by decide +kernel
theorem dX10_unitComes_90 : decode cX10_unitComes 90 = .ok (.iload_n 1, 1) := by decide +kernel
theorem dX10_unitComes_91 : decode cX10_unitComes 91 = .ok (.iaload, 1) := by decide +kernel
theorem dX10_unitComes_92 : decode cX10_unitComes 92 = .ok (.ifCond .lt 20, 3) := by decide +kernel
theorem dX10_unitComes_95 : decode cX10_unitComes 95 = .ok (.aload_n 0, 1) := by decide +kernel
theorem dX10_unitComes_96 : decode cX10_unitComes 96 = .ok (.getfield 101, 3) := by decide +kernel
theorem dX10_unitComes_99 : decode cX10_unitComes 99 = .ok (.iload_n 1, 1) := by decide +kernel
theorem dX10_unitComes_100 : decode cX10_unitComes 100 = .ok (.iaload, 1) := by decide +kernel
theorem dX10_unitComes_101 : decode cX10_unitComes 101 = .ok (.iload_n 3, 1) := by decide +kernel
theorem dX10_unitComes_102 : decode cX10_unitComes 102 = .ok (.if_icmp .ne 10, 3) := by decide +kernel
theorem dX10_unitComes_105 : decode cX10_unitComes 105 = .ok (.aload_n 0, 1) := by decide +kernel
theorem dX10_unitComes_106 : decode cX10_unitComes 106 = .ok (.getfield 179, 3) := by decide +kernel
theorem dX10_unitComes_109 : decode cX10_unitComes 109 = .ok (.goto 9, 3) := by decide +kernel
theorem dX10_unitComes_112 : decode cX10_unitComes 112 = .ok (.aload_n 0, 1) := by decide +kernel
theorem dX10_unitComes_113 : decode cX10_unitComes 113 = .ok (.getfield 113, 3) := by decide +kernel
theorem dX10_unitComes_116 : decode cX10_unitComes 116 = .ok (.iload_n 1, 1) := by decide +kernel
theorem dX10_unitComes_117 : decode cX10_unitComes 117 = .ok (.iaload, 1) := by decide +kernel
theorem dX10_unitComes_118 : decode cX10_unitComes 118 = .ok (.iastore, 1) := by decide +kernel
theorem dX10_unitComes_119 : decode cX10_unitComes 119 = .ok (.iconst 0, 1) := by decide +kernel
theorem dX10_unitComes_120 : decode cX10_unitComes 120 = .ok (.istore 7, 2) := by decide +kernel
theorem dX10_unitComes_122 : decode cX10_unitComes 122 = .ok (.iload 7, 2) := by decide +kernel
theorem dX10_unitComes_124 : decode cX10_unitComes 124 = .ok (.bipush 6, 2) := by decide +kernel
theorem dX10_unitComes_126 : decode cX10_unitComes 126 = .ok (.if_icmp .ge 44, 3) := by decide +kernel
theorem dX10_unitComes_129 : decode cX10_unitComes 129 = .ok (.aload_n 0, 1) := by decide +kernel
theorem dX10_unitComes_130 : decode cX10_unitComes 130 = .ok (.getfield 13, 3) := by decide +kernel
theorem dX10_unitComes_133 : decode cX10_unitComes 133 = .ok (.bipush 6, 2) := by decide +kernel
theorem dX10_unitComes_135 : decode cX10_unitComes 135 = .ok (.iload_n 1, 1) := by decide +kernel
theorem dX10_unitComes_136 : decode cX10_unitComes 136 = .ok (.imul, 1) := by decide +kernel
theorem dX10_unitComes_137 : decode cX10_unitComes 137 = .ok (.iload 7, 2) := by decide +kernel
theorem dX10_unitComes_139 : decode cX10_unitComes 139 = .ok (.iadd, 1) := by decide +kernel
theorem dX10_unitComes_140 : decode cX10_unitComes 140 = .ok (.baload, 1) := by decide +kernel
theorem dX10_unitComes_141 : decode cX10_unitComes 141 = .ok (.ifCond .eq 23, 3) := by decide +kernel
theorem dX10_unitComes_144 : decode cX10_unitComes 144 = .ok (.iload 7, 2) := by decide +kernel
theorem dX10_unitComes_146 : decode cX10_unitComes 146 = .ok (.iload_n 2, 1) := by decide +kernel
theorem dX10_unitComes_147 : decode cX10_unitComes 147 = .ok (.if_icmp .eq 17, 3) := by decide +kernel
theorem dX10_unitComes_150 : decode cX10_unitComes 150 = .ok (.aload_n 0, 1) := by decide +kernel
theorem dX10_unitComes_151 : decode cX10_unitComes 151 = .ok (.bipush 9, 2) := by decide +kernel
theorem dX10_unitComes_153 : decode cX10_unitComes 153 = .ok (.iload_n 1, 1) := by decide +kernel
theorem dX10_unitComes_154 : decode cX10_unitComes 154 = .ok (.iload 7, 2) := by decide +kernel
theorem dX10_unitComes_156 : decode cX10_unitComes 156 = .ok (.iload_n 3, 1) := by decide +kernel
theorem dX10_unitComes_157 : decode cX10_unitComes 157 = .ok (.iload 4, 2) := by decide +kernel
theorem dX10_unitComes_159 : decode cX10_unitComes 159 = .ok (.iload 5, 2) := by decide +kernel
theorem dX10_unitComes_161 : decode cX10_unitComes 161 = .ok (.invokevirtual 168, 3) := by decide +kernel
theorem dX10_unitComes_164 : decode cX10_unitComes 164 = .ok (.iinc 7 1, 3) := by decide +kernel
theorem dX10_unitComes_167 : decode cX10_unitComes 167 = .ok (.goto (-45), 3) := by decide +kernel
theorem dX10_unitComes_170 : decode cX10_unitComes 170 = .ok (.return_, 1) := by decide +kernel
theorem dX10_messages_0 : decode cX10_messages 0 = .ok (.aload_n 0, 1) := by decide +kernel
theorem dX10_messages_1 : decode cX10_messages 1 = .ok (.iconst 0, 1) := by decide +kernel
theorem dX10_messages_2 : decode cX10_messages 2 = .ok (.putfield 146, 3) := by decide +kernel
theorem dX10_messages_5 : decode cX10_messages 5 = .ok (.aload_n 0, 1) := by decide +kernel
theorem dX10_messages_6 : decode cX10_messages 6 = .ok (.getfield 154, 3) := by decide +kernel
theorem dX10_messages_9 : decode cX10_messages 9 = .ok (.ireturn, 1) := by decide +kernel
theorem dX10_isMessage_0 : decode cX10_isMessage 0 = .ok (.iload_n 1, 1) := by decide +kernel
theorem dX10_isMessage_1 : decode cX10_isMessage 1 = .ok (.ifCond .lt 15, 3) := by decide +kernel
theorem dX10_isMessage_4 : decode cX10_isMessage 4 = .ok (.iload_n 1, 1) := by decide +kernel
theorem dX10_isMessage_5 : decode cX10_isMessage 5 = .ok (.aload_n 0, 1) := by decide +kernel
theorem dX10_isMessage_6 : decode cX10_isMessage 6 = .ok (.getfield 154, 3) := by decide +kernel
theorem dX10_isMessage_9 : decode cX10_isMessage 9 = .ok (.if_icmp .ge 7, 3) := by decide +kernel
theorem dX10_isMessage_12 : decode cX10_isMessage 12 = .ok (.iconst 1, 1) := by decide +kernel
theorem dX10_isMessage_13 : decode cX10_isMessage 13 = .ok (.goto 4, 3) := by decide +kernel
theorem dX10_isMessage_16 : decode cX10_isMessage 16 = .ok (.iconst 0, 1) := by decide +kernel
theorem dX10_isMessage_17 : decode cX10_isMessage 17 = .ok (.ireturn, 1) := by decide +kernel
theorem dX10_message_0 : decode cX10_message 0 = .ok (.aload_n 0, 1) := by decide +kernel
theorem dX10_message_1 : decode cX10_message 1 = .ok (.aload_n 0, 1) := by decide +kernel
theorem dX10_message_2 : decode cX10_message 2 = .ok (.iload_n 1, 1) := by decide +kernel
theorem dX10_message_3 : decode cX10_message 3 = .ok (.invokevirtual 209, 3) := by decide +kernel
theorem dX10_message_6 : decode cX10_message 6 = .ok (.ifCond .ne 7, 3) := by decide +kernel
theorem dX10_message_9 : decode cX10_message 9 = .ok (.iconst 1, 1) := by decide +kernel
theorem dX10_message_10 : decode cX10_message 10 = .ok (.goto 17, 3) := by decide +kernel
theorem dX10_message_13 : decode cX10_message 13 = .ok (.iload_n 2, 1) := by decide +kernel
theorem dX10_message_14 : decode cX10_message 14 = .ok (.iconst 0, 1) := by decide +kernel
theorem dX10_message_15 : decode cX10_message 15 = .ok (.iconst 5, 1) := by decide +kernel
theorem dX10_message_16 : decode cX10_message 16 = .ok (.invokestatic 150, 3) := by decide +kernel
theorem dX10_message_19 : decode cX10_message 19 = .ok (.ifCond .ne 7, 3) := by decide +kernel
theorem dX10_message_22 : decode cX10_message 22 = .ok (.iconst 2, 1) := by decide +kernel
theorem dX10_message_23 : decode cX10_message 23 = .ok (.goto 4, 3) := by decide +kernel
theorem dX10_message_26 : decode cX10_message 26 = .ok (.iconst 0, 1) := by decide +kernel
theorem dX10_message_27 : decode cX10_message 27 = .ok (.putfield 146, 3) := by decide +kernel
theorem dX10_message_30 : decode cX10_message 30 = .ok (.aload_n 0, 1) := by decide +kernel
theorem dX10_message_31 : decode cX10_message 31 = .ok (.getfield 146, 3) := by decide +kernel
theorem dX10_message_34 : decode cX10_message 34 = .ok (.ifCond .le 7, 3) := by decide +kernel
theorem dX10_message_37 : decode cX10_message 37 = .ok (.iconst 0, 1) := by decide +kernel
theorem dX10_message_38 : decode cX10_message 38 = .ok (.goto 14, 3) := by decide +kernel
theorem dX10_message_41 : decode cX10_message 41 = .ok (.aload_n 0, 1) := by decide +kernel
theorem dX10_message_42 : decode cX10_message 42 = .ok (.getfield 7, 3) := by decide +kernel
theorem dX10_message_45 : decode cX10_message 45 = .ok (.bipush 6, 2) := by decide +kernel
theorem dX10_message_47 : decode cX10_message 47 = .ok (.iload_n 1, 1) := by decide +kernel
theorem dX10_message_48 : decode cX10_message 48 = .ok (.imul, 1) := by decide +kernel
theorem dX10_message_49 : decode cX10_message 49 = .ok (.iload_n 2, 1) := by decide +kernel
theorem dX10_message_50 : decode cX10_message 50 = .ok (.iadd, 1) := by decide +kernel
theorem dX10_message_51 : decode cX10_message 51 = .ok (.iaload, 1) := by decide +kernel
theorem dX10_message_52 : decode cX10_message 52 = .ok (.ireturn, 1) := by decide +kernel
theorem dX10_comes_0 : decode cX10_comes 0 = .ok (.aload_n 0, 1) := by decide +kernel
theorem dX10_comes_1 : decode cX10_comes 1 = .ok (.getfield 7, 3) := by decide +kernel
theorem dX10_comes_4 : decode cX10_comes 4 = .ok (.bipush 6, 2) := by decide +kernel
theorem dX10_comes_6 : decode cX10_comes 6 = .ok (.iload_n 1, 1) := by decide +kernel
theorem dX10_comes_7 : decode cX10_comes 7 = .ok (.imul, 1) := by decide +kernel
theorem dX10_comes_8 : decode cX10_comes 8 = .ok (.iaload, 1) := by decide +kernel
theorem dX10_comes_9 : decode cX10_comes 9 = .ok (.istore_n 3, 1) := by decide +kernel
theorem dX10_comes_10 : decode cX10_comes 10 = .ok (.aload_n 0, 1) := by decide +kernel
theorem dX10_comes_11 : decode cX10_comes 11 = .ok (.getfield 7, 3) := by decide +kernel
theorem dX10_comes_14 : decode cX10_comes 14 = .ok (.bipush 6, 2) := by decide +kernel
theorem dX10_comes_16 : decode cX10_comes 16 = .ok (.iload_n 1, 1) := by decide +kernel
theorem dX10_comes_17 : decode cX10_comes 17 = .ok (.imul, 1) := by decide +kernel
theorem dX10_comes_18 : decode cX10_comes 18 = .ok (.iconst 1, 1) := by decide +kernel
theorem dX10_comes_19 : decode cX10_comes 19 = .ok (.iadd, 1) := by decide +kernel
theorem dX10_comes_20 : decode cX10_comes 20 = .ok (.iaload, 1) := by decide +kernel
theorem dX10_comes_21 : decode cX10_comes 21 = .ok (.istore 4, 2) := by decide +kernel
theorem dX10_comes_23 : decode cX10_comes 23 = .ok (.aload_n 0, 1) := by decide +kernel
theorem dX10_comes_24 : decode cX10_comes 24 = .ok (.getfield 7, 3) := by decide +kernel
theorem dX10_comes_27 : decode cX10_comes 27 = .ok (.bipush 6, 2) := by decide +kernel
theorem dX10_comes_29 : decode cX10_comes 29 = .ok (.iload_n 1, 1) := by decide +kernel
theorem dX10_comes_30 : decode cX10_comes 30 = .ok (.imul, 1) := by decide +kernel
theorem dX10_comes_31 : decode cX10_comes 31 = .ok (.iconst 2, 1) := by decide +kernel
theorem dX10_comes_32 : decode cX10_comes 32 = .ok (.iadd, 1) := by decide +kernel
theorem dX10_comes_33 : decode cX10_comes 33 = .ok (.iaload, 1) := by decide +kernel
theorem dX10_comes_34 : decode cX10_comes 34 = .ok (.istore 5, 2) := by decide +kernel
theorem dX10_comes_36 : decode cX10_comes 36 = .ok (.aload_n 0, 1) := by decide +kernel
theorem dX10_comes_37 : decode cX10_comes 37 = .ok (.getfield 7, 3) := by decide +kernel
theorem dX10_comes_40 : decode cX10_comes 40 = .ok (.bipush 6, 2) := by decide +kernel
theorem dX10_comes_42 : decode cX10_comes 42 = .ok (.iload_n 1, 1) := by decide +kernel
theorem dX10_comes_43 : decode cX10_comes 43 = .ok (.imul, 1) := by decide +kernel
theorem dX10_comes_44 : decode cX10_comes 44 = .ok (.iconst 3, 1) := by decide +kernel
theorem dX10_comes_45 : decode cX10_comes 45 = .ok (.iadd, 1) := by decide +kernel
theorem dX10_comes_46 : decode cX10_comes 46 = .ok (.iaload, 1) := by decide +kernel
theorem dX10_comes_47 : decode cX10_comes 47 = .ok (.istore 6, 2) := by decide +kernel
theorem dX10_comes_49 : decode cX10_comes 49 = .ok (.aload_n 0, 1) := by decide +kernel
theorem dX10_comes_50 : decode cX10_comes 50 = .ok (.getfield 7, 3) := by decide +kernel
theorem dX10_comes_53 : decode cX10_comes 53 = .ok (.bipush 6, 2) := by decide +kernel
theorem dX10_comes_55 : decode cX10_comes 55 = .ok (.iload_n 1, 1) := by decide +kernel
theorem dX10_comes_56 : decode cX10_comes 56 = .ok (.imul, 1) := by decide +kernel
theorem dX10_comes_57 : decode cX10_comes 57 = .ok (.iconst 4, 1) := by decide +kernel
theorem dX10_comes_58 : decode cX10_comes 58 = .ok (.iadd, 1) := by decide +kernel
theorem dX10_comes_59 : decode cX10_comes 59 = .ok (.iaload, 1) := by decide +kernel
theorem dX10_comes_60 : decode cX10_comes 60 = .ok (.istore 7, 2) := by decide +kernel
theorem dX10_comes_62 : decode cX10_comes 62 = .ok (.aload_n 0, 1) := by decide +kernel
theorem dX10_comes_63 : decode cX10_comes 63 = .ok (.getfield 7, 3) := by decide +kernel
theorem dX10_comes_66 : decode cX10_comes 66 = .ok (.bipush 6, 2) := by decide +kernel
theorem dX10_comes_68 : decode cX10_comes 68 = .ok (.iload_n 1, 1) := by decide +kernel
theorem dX10_comes_69 : decode cX10_comes 69 = .ok (.imul, 1) := by decide +kernel
theorem dX10_comes_70 : decode cX10_comes 70 = .ok (.iconst 5, 1) := by decide +kernel
theorem dX10_comes_71 : decode cX10_comes 71 = .ok (.iadd, 1) := by decide +kernel
theorem dX10_comes_72 : decode cX10_comes 72 = .ok (.iaload, 1) := by decide +kernel
theorem dX10_comes_73 : decode cX10_comes 73 = .ok (.istore 8, 2) := by decide +kernel
theorem dX10_comes_75 : decode cX10_comes 75 = .ok (.iload_n 2, 1) := by decide +kernel
theorem dX10_comes_76 : decode cX10_comes 76 = .ok (.ifCond .eq 8, 3) := by decide +kernel
theorem dX10_comes_79 : decode cX10_comes 79 = .ok (.aload_n 0, 1) := by decide +kernel
theorem dX10_comes_80 : decode cX10_comes 80 = .ok (.iload_n 1, 1) := by decide +kernel
theorem dX10_comes_81 : decode cX10_comes 81 = .ok (.invokevirtual 213, 3) := by decide +kernel
theorem dX10_comes_84 : decode cX10_comes 84 = .ok (.iload_n 3, 1) := by decide +kernel
theorem dX10_comes_85 : decode cX10_comes 85 = .ok (.iconst 1, 1) := by decide +kernel
theorem dX10_comes_86 : decode cX10_comes 86 = .ok (.if_icmp .ne 27, 3) := by decide +kernel
theorem dX10_comes_89 : decode cX10_comes 89 = .ok (.aload_n 0, 1) := by decide +kernel
theorem dX10_comes_90 : decode cX10_comes 90 = .ok (.iload 4, 2) := by decide +kernel
theorem dX10_comes_92 : decode cX10_comes 92 = .ok (.iload 5, 2) := by decide +kernel
theorem dX10_comes_94 : decode cX10_comes 94 = .ok (.iload 6, 2) := by decide +kernel
theorem dX10_comes_96 : decode cX10_comes 96 = .ok (.iload 7, 2) := by decide +kernel
theorem dX10_comes_98 : decode cX10_comes 98 = .ok (.iconst 1, 1) := by decide +kernel
theorem dX10_comes_99 : decode cX10_comes 99 = .ok (.if_icmp .ne 7, 3) := by decide +kernel
theorem dX10_comes_102 : decode cX10_comes 102 = .ok (.iconst 1, 1) := by decide +kernel
theorem dX10_comes_103 : decode cX10_comes 103 = .ok (.goto 4, 3) := by decide +kernel
theorem dX10_comes_106 : decode cX10_comes 106 = .ok (.iconst 0, 1) := by decide +kernel
theorem dX10_comes_107 : decode cX10_comes 107 = .ok (.invokevirtual 216, 3) := by decide +kernel
theorem dX10_comes_110 : decode cX10_comes 110 = .ok (.goto 78, 3) := by decide +kernel
theorem dX10_comes_113 : decode cX10_comes 113 = .ok (.iload_n 3, 1) := by decide +kernel
theorem dX10_comes_114 : decode cX10_comes 114 = .ok (.iconst 2, 1) := by decide +kernel
theorem dX10_comes_115 : decode cX10_comes 115 = .ok (.if_icmp .ne 16, 3) := by decide +kernel
theorem dX10_comes_118 : decode cX10_comes 118 = .ok (.aload_n 0, 1) := by decide +kernel
theorem dX10_comes_119 : decode cX10_comes 119 = .ok (.iload 4, 2) := by decide +kernel
theorem dX10_comes_121 : decode cX10_comes 121 = .ok (.iload 5, 2) := by decide +kernel
theorem dX10_comes_123 : decode cX10_comes 123 = .ok (.iload 6, 2) := by decide +kernel
theorem dX10_comes_125 : decode cX10_comes 125 = .ok (.invokevirtual 220, 3) := by decide +kernel
theorem dX10_comes_128 : decode cX10_comes 128 = .ok (.goto 60, 3) := by decide +kernel
theorem dX10_comes_131 : decode cX10_comes 131 = .ok (.iload_n 3, 1) := by decide +kernel
theorem dX10_comes_132 : decode cX10_comes 132 = .ok (.bipush 10, 2) := by decide +kernel
theorem dX10_comes_134 : decode cX10_comes 134 = .ok (.if_icmp .ne 16, 3) := by decide +kernel
theorem dX10_comes_137 : decode cX10_comes 137 = .ok (.aload_n 0, 1) := by decide +kernel
theorem dX10_comes_138 : decode cX10_comes 138 = .ok (.iload 4, 2) := by decide +kernel
theorem dX10_comes_140 : decode cX10_comes 140 = .ok (.iload 6, 2) := by decide +kernel
theorem dX10_comes_142 : decode cX10_comes 142 = .ok (.iload 7, 2) := by decide +kernel
theorem dX10_comes_144 : decode cX10_comes 144 = .ok (.invokevirtual 224, 3) := by decide +kernel
theorem dX10_comes_147 : decode cX10_comes 147 = .ok (.goto 41, 3) := by decide +kernel
theorem dX10_comes_150 : decode cX10_comes 150 = .ok (.iload_n 3, 1) := by decide +kernel
theorem dX10_comes_151 : decode cX10_comes 151 = .ok (.bipush 11, 2) := by decide +kernel
theorem dX10_comes_153 : decode cX10_comes 153 = .ok (.if_icmp .ne 20, 3) := by decide +kernel
theorem dX10_comes_156 : decode cX10_comes 156 = .ok (.aload_n 0, 1) := by decide +kernel
theorem dX10_comes_157 : decode cX10_comes 157 = .ok (.iload 4, 2) := by decide +kernel
theorem dX10_comes_159 : decode cX10_comes 159 = .ok (.iload 5, 2) := by decide +kernel
theorem dX10_comes_161 : decode cX10_comes 161 = .ok (.iload 6, 2) := by decide +kernel
theorem dX10_comes_163 : decode cX10_comes 163 = .ok (.iload 7, 2) := by decide +kernel
theorem dX10_comes_165 : decode cX10_comes 165 = .ok (.iload 8, 2) := by decide +kernel
theorem dX10_comes_167 : decode cX10_comes 167 = .ok (.invokevirtual 227, 3) := by decide +kernel
theorem dX10_comes_170 : decode cX10_comes 170 = .ok (.goto 18, 3) := by decide +kernel
theorem dX10_comes_173 : decode cX10_comes 173 = .ok (.aload_n 0, 1) := by decide +kernel
theorem dX10_comes_174 : decode cX10_comes 174 = .ok (.iload_n 3, 1) := by decide +kernel
theorem dX10_comes_175 : decode cX10_comes 175 = .ok (.iload 4, 2) := by decide +kernel
theorem dX10_comes_177 : decode cX10_comes 177 = .ok (.iload 5, 2) := by decide +kernel
theorem dX10_comes_179 : decode cX10_comes 179 = .ok (.iload 6, 2) := by decide +kernel
theorem dX10_comes_181 : decode cX10_comes 181 = .ok (.iload 7, 2) := by decide +kernel
theorem dX10_comes_183 : decode cX10_comes 183 = .ok (.iload 8, 2) := by decide +kernel
theorem dX10_comes_185 : decode cX10_comes 185 = .ok (.invokevirtual 231, 3) := by decide +kernel
theorem dX10_comes_188 : decode cX10_comes 188 = .ok (.return_, 1) := by decide +kernel
theorem dX10_takeOut_0 : decode cX10_takeOut 0 = .ok (.aload_n 0, 1) := by decide +kernel
theorem dX10_takeOut_1 : decode cX10_takeOut 1 = .ok (.dup, 1) := by decide +kernel
theorem dX10_takeOut_2 : decode cX10_takeOut 2 = .ok (.getfield 154, 3) := by decide +kernel
theorem dX10_takeOut_5 : decode cX10_takeOut 5 = .ok (.iconst 1, 1) := by decide +kernel
theorem dX10_takeOut_6 : decode cX10_takeOut 6 = .ok (.isub, 1) := by decide +kernel
theorem dX10_takeOut_7 : decode cX10_takeOut 7 = .ok (.putfield 154, 3) := by decide +kernel
theorem dX10_takeOut_10 : decode cX10_takeOut 10 = .ok (.bipush 6, 2) := by decide +kernel
theorem dX10_takeOut_12 : decode cX10_takeOut 12 = .ok (.iload_n 1, 1) := by decide +kernel
theorem dX10_takeOut_13 : decode cX10_takeOut 13 = .ok (.imul, 1) := by decide +kernel
theorem dX10_takeOut_14 : decode cX10_takeOut 14 = .ok (.istore_n 2, 1) := by decide +kernel
theorem dX10_takeOut_15 : decode cX10_takeOut 15 = .ok (.iload_n 2, 1) := by decide +kernel
theorem dX10_takeOut_16 : decode cX10_takeOut 16 = .ok (.bipush 6, 2) := by decide +kernel
theorem dX10_takeOut_18 : decode cX10_takeOut 18 = .ok (.aload_n 0, 1) := by decide +kernel
theorem dX10_takeOut_19 : decode cX10_takeOut 19 = .ok (.getfield 154, 3) := by decide +kernel
theorem dX10_takeOut_22 : decode cX10_takeOut 22 = .ok (.imul, 1) := by decide +kernel
theorem dX10_takeOut_23 : decode cX10_takeOut 23 = .ok (.if_icmp .ge 24, 3) := by decide +kernel
theorem dX10_takeOut_26 : decode cX10_takeOut 26 = .ok (.aload_n 0, 1) := by decide +kernel
theorem dX10_takeOut_27 : decode cX10_takeOut 27 = .ok (.getfield 7, 3) := by decide +kernel
theorem dX10_takeOut_30 : decode cX10_takeOut 30 = .ok (.iload_n 2, 1) := by decide +kernel
theorem dX10_takeOut_31 : decode cX10_takeOut 31 = .ok (.aload_n 0, 1) := by decide +kernel
theorem dX10_takeOut_32 : decode cX10_takeOut 32 = .ok (.getfield 7, 3) := by decide +kernel
theorem dX10_takeOut_35 : decode cX10_takeOut 35 = .ok (.iload_n 2, 1) := by decide +kernel
theorem dX10_takeOut_36 : decode cX10_takeOut 36 = .ok (.bipush 6, 2) := by decide +kernel
theorem dX10_takeOut_38 : decode cX10_takeOut 38 = .ok (.iadd, 1) := by decide +kernel
theorem dX10_takeOut_39 : decode cX10_takeOut 39 = .ok (.iaload, 1) := by decide +kernel
theorem dX10_takeOut_40 : decode cX10_takeOut 40 = .ok (.iastore, 1) := by decide +kernel
theorem dX10_takeOut_41 : decode cX10_takeOut 41 = .ok (.iinc 2 1, 3) := by decide +kernel
theorem dX10_takeOut_44 : decode cX10_takeOut 44 = .ok (.goto (-29), 3) := by decide +kernel
theorem dX10_takeOut_47 : decode cX10_takeOut 47 = .ok (.return_, 1) := by decide +kernel
theorem dX10_carry_0 : decode cX10_carry 0 = .ok (.aload_n 0, 1) := by decide +kernel
theorem dX10_carry_1 : decode cX10_carry 1 = .ok (.aload_n 0, 1) := by decide +kernel
theorem dX10_carry_2 : decode cX10_carry 2 = .ok (.iload_n 1, 1) := by decide +kernel
theorem dX10_carry_3 : decode cX10_carry 3 = .ok (.invokevirtual 209, 3) := by decide +kernel
theorem dX10_carry_6 : decode cX10_carry 6 = .ok (.ifCond .eq 7, 3) := by decide +kernel
theorem dX10_carry_9 : decode cX10_carry 9 = .ok (.iconst 0, 1) := by decide +kernel
theorem dX10_carry_10 : decode cX10_carry 10 = .ok (.goto 4, 3) := by decide +kernel
theorem dX10_carry_13 : decode cX10_carry 13 = .ok (.iconst 1, 1) := by decide +kernel
theorem dX10_carry_14 : decode cX10_carry 14 = .ok (.putfield 146, 3) := by decide +kernel
theorem dX10_carry_17 : decode cX10_carry 17 = .ok (.aload_n 0, 1) := by decide +kernel
theorem dX10_carry_18 : decode cX10_carry 18 = .ok (.getfield 146, 3) := by decide +kernel
theorem dX10_carry_21 : decode cX10_carry 21 = .ok (.ifCond .ne 9, 3) := by decide +kernel
theorem dX10_carry_24 : decode cX10_carry 24 = .ok (.aload_n 0, 1) := by decide +kernel
theorem dX10_carry_25 : decode cX10_carry 25 = .ok (.iload_n 1, 1) := by decide +kernel
theorem dX10_carry_26 : decode cX10_carry 26 = .ok (.iconst 1, 1) := by decide +kernel
theorem dX10_carry_27 : decode cX10_carry 27 = .ok (.invokevirtual 234, 3) := by decide +kernel
theorem dX10_carry_30 : decode cX10_carry 30 = .ok (.return_, 1) := by decide +kernel
theorem dX10_twice_0 : decode cX10_twice 0 = .ok (.aload_n 0, 1) := by decide +kernel
theorem dX10_twice_1 : decode cX10_twice 1 = .ok (.aload_n 0, 1) := by decide +kernel
theorem dX10_twice_2 : decode cX10_twice 2 = .ok (.iload_n 1, 1) := by decide +kernel
theorem dX10_twice_3 : decode cX10_twice 3 = .ok (.invokevirtual 209, 3) := by decide +kernel
theorem dX10_twice_6 : decode cX10_twice 6 = .ok (.ifCond .eq 7, 3) := by decide +kernel
theorem dX10_twice_9 : decode cX10_twice 9 = .ok (.iconst 0, 1) := by decide +kernel
theorem dX10_twice_10 : decode cX10_twice 10 = .ok (.goto 4, 3) := by decide +kernel
theorem dX10_twice_13 : decode cX10_twice 13 = .ok (.iconst 1, 1) := by decide +kernel
theorem dX10_twice_14 : decode cX10_twice 14 = .ok (.putfield 146, 3) := by decide +kernel
theorem dX10_twice_17 : decode cX10_twice 17 = .ok (.aload_n 0, 1) := by decide +kernel
theorem dX10_twice_18 : decode cX10_twice 18 = .ok (.getfield 146, 3) := by decide +kernel
theorem dX10_twice_21 : decode cX10_twice 21 = .ok (.ifCond .ne 9, 3) := by decide +kernel
theorem dX10_twice_24 : decode cX10_twice 24 = .ok (.aload_n 0, 1) := by decide +kernel
theorem dX10_twice_25 : decode cX10_twice 25 = .ok (.iload_n 1, 1) := by decide +kernel
theorem dX10_twice_26 : decode cX10_twice 26 = .ok (.iconst 0, 1) := by decide +kernel
theorem dX10_twice_27 : decode cX10_twice 27 = .ok (.invokevirtual 234, 3) := by decide +kernel
theorem dX10_twice_30 : decode cX10_twice 30 = .ok (.return_, 1) := by decide +kernel
theorem dX10_drop_0 : decode cX10_drop 0 = .ok (.aload_n 0, 1) := by decide +kernel
theorem dX10_drop_1 : decode cX10_drop 1 = .ok (.aload_n 0, 1) := by decide +kernel
theorem dX10_drop_2 : decode cX10_drop 2 = .ok (.iload_n 1, 1) := by decide +kernel
theorem dX10_drop_3 : decode cX10_drop 3 = .ok (.invokevirtual 209, 3) := by decide +kernel
theorem dX10_drop_6 : decode cX10_drop 6 = .ok (.ifCond .eq 7, 3) := by decide +kernel
theorem dX10_drop_9 : decode cX10_drop 9 = .ok (.iconst 0, 1) := by decide +kernel
theorem dX10_drop_10 : decode cX10_drop 10 = .ok (.goto 4, 3) := by decide +kernel
theorem dX10_drop_13 : decode cX10_drop 13 = .ok (.iconst 1, 1) := by decide +kernel
theorem dX10_drop_14 : decode cX10_drop 14 = .ok (.putfield 146, 3) := by decide +kernel
theorem dX10_drop_17 : decode cX10_drop 17 = .ok (.aload_n 0, 1) := by decide +kernel
theorem dX10_drop_18 : decode cX10_drop 18 = .ok (.getfield 146, 3) := by decide +kernel
theorem dX10_drop_21 : decode cX10_drop 21 = .ok (.ifCond .ne 8, 3) := by decide +kernel
theorem dX10_drop_24 : decode cX10_drop 24 = .ok (.aload_n 0, 1) := by decide +kernel
theorem dX10_drop_25 : decode cX10_drop 25 = .ok (.iload_n 1, 1) := by decide +kernel
theorem dX10_drop_26 : decode cX10_drop 26 = .ok (.invokevirtual 213, 3) := by decide +kernel
theorem dX10_drop_29 : decode cX10_drop 29 = .ok (.return_, 1) := by decide +kernel
theorem dX10_run_0 : decode cX10_run 0 = .ok (.aload_n 0, 1) := by decide +kernel
theorem dX10_run_1 : decode cX10_run 1 = .ok (.iload_n 1, 1) := by decide +kernel
theorem dX10_run_2 : decode cX10_run 2 = .ok (.iconst 0, 1) := by decide +kernel
theorem dX10_run_3 : decode cX10_run 3 = .ok (.sipush 200, 3) := by decide +kernel
theorem dX10_run_6 : decode cX10_run 6 = .ok (.invokestatic 150, 3) := by decide +kernel
theorem dX10_run_9 : decode cX10_run 9 = .ok (.ifCond .eq 7, 3) := by decide +kernel
theorem dX10_run_12 : decode cX10_run 12 = .ok (.iconst 0, 1) := by decide +kernel
theorem dX10_run_13 : decode cX10_run 13 = .ok (.goto 4, 3) := by decide +kernel
theorem dX10_run_16 : decode cX10_run 16 = .ok (.iconst 1, 1) := by decide +kernel
theorem dX10_run_17 : decode cX10_run 17 = .ok (.putfield 146, 3) := by decide +kernel
theorem dX10_run_20 : decode cX10_run 20 = .ok (.iconst 0, 1) := by decide +kernel
theorem dX10_run_21 : decode cX10_run 21 = .ok (.istore_n 2, 1) := by decide +kernel
theorem dX10_run_22 : decode cX10_run 22 = .ok (.aload_n 0, 1) := by decide +kernel
theorem dX10_run_23 : decode cX10_run 23 = .ok (.getfield 146, 3) := by decide +kernel
theorem dX10_run_26 : decode cX10_run 26 = .ok (.ifCond .ne 27, 3) := by decide +kernel
theorem dX10_run_29 : decode cX10_run 29 = .ok (.iload_n 2, 1) := by decide +kernel
theorem dX10_run_30 : decode cX10_run 30 = .ok (.iload_n 1, 1) := by decide +kernel
theorem dX10_run_31 : decode cX10_run 31 = .ok (.if_icmp .ge 22, 3) := by decide +kernel
theorem dX10_run_34 : decode cX10_run 34 = .ok (.aload_n 0, 1) := by decide +kernel
theorem dX10_run_35 : decode cX10_run 35 = .ok (.getfield 154, 3) := by decide +kernel
theorem dX10_run_38 : decode cX10_run 38 = .ok (.ifCond .le 15, 3) := by decide +kernel
theorem dX10_run_41 : decode cX10_run 41 = .ok (.aload_n 0, 1) := by decide +kernel
theorem dX10_run_42 : decode cX10_run 42 = .ok (.iconst 0, 1) := by decide +kernel
theorem dX10_run_43 : decode cX10_run 43 = .ok (.iconst 1, 1) := by decide +kernel
theorem dX10_run_44 : decode cX10_run 44 = .ok (.invokevirtual 234, 3) := by decide +kernel
theorem dX10_run_47 : decode cX10_run 47 = .ok (.iinc 2 1, 3) := by decide +kernel
theorem dX10_run_50 : decode cX10_run 50 = .ok (.goto (-28), 3) := by decide +kernel
theorem dX10_run_53 : decode cX10_run 53 = .ok (.iload_n 2, 1) := by decide +kernel
theorem dX10_run_54 : decode cX10_run 54 = .ok (.ireturn, 1) := by decide +kernel
theorem dX10_tick_0 : decode cX10_tick 0 = .ok (.aload_n 0, 1) := by decide +kernel
theorem dX10_tick_1 : decode cX10_tick 1 = .ok (.iconst 0, 1) := by decide +kernel
theorem dX10_tick_2 : decode cX10_tick 2 = .ok (.putfield 146, 3) := by decide +kernel
theorem dX10_tick_5 : decode cX10_tick 5 = .ok (.aload_n 0, 1) := by decide +kernel
theorem dX10_tick_6 : decode cX10_tick 6 = .ok (.dup, 1) := by decide +kernel
theorem dX10_tick_7 : decode cX10_tick 7 = .ok (.getfield 179, 3) := by decide +kernel
theorem dX10_tick_10 : decode cX10_tick 10 = .ok (.iconst 1, 1) := by decide +kernel
theorem dX10_tick_11 : decode cX10_tick 11 = .ok (.iadd, 1) := by decide +kernel
theorem dX10_tick_12 : decode cX10_tick 12 = .ok (.putfield 179, 3) := by decide +kernel
theorem dX10_tick_15 : decode cX10_tick 15 = .ok (.iconst 0, 1) := by decide +kernel
theorem dX10_tick_16 : decode cX10_tick 16 = .ok (.istore_n 1, 1) := by decide +kernel
theorem dX10_tick_17 : decode cX10_tick 17 = .ok (.iload_n 1, 1) := by decide +kernel
theorem dX10_tick_18 : decode cX10_tick 18 = .ok (.iconst 3, 1) := by decide +kernel
theorem dX10_tick_19 : decode cX10_tick 19 = .ok (.if_icmp .ge 38, 3) := by decide +kernel
theorem dX10_tick_22 : decode cX10_tick 22 = .ok (.aload_n 0, 1) := by decide +kernel
theorem dX10_tick_23 : decode cX10_tick 23 = .ok (.iload_n 1, 1) := by decide +kernel
theorem dX10_tick_24 : decode cX10_tick 24 = .ok (.invokevirtual 238, 3) := by decide +kernel
theorem dX10_tick_27 : decode cX10_tick 27 = .ok (.iconst 0, 1) := by decide +kernel
theorem dX10_tick_28 : decode cX10_tick 28 = .ok (.istore_n 2, 1) := by decide +kernel
theorem dX10_tick_29 : decode cX10_tick 29 = .ok (.iload_n 2, 1) := by decide +kernel
theorem dX10_tick_30 : decode cX10_tick 30 = .ok (.bipush 6, 2) := by decide +kernel
theorem dX10_tick_32 : decode cX10_tick 32 = .ok (.if_icmp .ge 19, 3) := by decide +kernel
theorem dX10_tick_35 : decode cX10_tick 35 = .ok (.aload_n 0, 1) := by decide +kernel
theorem dX10_tick_36 : decode cX10_tick 36 = .ok (.bipush 6, 2) := by decide +kernel
theorem dX10_tick_38 : decode cX10_tick 38 = .ok (.iload_n 1, 1) := by decide +kernel
theorem dX10_tick_39 : decode cX10_tick 39 = .ok (.imul, 1) := by decide +kernel
theorem dX10_tick_40 : decode cX10_tick 40 = .ok (.iload_n 2, 1) := by decide +kernel
theorem dX10_tick_41 : decode cX10_tick 41 = .ok (.iadd, 1) := by decide +kernel
theorem dX10_tick_42 : decode cX10_tick 42 = .ok (.invokevirtual 241, 3) := by decide +kernel
theorem dX10_tick_45 : decode cX10_tick 45 = .ok (.iinc 2 1, 3) := by decide +kernel
theorem dX10_tick_48 : decode cX10_tick 48 = .ok (.goto (-19), 3) := by decide +kernel
theorem dX10_tick_51 : decode cX10_tick 51 = .ok (.iinc 1 1, 3) := by decide +kernel
theorem dX10_tick_54 : decode cX10_tick 54 = .ok (.goto (-37), 3) := by decide +kernel
theorem dX10_tick_57 : decode cX10_tick 57 = .ok (.aload_n 0, 1) := by decide +kernel
theorem dX10_tick_58 : decode cX10_tick 58 = .ok (.getfield 179, 3) := by decide +kernel
theorem dX10_tick_61 : decode cX10_tick 61 = .ok (.ireturn, 1) := by decide +kernel
theorem dX10_server_0 : decode cX10_server 0 = .ok (.aload_n 0, 1) := by decide +kernel
theorem dX10_server_1 : decode cX10_server 1 = .ok (.iload_n 1, 1) := by decide +kernel
theorem dX10_server_2 : decode cX10_server 2 = .ok (.iconst 0, 1) := by decide +kernel
theorem dX10_server_3 : decode cX10_server 3 = .ok (.iconst 2, 1) := by decide +kernel
theorem dX10_server_4 : decode cX10_server 4 = .ok (.invokestatic 150, 3) := by decide +kernel
theorem dX10_server_7 : decode cX10_server 7 = .ok (.ifCond .ne 7, 3) := by decide +kernel
theorem dX10_server_10 : decode cX10_server 10 = .ok (.iconst 1, 1) := by decide +kernel
theorem dX10_server_11 : decode cX10_server 11 = .ok (.goto 17, 3) := by decide +kernel
theorem dX10_server_14 : decode cX10_server 14 = .ok (.iload_n 2, 1) := by decide +kernel
theorem dX10_server_15 : decode cX10_server 15 = .ok (.iconst 0, 1) := by decide +kernel
theorem dX10_server_16 : decode cX10_server 16 = .ok (.iconst 5, 1) := by decide +kernel
theorem dX10_server_17 : decode cX10_server 17 = .ok (.invokestatic 150, 3) := by decide +kernel
theorem dX10_server_20 : decode cX10_server 20 = .ok (.ifCond .ne 7, 3) := by decide +kernel
theorem dX10_server_23 : decode cX10_server 23 = .ok (.iconst 2, 1) := by decide +kernel
theorem dX10_server_24 : decode cX10_server 24 = .ok (.goto 4, 3) := by decide +kernel
theorem dX10_server_27 : decode cX10_server 27 = .ok (.iconst 0, 1) := by decide +kernel
theorem dX10_server_28 : decode cX10_server 28 = .ok (.putfield 146, 3) := by decide +kernel
theorem dX10_server_31 : decode cX10_server 31 = .ok (.aload_n 0, 1) := by decide +kernel
theorem dX10_server_32 : decode cX10_server 32 = .ok (.getfield 146, 3) := by decide +kernel
theorem dX10_server_35 : decode cX10_server 35 = .ok (.ifCond .le 5, 3) := by decide +kernel
theorem dX10_server_38 : decode cX10_server 38 = .ok (.iconst 0, 1) := by decide +kernel
theorem dX10_server_39 : decode cX10_server 39 = .ok (.ireturn, 1) := by decide +kernel
theorem dX10_server_40 : decode cX10_server 40 = .ok (.iload_n 2, 1) := by decide +kernel
theorem dX10_server_41 : decode cX10_server 41 = .ok (.tableswitch 99 0 4 #[35, 42, 49, 55, 79], 35) := by decide +kernel
theorem dX10_server_76 : decode cX10_server 76 = .ok (.aload_n 0, 1) := by decide +kernel
theorem dX10_server_77 : decode cX10_server 77 = .ok (.getfield 101, 3) := by decide +kernel
theorem dX10_server_80 : decode cX10_server 80 = .ok (.iload_n 1, 1) := by decide +kernel
theorem dX10_server_81 : decode cX10_server 81 = .ok (.iaload, 1) := by decide +kernel
theorem dX10_server_82 : decode cX10_server 82 = .ok (.ireturn, 1) := by decide +kernel
theorem dX10_server_83 : decode cX10_server 83 = .ok (.aload_n 0, 1) := by decide +kernel
theorem dX10_server_84 : decode cX10_server 84 = .ok (.getfield 104, 3) := by decide +kernel
theorem dX10_server_87 : decode cX10_server 87 = .ok (.iload_n 1, 1) := by decide +kernel
theorem dX10_server_88 : decode cX10_server 88 = .ok (.iaload, 1) := by decide +kernel
theorem dX10_server_89 : decode cX10_server 89 = .ok (.ireturn, 1) := by decide +kernel
theorem dX10_server_90 : decode cX10_server 90 = .ok (.aload_n 0, 1) := by decide +kernel
theorem dX10_server_91 : decode cX10_server 91 = .ok (.iload_n 1, 1) := by decide +kernel
theorem dX10_server_92 : decode cX10_server 92 = .ok (.invokevirtual 203, 3) := by decide +kernel
theorem dX10_server_95 : decode cX10_server 95 = .ok (.ireturn, 1) := by decide +kernel
theorem dX10_server_96 : decode cX10_server 96 = .ok (.aload_n 0, 1) := by decide +kernel
theorem dX10_server_97 : decode cX10_server 97 = .ok (.getfield 104, 3) := by decide +kernel
theorem dX10_server_100 : decode cX10_server 100 = .ok (.iload_n 1, 1) := by decide +kernel
theorem dX10_server_101 : decode cX10_server 101 = .ok (.iaload, 1) := by decide +kernel
theorem dX10_server_102 : decode cX10_server 102 = .ok (.ifCond .lt 16, 3) := by decide +kernel
theorem dX10_server_105 : decode cX10_server 105 = .ok (.aload_n 0, 1) := by decide +kernel
theorem dX10_server_106 : decode cX10_server 106 = .ok (.getfield 107, 3) := by decide +kernel
theorem dX10_server_109 : decode cX10_server 109 = .ok (.iload_n 1, 1) := by decide +kernel
theorem dX10_server_110 : decode cX10_server 110 = .ok (.iaload, 1) := by decide +kernel
theorem dX10_server_111 : decode cX10_server 111 = .ok (.ifCond .lt 7, 3) := by decide +kernel
theorem dX10_server_114 : decode cX10_server 114 = .ok (.iconst 1, 1) := by decide +kernel
theorem dX10_server_115 : decode cX10_server 115 = .ok (.goto 4, 3) := by decide +kernel
theorem dX10_server_118 : decode cX10_server 118 = .ok (.iconst 0, 1) := by decide +kernel
theorem dX10_server_119 : decode cX10_server 119 = .ok (.ireturn, 1) := by decide +kernel
theorem dX10_server_120 : decode cX10_server 120 = .ok (.aload_n 0, 1) := by decide +kernel
theorem dX10_server_121 : decode cX10_server 121 = .ok (.getfield 104, 3) := by decide +kernel
theorem dX10_server_124 : decode cX10_server 124 = .ok (.iload_n 1, 1) := by decide +kernel
theorem dX10_server_125 : decode cX10_server 125 = .ok (.iaload, 1) := by decide +kernel
theorem dX10_server_126 : decode cX10_server 126 = .ok (.ifCond .ge 7, 3) := by decide +kernel
theorem dX10_server_129 : decode cX10_server 129 = .ok (.iconst (-1), 1) := by decide +kernel
theorem dX10_server_130 : decode cX10_server 130 = .ok (.goto 9, 3) := by decide +kernel
theorem dX10_server_133 : decode cX10_server 133 = .ok (.aload_n 0, 1) := by decide +kernel
theorem dX10_server_134 : decode cX10_server 134 = .ok (.getfield 110, 3) := by decide +kernel
theorem dX10_server_137 : decode cX10_server 137 = .ok (.iload_n 1, 1) := by decide +kernel
theorem dX10_server_138 : decode cX10_server 138 = .ok (.iaload, 1) := by decide +kernel
theorem dX10_server_139 : decode cX10_server 139 = .ok (.ireturn, 1) := by decide +kernel
theorem dX10_server_140 : decode cX10_server 140 = .ok (.aload_n 0, 1) := by decide +kernel
theorem dX10_server_141 : decode cX10_server 141 = .ok (.getfield 104, 3) := by decide +kernel
theorem dX10_server_144 : decode cX10_server 144 = .ok (.iload_n 1, 1) := by decide +kernel
theorem dX10_server_145 : decode cX10_server 145 = .ok (.iaload, 1) := by decide +kernel
theorem dX10_server_146 : decode cX10_server 146 = .ok (.ifCond .ge 7, 3) := by decide +kernel
theorem dX10_server_149 : decode cX10_server 149 = .ok (.iconst (-1), 1) := by decide +kernel
theorem dX10_server_150 : decode cX10_server 150 = .ok (.goto 9, 3) := by decide +kernel
theorem dX10_server_153 : decode cX10_server 153 = .ok (.aload_n 0, 1) := by decide +kernel
theorem dX10_server_154 : decode cX10_server 154 = .ok (.getfield 113, 3) := by decide +kernel
theorem dX10_server_157 : decode cX10_server 157 = .ok (.iload_n 1, 1) := by decide +kernel
theorem dX10_server_158 : decode cX10_server 158 = .ok (.iaload, 1) := by decide +kernel
theorem dX10_server_159 : decode cX10_server 159 = .ok (.ireturn, 1) := by decide +kernel
theorem dX10_waiting_0 : decode cX10_waiting 0 = .ok (.aload_n 0, 1) := by decide +kernel
theorem dX10_waiting_1 : decode cX10_waiting 1 = .ok (.iload_n 1, 1) := by decide +kernel
theorem dX10_waiting_2 : decode cX10_waiting 2 = .ok (.iconst 0, 1) := by decide +kernel
theorem dX10_waiting_3 : decode cX10_waiting 3 = .ok (.iconst 2, 1) := by decide +kernel
theorem dX10_waiting_4 : decode cX10_waiting 4 = .ok (.invokestatic 150, 3) := by decide +kernel
theorem dX10_waiting_7 : decode cX10_waiting 7 = .ok (.ifCond .ne 7, 3) := by decide +kernel
theorem dX10_waiting_10 : decode cX10_waiting 10 = .ok (.iconst 1, 1) := by decide +kernel
theorem dX10_waiting_11 : decode cX10_waiting 11 = .ok (.goto 21, 3) := by decide +kernel
theorem dX10_waiting_14 : decode cX10_waiting 14 = .ok (.iload_n 2, 1) := by decide +kernel
theorem dX10_waiting_15 : decode cX10_waiting 15 = .ok (.ifCond .lt 12, 3) := by decide +kernel
theorem dX10_waiting_18 : decode cX10_waiting 18 = .ok (.iload_n 2, 1) := by decide +kernel
theorem dX10_waiting_19 : decode cX10_waiting 19 = .ok (.aload_n 0, 1) := by decide +kernel
theorem dX10_waiting_20 : decode cX10_waiting 20 = .ok (.iload_n 1, 1) := by decide +kernel
theorem dX10_waiting_21 : decode cX10_waiting 21 = .ok (.invokevirtual 203, 3) := by decide +kernel
theorem dX10_waiting_24 : decode cX10_waiting 24 = .ok (.if_icmp .lt 7, 3) := by decide +kernel
theorem dX10_waiting_27 : decode cX10_waiting 27 = .ok (.iconst 2, 1) := by decide +kernel
theorem dX10_waiting_28 : decode cX10_waiting 28 = .ok (.goto 4, 3) := by decide +kernel
theorem dX10_waiting_31 : decode cX10_waiting 31 = .ok (.iconst 0, 1) := by decide +kernel
theorem dX10_waiting_32 : decode cX10_waiting 32 = .ok (.putfield 146, 3) := by decide +kernel
theorem dX10_waiting_35 : decode cX10_waiting 35 = .ok (.aload_n 0, 1) := by decide +kernel
theorem dX10_waiting_36 : decode cX10_waiting 36 = .ok (.getfield 146, 3) := by decide +kernel
theorem dX10_waiting_39 : decode cX10_waiting 39 = .ok (.ifCond .le 7, 3) := by decide +kernel
theorem dX10_waiting_42 : decode cX10_waiting 42 = .ok (.iconst 0, 1) := by decide +kernel
theorem dX10_waiting_43 : decode cX10_waiting 43 = .ok (.goto 9, 3) := by decide +kernel
theorem dX10_waiting_46 : decode cX10_waiting 46 = .ok (.aload_n 0, 1) := by decide +kernel
theorem dX10_waiting_47 : decode cX10_waiting 47 = .ok (.iload_n 1, 1) := by decide +kernel
theorem dX10_waiting_48 : decode cX10_waiting 48 = .ok (.iload_n 2, 1) := by decide +kernel
theorem dX10_waiting_49 : decode cX10_waiting 49 = .ok (.invokevirtual 194, 3) := by decide +kernel
theorem dX10_waiting_52 : decode cX10_waiting 52 = .ok (.ireturn, 1) := by decide +kernel
theorem dX10_relay_0 : decode cX10_relay 0 = .ok (.aload_n 0, 1) := by decide +kernel
theorem dX10_relay_1 : decode cX10_relay 1 = .ok (.iload_n 1, 1) := by decide +kernel
theorem dX10_relay_2 : decode cX10_relay 2 = .ok (.iconst 0, 1) := by decide +kernel
theorem dX10_relay_3 : decode cX10_relay 3 = .ok (.iconst 2, 1) := by decide +kernel
theorem dX10_relay_4 : decode cX10_relay 4 = .ok (.invokestatic 150, 3) := by decide +kernel
theorem dX10_relay_7 : decode cX10_relay 7 = .ok (.ifCond .ne 7, 3) := by decide +kernel
theorem dX10_relay_10 : decode cX10_relay 10 = .ok (.iconst 1, 1) := by decide +kernel
theorem dX10_relay_11 : decode cX10_relay 11 = .ok (.goto 17, 3) := by decide +kernel
theorem dX10_relay_14 : decode cX10_relay 14 = .ok (.iload_n 2, 1) := by decide +kernel
theorem dX10_relay_15 : decode cX10_relay 15 = .ok (.iconst 0, 1) := by decide +kernel
theorem dX10_relay_16 : decode cX10_relay 16 = .ok (.iconst 3, 1) := by decide +kernel
theorem dX10_relay_17 : decode cX10_relay 17 = .ok (.invokestatic 150, 3) := by decide +kernel
theorem dX10_relay_20 : decode cX10_relay 20 = .ok (.ifCond .ne 7, 3) := by decide +kernel
theorem dX10_relay_23 : decode cX10_relay 23 = .ok (.iconst 2, 1) := by decide +kernel
theorem dX10_relay_24 : decode cX10_relay 24 = .ok (.goto 4, 3) := by decide +kernel
theorem dX10_relay_27 : decode cX10_relay 27 = .ok (.iconst 0, 1) := by decide +kernel
theorem dX10_relay_28 : decode cX10_relay 28 = .ok (.putfield 146, 3) := by decide +kernel
theorem dX10_relay_31 : decode cX10_relay 31 = .ok (.aload_n 0, 1) := by decide +kernel
theorem dX10_relay_32 : decode cX10_relay 32 = .ok (.getfield 146, 3) := by decide +kernel
theorem dX10_relay_35 : decode cX10_relay 35 = .ok (.ifCond .le 5, 3) := by decide +kernel
theorem dX10_relay_38 : decode cX10_relay 38 = .ok (.iconst 0, 1) := by decide +kernel
theorem dX10_relay_39 : decode cX10_relay 39 = .ok (.ireturn, 1) := by decide +kernel
theorem dX10_relay_40 : decode cX10_relay 40 = .ok (.iload_n 2, 1) := by decide +kernel
theorem dX10_relay_41 : decode cX10_relay 41 = .ok (.ifCond .ne 12, 3) := by decide +kernel
theorem dX10_relay_44 : decode cX10_relay 44 = .ok (.aload_n 0, 1) := by decide +kernel
theorem dX10_relay_45 : decode cX10_relay 45 = .ok (.getfield 131, 3) := by decide +kernel
theorem dX10_relay_48 : decode cX10_relay 48 = .ok (.iload_n 1, 1) := by decide +kernel
theorem dX10_relay_49 : decode cX10_relay 49 = .ok (.iaload, 1) := by decide +kernel
theorem dX10_relay_50 : decode cX10_relay 50 = .ok (.goto 37, 3) := by decide +kernel
theorem dX10_relay_53 : decode cX10_relay 53 = .ok (.iload_n 2, 1) := by decide +kernel
theorem dX10_relay_54 : decode cX10_relay 54 = .ok (.iconst 1, 1) := by decide +kernel
theorem dX10_relay_55 : decode cX10_relay 55 = .ok (.if_icmp .ne 12, 3) := by decide +kernel
theorem dX10_relay_58 : decode cX10_relay 58 = .ok (.aload_n 0, 1) := by decide +kernel
theorem dX10_relay_59 : decode cX10_relay 59 = .ok (.getfield 134, 3) := by decide +kernel
theorem dX10_relay_62 : decode cX10_relay 62 = .ok (.iload_n 1, 1) := by decide +kernel
theorem dX10_relay_63 : decode cX10_relay 63 = .ok (.iaload, 1) := by decide +kernel
theorem dX10_relay_64 : decode cX10_relay 64 = .ok (.goto 23, 3) := by decide +kernel
theorem dX10_relay_67 : decode cX10_relay 67 = .ok (.iload_n 2, 1) := by decide +kernel
theorem dX10_relay_68 : decode cX10_relay 68 = .ok (.iconst 2, 1) := by decide +kernel
theorem dX10_relay_69 : decode cX10_relay 69 = .ok (.if_icmp .ne 12, 3) := by decide +kernel
theorem dX10_relay_72 : decode cX10_relay 72 = .ok (.aload_n 0, 1) := by decide +kernel
theorem dX10_relay_73 : decode cX10_relay 73 = .ok (.getfield 137, 3) := by decide +kernel
theorem dX10_relay_76 : decode cX10_relay 76 = .ok (.iload_n 1, 1) := by decide +kernel
theorem dX10_relay_77 : decode cX10_relay 77 = .ok (.iaload, 1) := by decide +kernel
theorem dX10_relay_78 : decode cX10_relay 78 = .ok (.goto 9, 3) := by decide +kernel
theorem dX10_relay_81 : decode cX10_relay 81 = .ok (.aload_n 0, 1) := by decide +kernel
theorem dX10_relay_82 : decode cX10_relay 82 = .ok (.getfield 140, 3) := by decide +kernel
theorem dX10_relay_85 : decode cX10_relay 85 = .ok (.iload_n 1, 1) := by decide +kernel
theorem dX10_relay_86 : decode cX10_relay 86 = .ok (.iaload, 1) := by decide +kernel
theorem dX10_relay_87 : decode cX10_relay 87 = .ok (.ireturn, 1) := by decide +kernel
theorem dX10_about_0 : decode cX10_about 0 = .ok (.aload_n 0, 1) := by decide +kernel
theorem dX10_about_1 : decode cX10_about 1 = .ok (.iload_n 1, 1) := by decide +kernel
theorem dX10_about_2 : decode cX10_about 2 = .ok (.iload_n 2, 1) := by decide +kernel
theorem dX10_about_3 : decode cX10_about 3 = .ok (.invokestatic 160, 3) := by decide +kernel
theorem dX10_about_6 : decode cX10_about 6 = .ok (.ifCond .ne 7, 3) := by decide +kernel
theorem dX10_about_9 : decode cX10_about 9 = .ok (.iconst 1, 1) := by decide +kernel
theorem dX10_about_10 : decode cX10_about 10 = .ok (.goto 18, 3) := by decide +kernel
theorem dX10_about_13 : decode cX10_about 13 = .ok (.iload_n 3, 1) := by decide +kernel
theorem dX10_about_14 : decode cX10_about 14 = .ok (.iconst 0, 1) := by decide +kernel
theorem dX10_about_15 : decode cX10_about 15 = .ok (.bipush 14, 2) := by decide +kernel
theorem dX10_about_17 : decode cX10_about 17 = .ok (.invokestatic 150, 3) := by decide +kernel
theorem dX10_about_20 : decode cX10_about 20 = .ok (.ifCond .ne 7, 3) := by decide +kernel
theorem dX10_about_23 : decode cX10_about 23 = .ok (.iconst 2, 1) := by decide +kernel
theorem dX10_about_24 : decode cX10_about 24 = .ok (.goto 4, 3) := by decide +kernel
theorem dX10_about_27 : decode cX10_about 27 = .ok (.iconst 0, 1) := by decide +kernel
theorem dX10_about_28 : decode cX10_about 28 = .ok (.putfield 146, 3) := by decide +kernel
theorem dX10_about_31 : decode cX10_about 31 = .ok (.aload_n 0, 1) := by decide +kernel
theorem dX10_about_32 : decode cX10_about 32 = .ok (.getfield 146, 3) := by decide +kernel
theorem dX10_about_35 : decode cX10_about 35 = .ok (.ifCond .le 5, 3) := by decide +kernel
theorem dX10_about_38 : decode cX10_about 38 = .ok (.iconst 0, 1) := by decide +kernel
theorem dX10_about_39 : decode cX10_about 39 = .ok (.ireturn, 1) := by decide +kernel
theorem dX10_about_40 : decode cX10_about 40 = .ok (.bipush 6, 2) := by decide +kernel
theorem dX10_about_42 : decode cX10_about 42 = .ok (.iload_n 1, 1) := by decide +kernel
theorem dX10_about_43 : decode cX10_about 43 = .ok (.imul, 1) := by decide +kernel
theorem dX10_about_44 : decode cX10_about 44 = .ok (.iload_n 2, 1) := by decide +kernel
theorem dX10_about_45 : decode cX10_about 45 = .ok (.iadd, 1) := by decide +kernel
theorem dX10_about_46 : decode cX10_about 46 = .ok (.istore 4, 2) := by decide +kernel
theorem dX10_about_48 : decode cX10_about 48 = .ok (.iload_n 3, 1) := by decide +kernel
theorem dX10_about_49 : decode cX10_about 49 = .ok (.tableswitch 119 0 7 #[47, 63, 71, 79, 87, 95, 103, 111], 47) := by decide +kernel
theorem dX10_about_96 : decode cX10_about 96 = .ok (.aload_n 0, 1) := by decide +kernel
theorem dX10_about_97 : decode cX10_about 97 = .ok (.getfield 13, 3) := by decide +kernel
theorem dX10_about_100 : decode cX10_about 100 = .ok (.iload 4, 2) := by decide +kernel
theorem dX10_about_102 : decode cX10_about 102 = .ok (.baload, 1) := by decide +kernel
theorem dX10_about_103 : decode cX10_about 103 = .ok (.ifCond .eq 7, 3) := by decide +kernel
theorem dX10_about_106 : decode cX10_about 106 = .ok (.iconst 1, 1) := by decide +kernel
theorem dX10_about_107 : decode cX10_about 107 = .ok (.goto 4, 3) := by decide +kernel
theorem dX10_about_110 : decode cX10_about 110 = .ok (.iconst 0, 1) := by decide +kernel
theorem dX10_about_111 : decode cX10_about 111 = .ok (.ireturn, 1) := by decide +kernel
theorem dX10_about_112 : decode cX10_about 112 = .ok (.aload_n 0, 1) := by decide +kernel
theorem dX10_about_113 : decode cX10_about 113 = .ok (.getfield 17, 3) := by decide +kernel
theorem dX10_about_116 : decode cX10_about 116 = .ok (.iload 4, 2) := by decide +kernel
theorem dX10_about_118 : decode cX10_about 118 = .ok (.iaload, 1) := by decide +kernel
theorem dX10_about_119 : decode cX10_about 119 = .ok (.ireturn, 1) := by decide +kernel
theorem dX10_about_120 : decode cX10_about 120 = .ok (.aload_n 0, 1) := by decide +kernel
theorem dX10_about_121 : decode cX10_about 121 = .ok (.getfield 20, 3) := by decide +kernel
theorem dX10_about_124 : decode cX10_about 124 = .ok (.iload 4, 2) := by decide +kernel
theorem dX10_about_126 : decode cX10_about 126 = .ok (.iaload, 1) := by decide +kernel
theorem dX10_about_127 : decode cX10_about 127 = .ok (.ireturn, 1) := by decide +kernel
theorem dX10_about_128 : decode cX10_about 128 = .ok (.aload_n 0, 1) := by decide +kernel
theorem dX10_about_129 : decode cX10_about 129 = .ok (.getfield 23, 3) := by decide +kernel
theorem dX10_about_132 : decode cX10_about 132 = .ok (.iload 4, 2) := by decide +kernel
theorem dX10_about_134 : decode cX10_about 134 = .ok (.iaload, 1) := by decide +kernel
theorem dX10_about_135 : decode cX10_about 135 = .ok (.ireturn, 1) := by decide +kernel
theorem dX10_about_136 : decode cX10_about 136 = .ok (.aload_n 0, 1) := by decide +kernel
theorem dX10_about_137 : decode cX10_about 137 = .ok (.getfield 29, 3) := by decide +kernel
theorem dX10_about_140 : decode cX10_about 140 = .ok (.iload 4, 2) := by decide +kernel
theorem dX10_about_142 : decode cX10_about 142 = .ok (.iaload, 1) := by decide +kernel
theorem dX10_about_143 : decode cX10_about 143 = .ok (.ireturn, 1) := by decide +kernel
theorem dX10_about_144 : decode cX10_about 144 = .ok (.aload_n 0, 1) := by decide +kernel
theorem dX10_about_145 : decode cX10_about 145 = .ok (.getfield 32, 3) := by decide +kernel
theorem dX10_about_148 : decode cX10_about 148 = .ok (.iload 4, 2) := by decide +kernel
theorem dX10_about_150 : decode cX10_about 150 = .ok (.iaload, 1) := by decide +kernel
theorem dX10_about_151 : decode cX10_about 151 = .ok (.ireturn, 1) := by decide +kernel
theorem dX10_about_152 : decode cX10_about 152 = .ok (.aload_n 0, 1) := by decide +kernel
theorem dX10_about_153 : decode cX10_about 153 = .ok (.getfield 35, 3) := by decide +kernel
theorem dX10_about_156 : decode cX10_about 156 = .ok (.iload 4, 2) := by decide +kernel
theorem dX10_about_158 : decode cX10_about 158 = .ok (.iaload, 1) := by decide +kernel
theorem dX10_about_159 : decode cX10_about 159 = .ok (.ireturn, 1) := by decide +kernel
theorem dX10_about_160 : decode cX10_about 160 = .ok (.aload_n 0, 1) := by decide +kernel
theorem dX10_about_161 : decode cX10_about 161 = .ok (.getfield 41, 3) := by decide +kernel
theorem dX10_about_164 : decode cX10_about 164 = .ok (.iload 4, 2) := by decide +kernel
theorem dX10_about_166 : decode cX10_about 166 = .ok (.iaload, 1) := by decide +kernel
theorem dX10_about_167 : decode cX10_about 167 = .ok (.ireturn, 1) := by decide +kernel
theorem dX10_about_168 : decode cX10_about 168 = .ok (.aload_n 0, 1) := by decide +kernel
theorem dX10_about_169 : decode cX10_about 169 = .ok (.iload 4, 2) := by decide +kernel
theorem dX10_about_171 : decode cX10_about 171 = .ok (.iload_n 3, 1) := by decide +kernel
theorem dX10_about_172 : decode cX10_about 172 = .ok (.invokevirtual 244, 3) := by decide +kernel
theorem dX10_about_175 : decode cX10_about 175 = .ok (.ireturn, 1) := by decide +kernel
theorem dX10_aboutSpurt_0 : decode cX10_aboutSpurt 0 = .ok (.iload_n 2, 1) := by decide +kernel
theorem dX10_aboutSpurt_1 : decode cX10_aboutSpurt 1 = .ok (.tableswitch 89 8 13 #[39, 46, 61, 68, 75, 82], 39) := by decide +kernel
theorem dX10_aboutSpurt_40 : decode cX10_aboutSpurt 40 = .ok (.aload_n 0, 1) := by decide +kernel
theorem dX10_aboutSpurt_41 : decode cX10_aboutSpurt 41 = .ok (.getfield 44, 3) := by decide +kernel
theorem dX10_aboutSpurt_44 : decode cX10_aboutSpurt 44 = .ok (.iload_n 1, 1) := by decide +kernel
theorem dX10_aboutSpurt_45 : decode cX10_aboutSpurt 45 = .ok (.iaload, 1) := by decide +kernel
theorem dX10_aboutSpurt_46 : decode cX10_aboutSpurt 46 = .ok (.ireturn, 1) := by decide +kernel
theorem dX10_aboutSpurt_47 : decode cX10_aboutSpurt 47 = .ok (.aload_n 0, 1) := by decide +kernel
theorem dX10_aboutSpurt_48 : decode cX10_aboutSpurt 48 = .ok (.getfield 47, 3) := by decide +kernel
theorem dX10_aboutSpurt_51 : decode cX10_aboutSpurt 51 = .ok (.iload_n 1, 1) := by decide +kernel
theorem dX10_aboutSpurt_52 : decode cX10_aboutSpurt 52 = .ok (.baload, 1) := by decide +kernel
theorem dX10_aboutSpurt_53 : decode cX10_aboutSpurt 53 = .ok (.ifCond .eq 7, 3) := by decide +kernel
theorem dX10_aboutSpurt_56 : decode cX10_aboutSpurt 56 = .ok (.iconst 1, 1) := by decide +kernel
theorem dX10_aboutSpurt_57 : decode cX10_aboutSpurt 57 = .ok (.goto 4, 3) := by decide +kernel
theorem dX10_aboutSpurt_60 : decode cX10_aboutSpurt 60 = .ok (.iconst 0, 1) := by decide +kernel
theorem dX10_aboutSpurt_61 : decode cX10_aboutSpurt 61 = .ok (.ireturn, 1) := by decide +kernel
theorem dX10_aboutSpurt_62 : decode cX10_aboutSpurt 62 = .ok (.aload_n 0, 1) := by decide +kernel
theorem dX10_aboutSpurt_63 : decode cX10_aboutSpurt 63 = .ok (.getfield 50, 3) := by decide +kernel
theorem dX10_aboutSpurt_66 : decode cX10_aboutSpurt 66 = .ok (.iload_n 1, 1) := by decide +kernel
theorem dX10_aboutSpurt_67 : decode cX10_aboutSpurt 67 = .ok (.iaload, 1) := by decide +kernel
theorem dX10_aboutSpurt_68 : decode cX10_aboutSpurt 68 = .ok (.ireturn, 1) := by decide +kernel
theorem dX10_aboutSpurt_69 : decode cX10_aboutSpurt 69 = .ok (.aload_n 0, 1) := by decide +kernel
theorem dX10_aboutSpurt_70 : decode cX10_aboutSpurt 70 = .ok (.getfield 59, 3) := by decide +kernel
theorem dX10_aboutSpurt_73 : decode cX10_aboutSpurt 73 = .ok (.iload_n 1, 1) := by decide +kernel
theorem dX10_aboutSpurt_74 : decode cX10_aboutSpurt 74 = .ok (.iaload, 1) := by decide +kernel
theorem dX10_aboutSpurt_75 : decode cX10_aboutSpurt 75 = .ok (.ireturn, 1) := by decide +kernel
theorem dX10_aboutSpurt_76 : decode cX10_aboutSpurt 76 = .ok (.aload_n 0, 1) := by decide +kernel
theorem dX10_aboutSpurt_77 : decode cX10_aboutSpurt 77 = .ok (.getfield 62, 3) := by decide +kernel
theorem dX10_aboutSpurt_80 : decode cX10_aboutSpurt 80 = .ok (.iload_n 1, 1) := by decide +kernel
theorem dX10_aboutSpurt_81 : decode cX10_aboutSpurt 81 = .ok (.iaload, 1) := by decide +kernel
theorem dX10_aboutSpurt_82 : decode cX10_aboutSpurt 82 = .ok (.ireturn, 1) := by decide +kernel
theorem dX10_aboutSpurt_83 : decode cX10_aboutSpurt 83 = .ok (.aload_n 0, 1) := by decide +kernel
theorem dX10_aboutSpurt_84 : decode cX10_aboutSpurt 84 = .ok (.getfield 65, 3) := by decide +kernel
theorem dX10_aboutSpurt_87 : decode cX10_aboutSpurt 87 = .ok (.iload_n 1, 1) := by decide +kernel
theorem dX10_aboutSpurt_88 : decode cX10_aboutSpurt 88 = .ok (.iaload, 1) := by decide +kernel
theorem dX10_aboutSpurt_89 : decode cX10_aboutSpurt 89 = .ok (.ireturn, 1) := by decide +kernel
theorem dX10_aboutSpurt_90 : decode cX10_aboutSpurt 90 = .ok (.aload_n 0, 1) := by decide +kernel
theorem dX10_aboutSpurt_91 : decode cX10_aboutSpurt 91 = .ok (.getfield 68, 3) := by decide +kernel
theorem dX10_aboutSpurt_94 : decode cX10_aboutSpurt 94 = .ok (.iload_n 1, 1) := by decide +kernel
theorem dX10_aboutSpurt_95 : decode cX10_aboutSpurt 95 = .ok (.iaload, 1) := by decide +kernel
theorem dX10_aboutSpurt_96 : decode cX10_aboutSpurt 96 = .ok (.ireturn, 1) := by decide +kernel
theorem dX10_lost_0 : decode cX10_lost 0 = .ok (.aload_n 0, 1) := by decide +kernel
theorem dX10_lost_1 : decode cX10_lost 1 = .ok (.iconst 0, 1) := by decide +kernel
theorem dX10_lost_2 : decode cX10_lost 2 = .ok (.putfield 146, 3) := by decide +kernel
theorem dX10_lost_5 : decode cX10_lost 5 = .ok (.aload_n 0, 1) := by decide +kernel
theorem dX10_lost_6 : decode cX10_lost 6 = .ok (.getfield 157, 3) := by decide +kernel
theorem dX10_lost_9 : decode cX10_lost 9 = .ok (.ireturn, 1) := by decide +kernel
