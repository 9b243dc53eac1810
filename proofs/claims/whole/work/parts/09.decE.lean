theorem dX10_listen_53 : decode cX10_listen 53 = .ok (.bipush 64, 2) := by decide +kernel
theorem dX10_listen_55 : decode cX10_listen 55 = .ok (.if_icmp .ge 22, 3) := by decide +kernel
theorem dX10_listen_58 : decode cX10_listen 58 = .ok (.aload_n 0, 1) := by decide +kernel
theorem dX10_listen_59 : decode cX10_listen 59 = .ok (.getfield 71, 3) := by decide +kernel
theorem dX10_listen_62 : decode cX10_listen 62 = .ok (.bipush 64, 2) := by decide +kernel
theorem dX10_listen_64 : decode cX10_listen 64 = .ok (.iload_n 1, 1) := by decide +kernel
theorem dX10_listen_65 : decode cX10_listen 65 = .ok (.imul, 1) := by decide +kernel
theorem dX10_listen_66 : decode cX10_listen 66 = .ok (.iload 5, 2) := by decide +kernel
theorem dX10_listen_68 : decode cX10_listen 68 = .ok (.iadd, 1) := by decide +kernel
theorem dX10_listen_69 : decode cX10_listen 69 = .ok (.iconst 0, 1) := by decide +kernel
theorem dX10_listen_70 : decode cX10_listen 70 = .ok (.bastore, 1) := by decide +kernel
theorem dX10_listen_71 : decode cX10_listen 71 = .ok (.iinc 5 1, 3) := by decide +kernel
theorem dX10_listen_74 : decode cX10_listen 74 = .ok (.goto (-23), 3) := by decide +kernel
theorem dX10_listen_77 : decode cX10_listen 77 = .ok (.iload_n 2, 1) := by decide +kernel
theorem dX10_listen_78 : decode cX10_listen 78 = .ok (.aload_n 0, 1) := by decide +kernel
theorem dX10_listen_79 : decode cX10_listen 79 = .ok (.getfield 44, 3) := by decide +kernel
theorem dX10_listen_82 : decode cX10_listen 82 = .ok (.iload_n 1, 1) := by decide +kernel
theorem dX10_listen_83 : decode cX10_listen 83 = .ok (.iaload, 1) := by decide +kernel
theorem dX10_listen_84 : decode cX10_listen 84 = .ok (.if_icmp .ne 47, 3) := by decide +kernel
theorem dX10_listen_87 : decode cX10_listen 87 = .ok (.aload_n 0, 1) := by decide +kernel
theorem dX10_listen_88 : decode cX10_listen 88 = .ok (.getfield 47, 3) := by decide +kernel
theorem dX10_listen_91 : decode cX10_listen 91 = .ok (.iload_n 1, 1) := by decide +kernel
theorem dX10_listen_92 : decode cX10_listen 92 = .ok (.baload, 1) := by decide +kernel
theorem dX10_listen_93 : decode cX10_listen 93 = .ok (.ifCond .eq 38, 3) := by decide +kernel
theorem dX10_listen_96 : decode cX10_listen 96 = .ok (.iload_n 3, 1) := by decide +kernel
theorem dX10_listen_97 : decode cX10_listen 97 = .ok (.aload_n 0, 1) := by decide +kernel
theorem dX10_listen_98 : decode cX10_listen 98 = .ok (.getfield 50, 3) := by decide +kernel
theorem dX10_listen_101 : decode cX10_listen 101 = .ok (.iload_n 1, 1) := by decide +kernel
theorem dX10_listen_102 : decode cX10_listen 102 = .ok (.iaload, 1) := by decide +kernel
theorem dX10_listen_103 : decode cX10_listen 103 = .ok (.isub, 1) := by decide +kernel
theorem dX10_listen_104 : decode cX10_listen 104 = .ok (.iconst 0, 1) := by decide +kernel
theorem dX10_listen_105 : decode cX10_listen 105 = .ok (.bipush 15, 2) := by decide +kernel
theorem dX10_listen_107 : decode cX10_listen 107 = .ok (.invokestatic 150, 3) := by decide +kernel
theorem dX10_listen_110 : decode cX10_listen 110 = .ok (.ifCond .eq 21, 3) := by decide +kernel
theorem dX10_listen_113 : decode cX10_listen 113 = .ok (.aload_n 0, 1) := by decide +kernel
theorem dX10_listen_114 : decode cX10_listen 114 = .ok (.getfield 71, 3) := by decide +kernel
theorem dX10_listen_117 : decode cX10_listen 117 = .ok (.bipush 64, 2) := by decide +kernel
theorem dX10_listen_119 : decode cX10_listen 119 = .ok (.iload_n 1, 1) := by decide +kernel
theorem dX10_listen_120 : decode cX10_listen 120 = .ok (.imul, 1) := by decide +kernel
theorem dX10_listen_121 : decode cX10_listen 121 = .ok (.iload_n 3, 1) := by decide +kernel
theorem dX10_listen_122 : decode cX10_listen 122 = .ok (.iadd, 1) := by decide +kernel
theorem dX10_listen_123 : decode cX10_listen 123 = .ok (.baload, 1) := by decide +kernel
theorem dX10_listen_124 : decode cX10_listen 124 = .ok (.ifCond .ne 7, 3) := by decide +kernel
theorem dX10_listen_127 : decode cX10_listen 127 = .ok (.iconst 1, 1) := by decide +kernel
theorem dX10_listen_128 : decode cX10_listen 128 = .ok (.goto 4, 3) := by decide +kernel
theorem dX10_listen_131 : decode cX10_listen 131 = .ok (.iconst 0, 1) := by decide +kernel
theorem dX10_listen_132 : decode cX10_listen 132 = .ok (.istore 5, 2) := by decide +kernel
theorem dX10_listen_134 : decode cX10_listen 134 = .ok (.iload 5, 2) := by decide +kernel
theorem dX10_listen_136 : decode cX10_listen 136 = .ok (.ifCond .eq 31, 3) := by decide +kernel
theorem dX10_listen_139 : decode cX10_listen 139 = .ok (.aload_n 0, 1) := by decide +kernel
theorem dX10_listen_140 : decode cX10_listen 140 = .ok (.getfield 71, 3) := by decide +kernel
theorem dX10_listen_143 : decode cX10_listen 143 = .ok (.bipush 64, 2) := by decide +kernel
theorem dX10_listen_145 : decode cX10_listen 145 = .ok (.iload_n 1, 1) := by decide +kernel
theorem dX10_listen_146 : decode cX10_listen 146 = .ok (.imul, 1) := by decide +kernel
theorem dX10_listen_147 : decode cX10_listen 147 = .ok (.iload_n 3, 1) := by decide +kernel
theorem dX10_listen_148 : decode cX10_listen 148 = .ok (.iadd, 1) := by decide +kernel
theorem dX10_listen_149 : decode cX10_listen 149 = .ok (.iconst 1, 1) := by decide +kernel
theorem dX10_listen_150 : decode cX10_listen 150 = .ok (.bastore, 1) := by decide +kernel
theorem dX10_listen_151 : decode cX10_listen 151 = .ok (.aload_n 0, 1) := by decide +kernel
theorem dX10_listen_152 : decode cX10_listen 152 = .ok (.getfield 74, 3) := by decide +kernel
theorem dX10_listen_155 : decode cX10_listen 155 = .ok (.bipush 64, 2) := by decide +kernel
theorem dX10_listen_157 : decode cX10_listen 157 = .ok (.iload_n 1, 1) := by decide +kernel
theorem dX10_listen_158 : decode cX10_listen 158 = .ok (.imul, 1) := by decide +kernel
theorem dX10_listen_159 : decode cX10_listen 159 = .ok (.iload_n 3, 1) := by decide +kernel
theorem dX10_listen_160 : decode cX10_listen 160 = .ok (.iadd, 1) := by decide +kernel
theorem dX10_listen_161 : decode cX10_listen 161 = .ok (.iload 4, 2) := by decide +kernel
theorem dX10_listen_163 : decode cX10_listen 163 = .ok (.iastore, 1) := by decide +kernel
theorem dX10_listen_164 : decode cX10_listen 164 = .ok (.goto 13, 3) := by decide +kernel
theorem dX10_listen_167 : decode cX10_listen 167 = .ok (.aload_n 0, 1) := by decide +kernel
theorem dX10_listen_168 : decode cX10_listen 168 = .ok (.getfield 65, 3) := by decide +kernel
theorem dX10_listen_171 : decode cX10_listen 171 = .ok (.iload_n 1, 1) := by decide +kernel
theorem dX10_listen_172 : decode cX10_listen 172 = .ok (.dup2, 1) := by decide +kernel
theorem dX10_listen_173 : decode cX10_listen 173 = .ok (.iaload, 1) := by decide +kernel
theorem dX10_listen_174 : decode cX10_listen 174 = .ok (.iconst 1, 1) := by decide +kernel
theorem dX10_listen_175 : decode cX10_listen 175 = .ok (.iadd, 1) := by decide +kernel
theorem dX10_listen_176 : decode cX10_listen 176 = .ok (.iastore, 1) := by decide +kernel
theorem dX10_listen_177 : decode cX10_listen 177 = .ok (.return_, 1) := by decide +kernel
theorem dX10_play_0 : decode cX10_play 0 = .ok (.aload_n 0, 1) := by decide +kernel
theorem dX10_play_1 : decode cX10_play 1 = .ok (.getfield 13, 3) := by decide +kernel
theorem dX10_play_4 : decode cX10_play 4 = .ok (.iload_n 1, 1) := by decide +kernel
theorem dX10_play_5 : decode cX10_play 5 = .ok (.baload, 1) := by decide +kernel
theorem dX10_play_6 : decode cX10_play 6 = .ok (.ifCond .eq 27, 3) := by decide +kernel
theorem dX10_play_9 : decode cX10_play 9 = .ok (.aload_n 0, 1) := by decide +kernel
theorem dX10_play_10 : decode cX10_play 10 = .ok (.getfield 47, 3) := by decide +kernel
theorem dX10_play_13 : decode cX10_play 13 = .ok (.iload_n 1, 1) := by decide +kernel
theorem dX10_play_14 : decode cX10_play 14 = .ok (.baload, 1) := by decide +kernel
theorem dX10_play_15 : decode cX10_play 15 = .ok (.ifCond .eq 18, 3) := by decide +kernel
theorem dX10_play_18 : decode cX10_play 18 = .ok (.aload_n 0, 1) := by decide +kernel
theorem dX10_play_19 : decode cX10_play 19 = .ok (.getfield 179, 3) := by decide +kernel
theorem dX10_play_22 : decode cX10_play 22 = .ok (.aload_n 0, 1) := by decide +kernel
theorem dX10_play_23 : decode cX10_play 23 = .ok (.getfield 53, 3) := by decide +kernel
theorem dX10_play_26 : decode cX10_play 26 = .ok (.iload_n 1, 1) := by decide +kernel
theorem dX10_play_27 : decode cX10_play 27 = .ok (.iaload, 1) := by decide +kernel
theorem dX10_play_28 : decode cX10_play 28 = .ok (.isub, 1) := by decide +kernel
theorem dX10_play_29 : decode cX10_play 29 = .ok (.iconst 2, 1) := by decide +kernel
theorem dX10_play_30 : decode cX10_play 30 = .ok (.if_icmp .ge 4, 3) := by decide +kernel
theorem dX10_play_33 : decode cX10_play 33 = .ok (.return_, 1) := by decide +kernel
theorem dX10_play_34 : decode cX10_play 34 = .ok (.aload_n 0, 1) := by decide +kernel
theorem dX10_play_35 : decode cX10_play 35 = .ok (.getfield 50, 3) := by decide +kernel
theorem dX10_play_38 : decode cX10_play 38 = .ok (.iload_n 1, 1) := by decide +kernel
theorem dX10_play_39 : decode cX10_play 39 = .ok (.iaload, 1) := by decide +kernel
theorem dX10_play_40 : decode cX10_play 40 = .ok (.bipush 64, 2) := by decide +kernel
theorem dX10_play_42 : decode cX10_play 42 = .ok (.if_icmp .ge 26, 3) := by decide +kernel
theorem dX10_play_45 : decode cX10_play 45 = .ok (.aload_n 0, 1) := by decide +kernel
theorem dX10_play_46 : decode cX10_play 46 = .ok (.getfield 71, 3) := by decide +kernel
theorem dX10_play_49 : decode cX10_play 49 = .ok (.bipush 64, 2) := by decide +kernel
theorem dX10_play_51 : decode cX10_play 51 = .ok (.iload_n 1, 1) := by decide +kernel
theorem dX10_play_52 : decode cX10_play 52 = .ok (.imul, 1) := by decide +kernel
theorem dX10_play_53 : decode cX10_play 53 = .ok (.aload_n 0, 1) := by decide +kernel
theorem dX10_play_54 : decode cX10_play 54 = .ok (.getfield 50, 3) := by decide +kernel
theorem dX10_play_57 : decode cX10_play 57 = .ok (.iload_n 1, 1) := by decide +kernel
theorem dX10_play_58 : decode cX10_play 58 = .ok (.iaload, 1) := by decide +kernel
theorem dX10_play_59 : decode cX10_play 59 = .ok (.iadd, 1) := by decide +kernel
theorem dX10_play_60 : decode cX10_play 60 = .ok (.baload, 1) := by decide +kernel
theorem dX10_play_61 : decode cX10_play 61 = .ok (.ifCond .eq 7, 3) := by decide +kernel
theorem dX10_play_64 : decode cX10_play 64 = .ok (.iconst 1, 1) := by decide +kernel
theorem dX10_play_65 : decode cX10_play 65 = .ok (.goto 4, 3) := by decide +kernel
theorem dX10_play_68 : decode cX10_play 68 = .ok (.iconst 0, 1) := by decide +kernel
theorem dX10_play_69 : decode cX10_play 69 = .ok (.istore_n 2, 1) := by decide +kernel
theorem dX10_play_70 : decode cX10_play 70 = .ok (.iload_n 2, 1) := by decide +kernel
theorem dX10_play_71 : decode cX10_play 71 = .ok (.ifCond .eq 22, 3) := by decide +kernel
theorem dX10_play_74 : decode cX10_play 74 = .ok (.aload_n 0, 1) := by decide +kernel
theorem dX10_play_75 : decode cX10_play 75 = .ok (.getfield 74, 3) := by decide +kernel
theorem dX10_play_78 : decode cX10_play 78 = .ok (.bipush 64, 2) := by decide +kernel
theorem dX10_play_80 : decode cX10_play 80 = .ok (.iload_n 1, 1) := by decide +kernel
theorem dX10_play_81 : decode cX10_play 81 = .ok (.imul, 1) := by decide +kernel
theorem dX10_play_82 : decode cX10_play 82 = .ok (.aload_n 0, 1) := by decide +kernel
theorem dX10_play_83 : decode cX10_play 83 = .ok (.getfield 50, 3) := by decide +kernel
theorem dX10_play_86 : decode cX10_play 86 = .ok (.iload_n 1, 1) := by decide +kernel
theorem dX10_play_87 : decode cX10_play 87 = .ok (.iaload, 1) := by decide +kernel
theorem dX10_play_88 : decode cX10_play 88 = .ok (.iadd, 1) := by decide +kernel
theorem dX10_play_89 : decode cX10_play 89 = .ok (.iaload, 1) := by decide +kernel
theorem dX10_play_90 : decode cX10_play 90 = .ok (.goto 4, 3) := by decide +kernel
theorem dX10_play_93 : decode cX10_play 93 = .ok (.iconst (-1), 1) := by decide +kernel
theorem dX10_play_94 : decode cX10_play 94 = .ok (.istore_n 3, 1) := by decide +kernel
theorem dX10_play_95 : decode cX10_play 95 = .ok (.aload_n 0, 1) := by decide +kernel
theorem dX10_play_96 : decode cX10_play 96 = .ok (.getfield 68, 3) := by decide +kernel
theorem dX10_play_99 : decode cX10_play 99 = .ok (.iload_n 1, 1) := by decide +kernel
theorem dX10_play_100 : decode cX10_play 100 = .ok (.aload_n 0, 1) := by decide +kernel
theorem dX10_play_101 : decode cX10_play 101 = .ok (.getfield 68, 3) := by decide +kernel
theorem dX10_play_104 : decode cX10_play 104 = .ok (.iload_n 1, 1) := by decide +kernel
theorem dX10_play_105 : decode cX10_play 105 = .ok (.iaload, 1) := by decide +kernel
theorem dX10_play_106 : decode cX10_play 106 = .ok (.bipush 31, 2) := by decide +kernel
theorem dX10_play_108 : decode cX10_play 108 = .ok (.imul, 1) := by decide +kernel
theorem dX10_play_109 : decode cX10_play 109 = .ok (.iload_n 3, 1) := by decide +kernel
theorem dX10_play_110 : decode cX10_play 110 = .ok (.iadd, 1) := by decide +kernel
theorem dX10_play_111 : decode cX10_play 111 = .ok (.iastore, 1) := by decide +kernel
theorem dX10_play_112 : decode cX10_play 112 = .ok (.iload_n 2, 1) := by decide +kernel
theorem dX10_play_113 : decode cX10_play 113 = .ok (.ifCond .eq 23, 3) := by decide +kernel
theorem dX10_play_116 : decode cX10_play 116 = .ok (.aload_n 0, 1) := by decide +kernel
theorem dX10_play_117 : decode cX10_play 117 = .ok (.getfield 59, 3) := by decide +kernel
theorem dX10_play_120 : decode cX10_play 120 = .ok (.iload_n 1, 1) := by decide +kernel
theorem dX10_play_121 : decode cX10_play 121 = .ok (.dup2, 1) := by decide +kernel
theorem dX10_play_122 : decode cX10_play 122 = .ok (.iaload, 1) := by decide +kernel
theorem dX10_play_123 : decode cX10_play 123 = .ok (.iconst 1, 1) := by decide +kernel
theorem dX10_play_124 : decode cX10_play 124 = .ok (.iadd, 1) := by decide +kernel
theorem dX10_play_125 : decode cX10_play 125 = .ok (.iastore, 1) := by decide +kernel
theorem dX10_play_126 : decode cX10_play 126 = .ok (.aload_n 0, 1) := by decide +kernel
theorem dX10_play_127 : decode cX10_play 127 = .ok (.getfield 56, 3) := by decide +kernel
theorem dX10_play_130 : decode cX10_play 130 = .ok (.iload_n 1, 1) := by decide +kernel
theorem dX10_play_131 : decode cX10_play 131 = .ok (.iconst 0, 1) := by decide +kernel
theorem dX10_play_132 : decode cX10_play 132 = .ok (.iastore, 1) := by decide +kernel
theorem dX10_play_133 : decode cX10_play 133 = .ok (.goto 23, 3) := by decide +kernel
theorem dX10_play_136 : decode cX10_play 136 = .ok (.aload_n 0, 1) := by decide +kernel
theorem dX10_play_137 : decode cX10_play 137 = .ok (.getfield 62, 3) := by decide +kernel
theorem dX10_play_140 : decode cX10_play 140 = .ok (.iload_n 1, 1) := by decide +kernel
theorem dX10_play_141 : decode cX10_play 141 = .ok (.dup2, 1) := by decide +kernel
theorem dX10_play_142 : decode cX10_play 142 = .ok (.iaload, 1) := by decide +kernel
theorem dX10_play_143 : decode cX10_play 143 = .ok (.iconst 1, 1) := by decide +kernel
theorem dX10_play_144 : decode cX10_play 144 = .ok (.iadd, 1) := by decide +kernel
theorem dX10_play_145 : decode cX10_play 145 = .ok (.iastore, 1) := by decide +kernel
theorem dX10_play_146 : decode cX10_play 146 = .ok (.aload_n 0, 1) := by decide +kernel
theorem dX10_play_147 : decode cX10_play 147 = .ok (.getfield 56, 3) := by decide +kernel
theorem dX10_play_150 : decode cX10_play 150 = .ok (.iload_n 1, 1) := by decide +kernel
theorem dX10_play_151 : decode cX10_play 151 = .ok (.dup2, 1) := by decide +kernel
theorem dX10_play_152 : decode cX10_play 152 = .ok (.iaload, 1) := by decide +kernel
theorem dX10_play_153 : decode cX10_play 153 = .ok (.iconst 1, 1) := by decide +kernel
theorem dX10_play_154 : decode cX10_play 154 = .ok (.iadd, 1) := by decide +kernel
theorem dX10_play_155 : decode cX10_play 155 = .ok (.iastore, 1) := by decide +kernel
theorem dX10_play_156 : decode cX10_play 156 = .ok (.aload_n 0, 1) := by decide +kernel
theorem dX10_play_157 : decode cX10_play 157 = .ok (.getfield 50, 3) := by decide +kernel
theorem dX10_play_160 : decode cX10_play 160 = .ok (.iload_n 1, 1) := by decide +kernel
theorem dX10_play_161 : decode cX10_play 161 = .ok (.dup2, 1) := by decide +kernel
theorem dX10_play_162 : decode cX10_play 162 = .ok (.iaload, 1) := by decide +kernel
theorem dX10_play_163 : decode cX10_play 163 = .ok (.iconst 1, 1) := by decide +kernel
theorem dX10_play_164 : decode cX10_play 164 = .ok (.iadd, 1) := by decide +kernel
theorem dX10_play_165 : decode cX10_play 165 = .ok (.iastore, 1) := by decide +kernel
theorem dX10_play_166 : decode cX10_play 166 = .ok (.aload_n 0, 1) := by decide +kernel
theorem dX10_play_167 : decode cX10_play 167 = .ok (.getfield 47, 3) := by decide +kernel
theorem dX10_play_170 : decode cX10_play 170 = .ok (.iload_n 1, 1) := by decide +kernel
theorem dX10_play_171 : decode cX10_play 171 = .ok (.aload_n 0, 1) := by decide +kernel
theorem dX10_play_172 : decode cX10_play 172 = .ok (.getfield 56, 3) := by decide +kernel
theorem dX10_play_175 : decode cX10_play 175 = .ok (.iload_n 1, 1) := by decide +kernel
theorem dX10_play_176 : decode cX10_play 176 = .ok (.iaload, 1) := by decide +kernel
theorem dX10_play_177 : decode cX10_play 177 = .ok (.iconst 4, 1) := by decide +kernel
theorem dX10_play_178 : decode cX10_play 178 = .ok (.if_icmp .ge 7, 3) := by decide +kernel
theorem dX10_play_181 : decode cX10_play 181 = .ok (.iconst 1, 1) := by decide +kernel
theorem dX10_play_182 : decode cX10_play 182 = .ok (.goto 4, 3) := by decide +kernel
theorem dX10_play_185 : decode cX10_play 185 = .ok (.iconst 0, 1) := by decide +kernel
theorem dX10_play_186 : decode cX10_play 186 = .ok (.bastore, 1) := by decide +kernel
theorem dX10_play_187 : decode cX10_play 187 = .ok (.return_, 1) := by decide +kernel
theorem dX10_above_0 : decode cX10_above 0 = .ok (.aload_n 0, 1) := by decide +kernel
theorem dX10_above_1 : decode cX10_above 1 = .ok (.getfield 122, 3) := by decide +kernel
theorem dX10_above_4 : decode cX10_above 4 = .ok (.iload_n 1, 1) := by decide +kernel
theorem dX10_above_5 : decode cX10_above 5 = .ok (.baload, 1) := by decide +kernel
theorem dX10_above_6 : decode cX10_above 6 = .ok (.aload_n 0, 1) := by decide +kernel
theorem dX10_above_7 : decode cX10_above 7 = .ok (.getfield 122, 3) := by decide +kernel
theorem dX10_above_10 : decode cX10_above 10 = .ok (.iload_n 2, 1) := by decide +kernel
theorem dX10_above_11 : decode cX10_above 11 = .ok (.baload, 1) := by decide +kernel
theorem dX10_above_12 : decode cX10_above 12 = .ok (.if_icmp .eq 18, 3) := by decide +kernel
theorem dX10_above_15 : decode cX10_above 15 = .ok (.aload_n 0, 1) := by decide +kernel
theorem dX10_above_16 : decode cX10_above 16 = .ok (.getfield 122, 3) := by decide +kernel
theorem dX10_above_19 : decode cX10_above 19 = .ok (.iload_n 1, 1) := by decide +kernel
theorem dX10_above_20 : decode cX10_above 20 = .ok (.baload, 1) := by decide +kernel
theorem dX10_above_21 : decode cX10_above 21 = .ok (.ifCond .eq 7, 3) := by decide +kernel
theorem dX10_above_24 : decode cX10_above 24 = .ok (.iconst 1, 1) := by decide +kernel
theorem dX10_above_25 : decode cX10_above 25 = .ok (.goto 4, 3) := by decide +kernel
theorem dX10_above_28 : decode cX10_above 28 = .ok (.iconst (-1), 1) := by decide +kernel
theorem dX10_above_29 : decode cX10_above 29 = .ok (.ireturn, 1) := by decide +kernel
theorem dX10_above_30 : decode cX10_above 30 = .ok (.aload_n 0, 1) := by decide +kernel
theorem dX10_above_31 : decode cX10_above 31 = .ok (.getfield 125, 3) := by decide +kernel
theorem dX10_above_34 : decode cX10_above 34 = .ok (.iload_n 1, 1) := by decide +kernel
theorem dX10_above_35 : decode cX10_above 35 = .ok (.iaload, 1) := by decide +kernel
theorem dX10_above_36 : decode cX10_above 36 = .ok (.aload_n 0, 1) := by decide +kernel
theorem dX10_above_37 : decode cX10_above 37 = .ok (.getfield 125, 3) := by decide +kernel
theorem dX10_above_40 : decode cX10_above 40 = .ok (.iload_n 2, 1) := by decide +kernel
theorem dX10_above_41 : decode cX10_above 41 = .ok (.iaload, 1) := by decide +kernel
theorem dX10_above_42 : decode cX10_above 42 = .ok (.if_icmp .le 7, 3) := by decide +kernel
theorem dX10_above_45 : decode cX10_above 45 = .ok (.iconst 1, 1) := by decide +kernel
theorem dX10_above_46 : decode cX10_above 46 = .ok (.goto 23, 3) := by decide +kernel
theorem dX10_above_49 : decode cX10_above 49 = .ok (.aload_n 0, 1) := by decide +kernel
theorem dX10_above_50 : decode cX10_above 50 = .ok (.getfield 125, 3) := by decide +kernel
theorem dX10_above_53 : decode cX10_above 53 = .ok (.iload_n 1, 1) := by decide +kernel
theorem dX10_above_54 : decode cX10_above 54 = .ok (.iaload, 1) := by decide +kernel
theorem dX10_above_55 : decode cX10_above 55 = .ok (.aload_n 0, 1) := by decide +kernel
theorem dX10_above_56 : decode cX10_above 56 = .ok (.getfield 125, 3) := by decide +kernel
theorem dX10_above_59 : decode cX10_above 59 = .ok (.iload_n 2, 1) := by decide +kernel
theorem dX10_above_60 : decode cX10_above 60 = .ok (.iaload, 1) := by decide +kernel
theorem dX10_above_61 : decode cX10_above 61 = .ok (.if_icmp .ge 7, 3) := by decide +kernel
theorem dX10_above_64 : decode cX10_above 64 = .ok (.iconst (-1), 1) := by decide +kernel
theorem dX10_above_65 : decode cX10_above 65 = .ok (.goto 4, 3) := by decide +kernel
theorem dX10_above_68 : decode cX10_above 68 = .ok (.iconst 0, 1) := by decide +kernel
theorem dX10_above_69 : decode cX10_above 69 = .ok (.ireturn, 1) := by decide +kernel
theorem dX10_placeOf_0 : decode cX10_placeOf 0 = .ok (.iload_n 1, 1) := by decide +kernel
theorem dX10_placeOf_1 : decode cX10_placeOf 1 = .ok (.bipush 6, 2) := by decide +kernel
theorem dX10_placeOf_3 : decode cX10_placeOf 3 = .ok (.idiv, 1) := by decide +kernel
theorem dX10_placeOf_4 : decode cX10_placeOf 4 = .ok (.istore_n 2, 1) := by decide +kernel
theorem dX10_placeOf_5 : decode cX10_placeOf 5 = .ok (.iconst 0, 1) := by decide +kernel
theorem dX10_placeOf_6 : decode cX10_placeOf 6 = .ok (.istore_n 3, 1) := by decide +kernel
theorem dX10_placeOf_7 : decode cX10_placeOf 7 = .ok (.bipush 6, 2) := by decide +kernel
theorem dX10_placeOf_9 : decode cX10_placeOf 9 = .ok (.iload_n 2, 1) := by decide +kernel
theorem dX10_placeOf_10 : decode cX10_placeOf 10 = .ok (.imul, 1) := by decide +kernel
theorem dX10_placeOf_11 : decode cX10_placeOf 11 = .ok (.istore 4, 2) := by decide +kernel
theorem dX10_placeOf_13 : decode cX10_placeOf 13 = .ok (.iload 4, 2) := by decide +kernel
theorem dX10_placeOf_15 : decode cX10_placeOf 15 = .ok (.bipush 6, 2) := by decide +kernel
theorem dX10_placeOf_17 : decode cX10_placeOf 17 = .ok (.iload_n 2, 1) := by decide +kernel
theorem dX10_placeOf_18 : decode cX10_placeOf 18 = .ok (.imul, 1) := by decide +kernel
theorem dX10_placeOf_19 : decode cX10_placeOf 19 = .ok (.bipush 6, 2) := by decide +kernel
theorem dX10_placeOf_21 : decode cX10_placeOf 21 = .ok (.iadd, 1) := by decide +kernel
theorem dX10_placeOf_22 : decode cX10_placeOf 22 = .ok (.if_icmp .ge 81, 3) := by decide +kernel
theorem dX10_placeOf_25 : decode cX10_placeOf 25 = .ok (.iload 4, 2) := by decide +kernel
theorem dX10_placeOf_27 : decode cX10_placeOf 27 = .ok (.iload_n 1, 1) := by decide +kernel
theorem dX10_placeOf_28 : decode cX10_placeOf 28 = .ok (.if_icmp .eq 53, 3) := by decide +kernel
theorem dX10_placeOf_31 : decode cX10_placeOf 31 = .ok (.aload_n 0, 1) := by decide +kernel
theorem dX10_placeOf_32 : decode cX10_placeOf 32 = .ok (.getfield 128, 3) := by decide +kernel
theorem dX10_placeOf_35 : decode cX10_placeOf 35 = .ok (.iload 4, 2) := by decide +kernel
theorem dX10_placeOf_37 : decode cX10_placeOf 37 = .ok (.iaload, 1) := by decide +kernel
theorem dX10_placeOf_38 : decode cX10_placeOf 38 = .ok (.ifCond .le 43, 3) := by decide +kernel
theorem dX10_placeOf_41 : decode cX10_placeOf 41 = .ok (.aload_n 0, 1) := by decide +kernel
theorem dX10_placeOf_42 : decode cX10_placeOf 42 = .ok (.iload 4, 2) := by decide +kernel
theorem dX10_placeOf_44 : decode cX10_placeOf 44 = .ok (.iload_n 1, 1) := by decide +kernel
theorem dX10_placeOf_45 : decode cX10_placeOf 45 = .ok (.invokevirtual 182, 3) := by decide +kernel
theorem dX10_placeOf_48 : decode cX10_placeOf 48 = .ok (.ifCond .gt 29, 3) := by decide +kernel
theorem dX10_placeOf_51 : decode cX10_placeOf 51 = .ok (.aload_n 0, 1) := by decide +kernel
theorem dX10_placeOf_52 : decode cX10_placeOf 52 = .ok (.iload 4, 2) := by decide +kernel
theorem dX10_placeOf_54 : decode cX10_placeOf 54 = .ok (.iload_n 1, 1) := by decide +kernel
theorem dX10_placeOf_55 : decode cX10_placeOf 55 = .ok (.invokevirtual 182, 3) := by decide +kernel
theorem dX10_placeOf_58 : decode cX10_placeOf 58 = .ok (.ifCond .ne 23, 3) := by decide +kernel
theorem dX10_placeOf_61 : decode cX10_placeOf 61 = .ok (.aload_n 0, 1) := by decide +kernel
theorem dX10_placeOf_62 : decode cX10_placeOf 62 = .ok (.getfield 128, 3) := by decide +kernel
theorem dX10_placeOf_65 : decode cX10_placeOf 65 = .ok (.iload 4, 2) := by decide +kernel
theorem dX10_placeOf_67 : decode cX10_placeOf 67 = .ok (.iaload, 1) := by decide +kernel
theorem dX10_placeOf_68 : decode cX10_placeOf 68 = .ok (.aload_n 0, 1) := by decide +kernel
theorem dX10_placeOf_69 : decode cX10_placeOf 69 = .ok (.getfield 128, 3) := by decide +kernel
theorem dX10_placeOf_72 : decode cX10_placeOf 72 = .ok (.iload_n 1, 1) := by decide +kernel
theorem dX10_placeOf_73 : decode cX10_placeOf 73 = .ok (.iaload, 1) := by decide +kernel
theorem dX10_placeOf_74 : decode cX10_placeOf 74 = .ok (.if_icmp .ge 7, 3) := by decide +kernel
theorem dX10_placeOf_77 : decode cX10_placeOf 77 = .ok (.iconst 1, 1) := by decide +kernel
theorem dX10_placeOf_78 : decode cX10_placeOf 78 = .ok (.goto 4, 3) := by decide +kernel
theorem dX10_placeOf_81 : decode cX10_placeOf 81 = .ok (.iconst 0, 1) := by decide +kernel
theorem dX10_placeOf_82 : decode cX10_placeOf 82 = .ok (.istore 5, 2) := by decide +kernel
theorem dX10_placeOf_84 : decode cX10_placeOf 84 = .ok (.iload 5, 2) := by decide +kernel
theorem dX10_placeOf_86 : decode cX10_placeOf 86 = .ok (.ifCond .eq 9, 3) := by decide +kernel
theorem dX10_placeOf_89 : decode cX10_placeOf 89 = .ok (.iload_n 3, 1) := by decide +kernel
theorem dX10_placeOf_90 : decode cX10_placeOf 90 = .ok (.iconst 1, 1) := by decide +kernel
theorem dX10_placeOf_91 : decode cX10_placeOf 91 = .ok (.iadd, 1) := by decide +kernel
theorem dX10_placeOf_92 : decode cX10_placeOf 92 = .ok (.goto 4, 3) := by decide +kernel
theorem dX10_placeOf_95 : decode cX10_placeOf 95 = .ok (.iload_n 3, 1) := by decide +kernel
theorem dX10_placeOf_96 : decode cX10_placeOf 96 = .ok (.istore_n 3, 1) := by decide +kernel
theorem dX10_placeOf_97 : decode cX10_placeOf 97 = .ok (.iinc 4 1, 3) := by decide +kernel
theorem dX10_placeOf_100 : decode cX10_placeOf 100 = .ok (.goto (-87), 3) := by decide +kernel
theorem dX10_placeOf_103 : decode cX10_placeOf 103 = .ok (.iload_n 3, 1) := by decide +kernel
theorem dX10_placeOf_104 : decode cX10_placeOf 104 = .ok (.ireturn, 1) := by decide +kernel
theorem dX10_waitCount_0 : decode cX10_waitCount 0 = .ok (.iconst 0, 1) := by decide +kernel
theorem dX10_waitCount_1 : decode cX10_waitCount 1 = .ok (.istore_n 2, 1) := by decide +kernel
theorem dX10_waitCount_2 : decode cX10_waitCount 2 = .ok (.bipush 6, 2) := by decide +kernel
theorem dX10_waitCount_4 : decode cX10_waitCount 4 = .ok (.iload_n 1, 1) := by decide +kernel
theorem dX10_waitCount_5 : decode cX10_waitCount 5 = .ok (.imul, 1) := by decide +kernel
theorem dX10_waitCount_6 : decode cX10_waitCount 6 = .ok (.istore_n 3, 1) := by decide +kernel
theorem dX10_waitCount_7 : decode cX10_waitCount 7 = .ok (.iload_n 3, 1) := by decide +kernel
theorem dX10_waitCount_8 : decode cX10_waitCount 8 = .ok (.bipush 6, 2) := by decide +kernel
theorem dX10_waitCount_10 : decode cX10_waitCount 10 = .ok (.iload_n 1, 1) := by decide +kernel
theorem dX10_waitCount_11 : decode cX10_waitCount 11 = .ok (.imul, 1) := by decide +kernel
theorem dX10_waitCount_12 : decode cX10_waitCount 12 = .ok (.bipush 6, 2) := by decide +kernel
theorem dX10_waitCount_14 : decode cX10_waitCount 14 = .ok (.iadd, 1) := by decide +kernel
theorem dX10_waitCount_15 : decode cX10_waitCount 15 = .ok (.if_icmp .ge 26, 3) := by decide +kernel
theorem dX10_waitCount_18 : decode cX10_waitCount 18 = .ok (.aload_n 0, 1) := by decide +kernel
theorem dX10_waitCount_19 : decode cX10_waitCount 19 = .ok (.getfield 128, 3) := by decide +kernel
theorem dX10_waitCount_22 : decode cX10_waitCount 22 = .ok (.iload_n 3, 1) := by decide +kernel
theorem dX10_waitCount_23 : decode cX10_waitCount 23 = .ok (.iaload, 1) := by decide +kernel
theorem dX10_waitCount_24 : decode cX10_waitCount 24 = .ok (.ifCond .le 9, 3) := by decide +kernel
theorem dX10_waitCount_27 : decode cX10_waitCount 27 = .ok (.iload_n 2, 1) := by decide +kernel
theorem dX10_waitCount_28 : decode cX10_waitCount 28 = .ok (.iconst 1, 1) := by decide +kernel
theorem dX10_waitCount_29 : decode cX10_waitCount 29 = .ok (.iadd, 1) := by decide +kernel
theorem dX10_waitCount_30 : decode cX10_waitCount 30 = .ok (.goto 4, 3) := by decide +kernel
theorem dX10_waitCount_33 : decode cX10_waitCount 33 = .ok (.iload_n 2, 1) := by decide +kernel
theorem dX10_waitCount_34 : decode cX10_waitCount 34 = .ok (.istore_n 2, 1) := by decide +kernel
theorem dX10_waitCount_35 : decode cX10_waitCount 35 = .ok (.iinc 3 1, 3) := by decide +kernel
theorem dX10_waitCount_38 : decode cX10_waitCount 38 = .ok (.goto (-31), 3) := by decide +kernel
theorem dX10_waitCount_41 : decode cX10_waitCount 41 = .ok (.iload_n 2, 1) := by decide +kernel
theorem dX10_waitCount_42 : decode cX10_waitCount 42 = .ok (.ireturn, 1) := by decide +kernel
theorem dX10_waitsAt_0 : decode cX10_waitsAt 0 = .ok (.iconst (-1), 1) := by decide +kernel
theorem dX10_waitsAt_1 : decode cX10_waitsAt 1 = .ok (.istore_n 3, 1) := by decide +kernel
theorem dX10_waitsAt_2 : decode cX10_waitsAt 2 = .ok (.bipush 6, 2) := by decide +kernel
theorem dX10_waitsAt_4 : decode cX10_waitsAt 4 = .ok (.iload_n 1, 1) := by decide +kernel
theorem dX10_waitsAt_5 : decode cX10_waitsAt 5 = .ok (.imul, 1) := by decide +kernel
theorem dX10_waitsAt_6 : decode cX10_waitsAt 6 = .ok (.istore 4, 2) := by decide +kernel
theorem dX10_waitsAt_8 : decode cX10_waitsAt 8 = .ok (.iload 4, 2) := by decide +kernel
theorem dX10_waitsAt_10 : decode cX10_waitsAt 10 = .ok (.bipush 6, 2) := by decide +kernel
theorem dX10_waitsAt_12 : decode cX10_waitsAt 12 = .ok (.iload_n 1, 1) := by decide +kernel
theorem dX10_waitsAt_13 : decode cX10_waitsAt 13 = .ok (.imul, 1) := by decide +kernel
theorem dX10_waitsAt_14 : decode cX10_waitsAt 14 = .ok (.bipush 6, 2) := by decide +kernel
theorem dX10_waitsAt_16 : decode cX10_waitsAt 16 = .ok (.iadd, 1) := by decide +kernel
theorem dX10_waitsAt_17 : decode cX10_waitsAt 17 = .ok (.if_icmp .ge 41, 3) := by decide +kernel
theorem dX10_waitsAt_20 : decode cX10_waitsAt 20 = .ok (.aload_n 0, 1) := by decide +kernel
theorem dX10_waitsAt_21 : decode cX10_waitsAt 21 = .ok (.getfield 128, 3) := by decide +kernel
theorem dX10_waitsAt_24 : decode cX10_waitsAt 24 = .ok (.iload 4, 2) := by decide +kernel
theorem dX10_waitsAt_26 : decode cX10_waitsAt 26 = .ok (.iaload, 1) := by decide +kernel
theorem dX10_waitsAt_27 : decode cX10_waitsAt 27 = .ok (.ifCond .le 23, 3) := by decide +kernel
theorem dX10_waitsAt_30 : decode cX10_waitsAt 30 = .ok (.aload_n 0, 1) := by decide +kernel
theorem dX10_waitsAt_31 : decode cX10_waitsAt 31 = .ok (.iload 4, 2) := by decide +kernel
theorem dX10_waitsAt_33 : decode cX10_waitsAt 33 = .ok (.invokevirtual 186, 3) := by decide +kernel
theorem dX10_waitsAt_36 : decode cX10_waitsAt 36 = .ok (.iload_n 2, 1) := by decide +kernel
theorem dX10_waitsAt_37 : decode cX10_waitsAt 37 = .ok (.if_icmp .ne 13, 3) := by decide +kernel
theorem dX10_waitsAt_40 : decode cX10_waitsAt 40 = .ok (.iload 4, 2) := by decide +kernel
theorem dX10_waitsAt_42 : decode cX10_waitsAt 42 = .ok (.bipush 6, 2) := by decide +kernel
theorem dX10_waitsAt_44 : decode cX10_waitsAt 44 = .ok (.iload_n 1, 1) := by decide +kernel
theorem dX10_waitsAt_45 : decode cX10_waitsAt 45 = .ok (.imul, 1) := by decide +kernel
theorem dX10_waitsAt_46 : decode cX10_waitsAt 46 = .ok (.isub, 1) := by decide +kernel
theorem dX10_waitsAt_47 : decode cX10_waitsAt 47 = .ok (.goto 4, 3) := by decide +kernel
theorem dX10_waitsAt_50 : decode cX10_waitsAt 50 = .ok (.iload_n 3, 1) := by decide +kernel
theorem dX10_waitsAt_51 : decode cX10_waitsAt 51 = .ok (.istore_n 3, 1) := by decide +kernel
theorem dX10_waitsAt_52 : decode cX10_waitsAt 52 = .ok (.iinc 4 1, 3) := by decide +kernel
theorem dX10_waitsAt_55 : decode cX10_waitsAt 55 = .ok (.goto (-47), 3) := by decide +kernel
theorem dX10_waitsAt_58 : decode cX10_waitsAt 58 = .ok (.iload_n 3, 1) := by decide +kernel
theorem dX10_waitsAt_59 : decode cX10_waitsAt 59 = .ok (.ireturn, 1) := by decide +kernel
theorem dX10_tellTalker_0 : decode cX10_tellTalker 0 = .ok (.iconst 0, 1) := by decide +kernel
theorem dX10_tellTalker_1 : decode cX10_tellTalker 1 = .ok (.istore_n 2, 1) := by decide +kernel
theorem dX10_tellTalker_2 : decode cX10_tellTalker 2 = .ok (.iload_n 2, 1) := by decide +kernel
theorem dX10_tellTalker_3 : decode cX10_tellTalker 3 = .ok (.bipush 6, 2) := by decide +kernel
theorem dX10_tellTalker_5 : decode cX10_tellTalker 5 = .ok (.if_icmp .ge 54, 3) := by decide +kernel
theorem dX10_tellTalker_8 : decode cX10_tellTalker 8 = .ok (.aload_n 0, 1) := by decide +kernel
theorem dX10_tellTalker_9 : decode cX10_tellTalker 9 = .ok (.getfield 13, 3) := by decide +kernel
theorem dX10_tellTalker_12 : decode cX10_tellTalker 12 = .ok (.bipush 6, 2) := by decide +kernel
theorem dX10_tellTalker_14 : decode cX10_tellTalker 14 = .ok (.iload_n 1, 1) := by decide +kernel
theorem dX10_tellTalker_15 : decode cX10_tellTalker 15 = .ok (.imul, 1) := by decide +kernel
theorem dX10_tellTalker_16 : decode cX10_tellTalker 16 = .ok (.iload_n 2, 1) := by decide +kernel
theorem dX10_tellTalker_17 : decode cX10_tellTalker 17 = .ok (.iadd, 1) := by decide +kernel
theorem dX10_tellTalker_18 : decode cX10_tellTalker 18 = .ok (.baload, 1) := by decide +kernel
theorem dX10_tellTalker_19 : decode cX10_tellTalker 19 = .ok (.ifCond .eq 34, 3) := by decide +kernel
theorem dX10_tellTalker_22 : decode cX10_tellTalker 22 = .ok (.iload_n 2, 1) := by decide +kernel
theorem dX10_tellTalker_23 : decode cX10_tellTalker 23 = .ok (.aload_n 0, 1) := by decide +kernel
theorem dX10_tellTalker_24 : decode cX10_tellTalker 24 = .ok (.getfield 104, 3) := by decide +kernel
theorem dX10_tellTalker_27 : decode cX10_tellTalker 27 = .ok (.iload_n 1, 1) := by decide +kernel
theorem dX10_tellTalker_28 : decode cX10_tellTalker 28 = .ok (.iaload, 1) := by decide +kernel
theorem dX10_tellTalker_29 : decode cX10_tellTalker 29 = .ok (.if_icmp .eq 24, 3) := by decide +kernel
theorem dX10_tellTalker_32 : decode cX10_tellTalker 32 = .ok (.aload_n 0, 1) := by decide +kernel
theorem dX10_tellTalker_33 : decode cX10_tellTalker 33 = .ok (.bipush 8, 2) := by decide +kernel
theorem dX10_tellTalker_35 : decode cX10_tellTalker 35 = .ok (.iload_n 1, 1) := by decide +kernel
theorem dX10_tellTalker_36 : decode cX10_tellTalker 36 = .ok (.iload_n 2, 1) := by decide +kernel
theorem dX10_tellTalker_37 : decode cX10_tellTalker 37 = .ok (.aload_n 0, 1) := by decide +kernel
theorem dX10_tellTalker_38 : decode cX10_tellTalker 38 = .ok (.getfield 101, 3) := by decide +kernel
theorem dX10_tellTalker_41 : decode cX10_tellTalker 41 = .ok (.iload_n 1, 1) := by decide +kernel
theorem dX10_tellTalker_42 : decode cX10_tellTalker 42 = .ok (.iaload, 1) := by decide +kernel
theorem dX10_tellTalker_43 : decode cX10_tellTalker 43 = .ok (.aload_n 0, 1) := by decide +kernel
theorem dX10_tellTalker_44 : decode cX10_tellTalker 44 = .ok (.getfield 104, 3) := by decide +kernel
theorem dX10_tellTalker_47 : decode cX10_tellTalker 47 = .ok (.iload_n 1, 1) := by decide +kernel
theorem dX10_tellTalker_48 : decode cX10_tellTalker 48 = .ok (.iaload, 1) := by decide +kernel
theorem dX10_tellTalker_49 : decode cX10_tellTalker 49 = .ok (.iconst 0, 1) := by decide +kernel
theorem dX10_tellTalker_50 : decode cX10_tellTalker 50 = .ok (.invokevirtual 168, 3) := by decide +kernel
theorem dX10_tellTalker_53 : decode cX10_tellTalker 53 = .ok (.iinc 2 1, 3) := by decide +kernel
theorem dX10_tellTalker_56 : decode cX10_tellTalker 56 = .ok (.goto (-54), 3) := by decide +kernel
theorem dX10_tellTalker_59 : decode cX10_tellTalker 59 = .ok (.return_, 1) := by decide +kernel
theorem dX10_give_0 : decode cX10_give 0 = .ok (.aload_n 0, 1) := by decide +kernel
theorem dX10_give_1 : decode cX10_give 1 = .ok (.getfield 101, 3) := by decide +kernel
theorem dX10_give_4 : decode cX10_give 4 = .ok (.iload_n 1, 1) := by decide +kernel
theorem dX10_give_5 : decode cX10_give 5 = .ok (.dup2, 1) := by decide +kernel
theorem dX10_give_6 : decode cX10_give 6 = .ok (.iaload, 1) := by decide +kernel
theorem dX10_give_7 : decode cX10_give 7 = .ok (.iconst 1, 1) := by decide +kernel
theorem dX10_give_8 : decode cX10_give 8 = .ok (.iadd, 1) := by decide +kernel
theorem dX10_give_9 : decode cX10_give 9 = .ok (.iastore, 1) := by decide +kernel
theorem dX10_give_10 : decode cX10_give 10 = .ok (.aload_n 0, 1) := by decide +kernel
theorem dX10_give_11 : decode cX10_give 11 = .ok (.getfield 104, 3) := by decide +kernel
theorem dX10_give_14 : decode cX10_give 14 = .ok (.iload_n 1, 1) := by decide +kernel
theorem dX10_give_15 : decode cX10_give 15 = .ok (.iload_n 2, 1) := by decide +kernel
theorem dX10_give_16 : decode cX10_give 16 = .ok (.iastore, 1) := by decide +kernel
theorem dX10_give_17 : decode cX10_give 17 = .ok (.aload_n 0, 1) := by decide +kernel
theorem dX10_give_18 : decode cX10_give 18 = .ok (.getfield 89, 3) := by decide +kernel
theorem dX10_give_21 : decode cX10_give 21 = .ok (.iload_n 1, 1) := by decide +kernel
theorem dX10_give_22 : decode cX10_give 22 = .ok (.aload_n 0, 1) := by decide +kernel
theorem dX10_give_23 : decode cX10_give 23 = .ok (.getfield 77, 3) := by decide +kernel
theorem dX10_give_26 : decode cX10_give 26 = .ok (.iload_n 1, 1) := by decide +kernel
theorem dX10_give_27 : decode cX10_give 27 = .ok (.baload, 1) := by decide +kernel
theorem dX10_give_28 : decode cX10_give 28 = .ok (.bastore, 1) := by decide +kernel
theorem dX10_give_29 : decode cX10_give 29 = .ok (.aload_n 0, 1) := by decide +kernel
theorem dX10_give_30 : decode cX10_give 30 = .ok (.getfield 92, 3) := by decide +kernel
theorem dX10_give_33 : decode cX10_give 33 = .ok (.iload_n 1, 1) := by decide +kernel
theorem dX10_give_34 : decode cX10_give 34 = .ok (.aload_n 0, 1) := by decide +kernel
theorem dX10_give_35 : decode cX10_give 35 = .ok (.getfield 80, 3) := by decide +kernel
theorem dX10_give_38 : decode cX10_give 38 = .ok (.iload_n 1, 1) := by decide +kernel
theorem dX10_give_39 : decode cX10_give 39 = .ok (.iaload, 1) := by decide +kernel
theorem dX10_give_40 : decode cX10_give 40 = .ok (.iastore, 1) := by decide +kernel
theorem dX10_give_41 : decode cX10_give 41 = .ok (.aload_n 0, 1) := by decide +kernel
theorem dX10_give_42 : decode cX10_give 42 = .ok (.getfield 95, 3) := by decide +kernel
theorem dX10_give_45 : decode cX10_give 45 = .ok (.iload_n 1, 1) := by decide +kernel
theorem dX10_give_46 : decode cX10_give 46 = .ok (.aload_n 0, 1) := by decide +kernel
theorem dX10_give_47 : decode cX10_give 47 = .ok (.getfield 83, 3) := by decide +kernel
theorem dX10_give_50 : decode cX10_give 50 = .ok (.iload_n 1, 1) := by decide +kernel
theorem dX10_give_51 : decode cX10_give 51 = .ok (.iaload, 1) := by decide +kernel
theorem dX10_give_52 : decode cX10_give 52 = .ok (.iastore, 1) := by decide +kernel
theorem dX10_give_53 : decode cX10_give 53 = .ok (.aload_n 0, 1) := by decide +kernel
theorem dX10_give_54 : decode cX10_give 54 = .ok (.getfield 98, 3) := by decide +kernel
theorem dX10_give_57 : decode cX10_give 57 = .ok (.iload_n 1, 1) := by decide +kernel
theorem dX10_give_58 : decode cX10_give 58 = .ok (.aload_n 0, 1) := by decide +kernel
theorem dX10_give_59 : decode cX10_give 59 = .ok (.getfield 86, 3) := by decide +kernel
theorem dX10_give_62 : decode cX10_give 62 = .ok (.iload_n 1, 1) := by decide +kernel
theorem dX10_give_63 : decode cX10_give 63 = .ok (.iaload, 1) := by decide +kernel
theorem dX10_give_64 : decode cX10_give 64 = .ok (.iastore, 1) := by decide +kernel
theorem dX10_give_65 : decode cX10_give 65 = .ok (.aload_n 0, 1) := by decide +kernel
theorem dX10_give_66 : decode cX10_give 66 = .ok (.getfield 107, 3) := by decide +kernel
theorem dX10_give_69 : decode cX10_give 69 = .ok (.iload_n 1, 1) := by decide +kernel
theorem dX10_give_70 : decode cX10_give 70 = .ok (.iconst (-1), 1) := by decide +kernel
theorem dX10_give_71 : decode cX10_give 71 = .ok (.iastore, 1) := by decide +kernel
theorem dX10_give_72 : decode cX10_give 72 = .ok (.aload_n 0, 1) := by decide +kernel
theorem dX10_give_73 : decode cX10_give 73 = .ok (.getfield 110, 3) := by decide +kernel
theorem dX10_give_76 : decode cX10_give 76 = .ok (.iload_n 1, 1) := by decide +kernel
theorem dX10_give_77 : decode cX10_give 77 = .ok (.aload_n 0, 1) := by decide +kernel
theorem dX10_give_78 : decode cX10_give 78 = .ok (.getfield 179, 3) := by decide +kernel
theorem dX10_give_81 : decode cX10_give 81 = .ok (.iastore, 1) := by decide +kernel
theorem dX10_give_82 : decode cX10_give 82 = .ok (.aload_n 0, 1) := by decide +kernel
theorem dX10_give_83 : decode cX10_give 83 = .ok (.getfield 113, 3) := by decide +kernel
theorem dX10_give_86 : decode cX10_give 86 = .ok (.iload_n 1, 1) := by decide +kernel
theorem dX10_give_87 : decode cX10_give 87 = .ok (.iconst (-1), 1) := by decide +kernel
theorem dX10_give_88 : decode cX10_give 88 = .ok (.iastore, 1) := by decide +kernel
theorem dX10_give_89 : decode cX10_give 89 = .ok (.aload_n 0, 1) := by decide +kernel
theorem dX10_give_90 : decode cX10_give 90 = .ok (.iconst 3, 1) := by decide +kernel
theorem dX10_give_91 : decode cX10_give 91 = .ok (.iload_n 1, 1) := by decide +kernel
theorem dX10_give_92 : decode cX10_give 92 = .ok (.iload_n 2, 1) := by decide +kernel
theorem dX10_give_93 : decode cX10_give 93 = .ok (.aload_n 0, 1) := by decide +kernel
theorem dX10_give_94 : decode cX10_give 94 = .ok (.getfield 116, 3) := by decide +kernel
theorem dX10_give_97 : decode cX10_give 97 = .ok (.bipush 6, 2) := by decide +kernel
theorem dX10_give_99 : decode cX10_give 99 = .ok (.iload_n 1, 1) := by decide +kernel
theorem dX10_give_100 : decode cX10_give 100 = .ok (.imul, 1) := by decide +kernel
theorem dX10_give_101 : decode cX10_give 101 = .ok (.iload_n 2, 1) := by decide +kernel
theorem dX10_give_102 : decode cX10_give 102 = .ok (.iadd, 1) := by decide +kernel
theorem dX10_give_103 : decode cX10_give 103 = .ok (.iaload, 1) := by decide +kernel
theorem dX10_give_104 : decode cX10_give 104 = .ok (.aload_n 0, 1) := by decide +kernel
theorem dX10_give_105 : decode cX10_give 105 = .ok (.getfield 101, 3) := by decide +kernel
theorem dX10_give_108 : decode cX10_give 108 = .ok (.iload_n 1, 1) := by decide +kernel
theorem dX10_give_109 : decode cX10_give 109 = .ok (.iaload, 1) := by decide +kernel
theorem dX10_give_110 : decode cX10_give 110 = .ok (.iconst 0, 1) := by decide +kernel
theorem dX10_give_111 : decode cX10_give 111 = .ok (.invokevirtual 168, 3) := by decide +kernel
theorem dX10_give_114 : decode cX10_give 114 = .ok (.aload_n 0, 1) := by decide +kernel
theorem dX10_give_115 : decode cX10_give 115 = .ok (.bipush 10, 2) := by decide +kernel
theorem dX10_give_117 : decode cX10_give 117 = .ok (.iload_n 1, 1) := by decide +kernel
theorem dX10_give_118 : decode cX10_give 118 = .ok (.iload_n 2, 1) := by decide +kernel
theorem dX10_give_119 : decode cX10_give 119 = .ok (.aload_n 0, 1) := by decide +kernel
theorem dX10_give_120 : decode cX10_give 120 = .ok (.getfield 101, 3) := by decide +kernel
theorem dX10_give_123 : decode cX10_give 123 = .ok (.iload_n 1, 1) := by decide +kernel
theorem dX10_give_124 : decode cX10_give 124 = .ok (.iaload, 1) := by decide +kernel
theorem dX10_give_125 : decode cX10_give 125 = .ok (.iload_n 2, 1) := by decide +kernel
theorem dX10_give_126 : decode cX10_give 126 = .ok (.iconst 0, 1) := by decide +kernel
theorem dX10_give_127 : decode cX10_give 127 = .ok (.invokevirtual 168, 3) := by decide +kernel
theorem dX10_give_130 : decode cX10_give 130 = .ok (.aload_n 0, 1) := by decide +kernel
theorem dX10_give_131 : decode cX10_give 131 = .ok (.iload_n 1, 1) := by decide +kernel
theorem dX10_give_132 : decode cX10_give 132 = .ok (.invokevirtual 190, 3) := by decide +kernel
theorem dX10_give_135 : decode cX10_give 135 = .ok (.return_, 1) := by decide +kernel
theorem dX10_free_0 : decode cX10_free 0 = .ok (.aload_n 0, 1) := by decide +kernel
theorem dX10_free_1 : decode cX10_free 1 = .ok (.getfield 104, 3) := by decide +kernel
theorem dX10_free_4 : decode cX10_free 4 = .ok (.iload_n 1, 1) := by decide +kernel
theorem dX10_free_5 : decode cX10_free 5 = .ok (.iconst (-1), 1) := by decide +kernel
theorem dX10_free_6 : decode cX10_free 6 = .ok (.iastore, 1) := by decide +kernel
theorem dX10_free_7 : decode cX10_free 7 = .ok (.aload_n 0, 1) := by decide +kernel
theorem dX10_free_8 : decode cX10_free 8 = .ok (.iload_n 1, 1) := by decide +kernel
theorem dX10_free_9 : decode cX10_free 9 = .ok (.iconst 0, 1) := by decide +kernel
theorem dX10_free_10 : decode cX10_free 10 = .ok (.invokevirtual 194, 3) := by decide +kernel
theorem dX10_free_13 : decode cX10_free 13 = .ok (.istore_n 2, 1) := by decide +kernel
theorem dX10_free_14 : decode cX10_free 14 = .ok (.iload_n 2, 1) := by decide +kernel
theorem dX10_free_15 : decode cX10_free 15 = .ok (.ifCond .lt 24, 3) := by decide +kernel
theorem dX10_free_18 : decode cX10_free 18 = .ok (.aload_n 0, 1) := by decide +kernel
theorem dX10_free_19 : decode cX10_free 19 = .ok (.getfield 128, 3) := by decide +kernel
theorem dX10_free_22 : decode cX10_free 22 = .ok (.bipush 6, 2) := by decide +kernel
theorem dX10_free_24 : decode cX10_free 24 = .ok (.iload_n 1, 1) := by decide +kernel
theorem dX10_free_25 : decode cX10_free 25 = .ok (.imul, 1) := by decide +kernel
theorem dX10_free_26 : decode cX10_free 26 = .ok (.iload_n 2, 1) := by decide +kernel
theorem dX10_free_27 : decode cX10_free 27 = .ok (.iadd, 1) := by decide +kernel
theorem dX10_free_28 : decode cX10_free 28 = .ok (.iconst 0, 1) := by decide +kernel
theorem dX10_free_29 : decode cX10_free 29 = .ok (.iastore, 1) := by decide +kernel
theorem dX10_free_30 : decode cX10_free 30 = .ok (.aload_n 0, 1) := by decide +kernel
theorem dX10_free_31 : decode cX10_free 31 = .ok (.iload_n 1, 1) := by decide +kernel
theorem dX10_free_32 : decode cX10_free 32 = .ok (.iload_n 2, 1) := by decide +kernel
theorem dX10_free_33 : decode cX10_free 33 = .ok (.invokevirtual 197, 3) := by decide +kernel
theorem dX10_free_36 : decode cX10_free 36 = .ok (.goto 19, 3) := by decide +kernel
theorem dX10_free_39 : decode cX10_free 39 = .ok (.aload_n 0, 1) := by decide +kernel
theorem dX10_free_40 : decode cX10_free 40 = .ok (.bipush 10, 2) := by decide +kernel
theorem dX10_free_42 : decode cX10_free 42 = .ok (.iload_n 1, 1) := by decide +kernel
theorem dX10_free_43 : decode cX10_free 43 = .ok (.iconst 0, 1) := by decide +kernel
theorem dX10_free_44 : decode cX10_free 44 = .ok (.aload_n 0, 1) := by decide +kernel
theorem dX10_free_45 : decode cX10_free 45 = .ok (.getfield 101, 3) := by decide +kernel
theorem dX10_free_48 : decode cX10_free 48 = .ok (.iload_n 1, 1) := by decide +kernel
theorem dX10_free_49 : decode cX10_free 49 = .ok (.iaload, 1) := by decide +kernel
theorem dX10_free_50 : decode cX10_free 50 = .ok (.iconst (-1), 1) := by decide +kernel
theorem dX10_free_51 : decode cX10_free 51 = .ok (.iconst 0, 1) := by decide +kernel
theorem dX10_free_52 : decode cX10_free 52 = .ok (.invokevirtual 168, 3) := by decide +kernel
theorem dX10_free_55 : decode cX10_free 55 = .ok (.return_, 1) := by decide +kernel
theorem dX10_clear_0 : decode cX10_clear 0 = .ok (.aload_n 0, 1) := by decide +kernel
theorem dX10_clear_1 : decode cX10_clear 1 = .ok (.getfield 128, 3) := by decide +kernel
theorem dX10_clear_4 : decode cX10_clear 4 = .ok (.bipush 6, 2) := by decide +kernel
theorem dX10_clear_6 : decode cX10_clear 6 = .ok (.iload_n 1, 1) := by decide +kernel
theorem dX10_clear_7 : decode cX10_clear 7 = .ok (.imul, 1) := by decide +kernel
theorem dX10_clear_8 : decode cX10_clear 8 = .ok (.iload_n 2, 1) := by decide +kernel
theorem dX10_clear_9 : decode cX10_clear 9 = .ok (.iadd, 1) := by decide +kernel
theorem dX10_clear_10 : decode cX10_clear 10 = .ok (.iconst 0, 1) := by decide +kernel
theorem dX10_clear_11 : decode cX10_clear 11 = .ok (.iastore, 1) := by decide +kernel
theorem dX10_clear_12 : decode cX10_clear 12 = .ok (.aload_n 0, 1) := by decide +kernel
theorem dX10_clear_13 : decode cX10_clear 13 = .ok (.getfield 104, 3) := by decide +kernel
theorem dX10_clear_16 : decode cX10_clear 16 = .ok (.iload_n 1, 1) := by decide +kernel
theorem dX10_clear_17 : decode cX10_clear 17 = .ok (.iaload, 1) := by decide +kernel
theorem dX10_clear_18 : decode cX10_clear 18 = .ok (.iload_n 2, 1) := by decide +kernel
theorem dX10_clear_19 : decode cX10_clear 19 = .ok (.if_icmp .ne 8, 3) := by decide +kernel
theorem dX10_clear_22 : decode cX10_clear 22 = .ok (.aload_n 0, 1) := by decide +kernel
theorem dX10_clear_23 : decode cX10_clear 23 = .ok (.iload_n 1, 1) := by decide +kernel
theorem dX10_clear_24 : decode cX10_clear 24 = .ok (.invokevirtual 200, 3) := by decide +kernel
theorem dX10_clear_27 : decode cX10_clear 27 = .ok (.return_, 1) := by decide +kernel
theorem dX10_requested_0 : decode cX10_requested 0 = .ok (.bipush 6, 2) := by decide +kernel
theorem dX10_requested_2 : decode cX10_requested 2 = .ok (.iload_n 1, 1) := by decide +kernel
theorem dX10_requested_3 : decode cX10_requested 3 = .ok (.imul, 1) := by decide +kernel
theorem dX10_requested_4 : decode cX10_requested 4 = .ok (.iload_n 2, 1) := by decide +kernel
theorem dX10_requested_5 : decode cX10_requested 5 = .ok (.iadd, 1) := by decide +kernel
theorem dX10_requested_6 : decode cX10_requested 6 = .ok (.istore 5, 2) := by decide +kernel
theorem dX10_requested_8 : decode cX10_requested 8 = .ok (.aload_n 0, 1) := by decide +kernel
theorem dX10_requested_9 : decode cX10_requested 9 = .ok (.getfield 13, 3) := by decide +kernel
theorem dX10_requested_12 : decode cX10_requested 12 = .ok (.iload 5, 2) := by decide +kernel
theorem dX10_requested_14 : decode cX10_requested 14 = .ok (.baload, 1) := by decide +kernel
theorem dX10_requested_15 : decode cX10_requested 15 = .ok (.ifCond .eq 14, 3) := by decide +kernel
theorem dX10_requested_18 : decode cX10_requested 18 = .ok (.iload_n 3, 1) := by decide +kernel
theorem dX10_requested_19 : decode cX10_requested 19 = .ok (.aload_n 0, 1) := by decide +kernel
theorem dX10_requested_20 : decode cX10_requested 20 = .ok (.getfield 116, 3) := by decide +kernel
theorem dX10_requested_23 : decode cX10_requested 23 = .ok (.iload 5, 2) := by decide +kernel
theorem dX10_requested_25 : decode cX10_requested 25 = .ok (.iaload, 1) := by decide +kernel
theorem dX10_requested_26 : decode cX10_requested 26 = .ok (.if_icmp .ge 4, 3) := by decide +kernel
theorem dX10_requested_29 : decode cX10_requested 29 = .ok (.return_, 1) := by decide +kernel
theorem dX10_requested_30 : decode cX10_requested 30 = .ok (.iload_n 3, 1) := by decide +kernel
theorem dX10_requested_31 : decode cX10_requested 31 = .ok (.aload_n 0, 1) := by decide +kernel
theorem dX10_requested_32 : decode cX10_requested 32 = .ok (.getfield 116, 3) := by decide +kernel
theorem dX10_requested_35 : decode cX10_requested 35 = .ok (.iload 5, 2) := by decide +kernel
theorem dX10_requested_37 : decode cX10_requested 37 = .ok (.iaload, 1) := by decide +kernel
theorem dX10_requested_38 : decode cX10_requested 38 = .ok (.if_icmp .ne 80, 3) := by decide +kernel
theorem dX10_requested_41 : decode cX10_requested 41 = .ok (.aload_n 0, 1) := by decide +kernel
theorem dX10_requested_42 : decode cX10_requested 42 = .ok (.getfield 104, 3) := by decide +kernel
theorem dX10_requested_45 : decode cX10_requested 45 = .ok (.iload_n 1, 1) := by decide +kernel
theorem dX10_requested_46 : decode cX10_requested 46 = .ok (.iaload, 1) := by decide +kernel
theorem dX10_requested_47 : decode cX10_requested 47 = .ok (.iload_n 2, 1) := by decide +kernel
theorem dX10_requested_48 : decode cX10_requested 48 = .ok (.if_icmp .ne 21, 3) := by decide +kernel
theorem dX10_requested_51 : decode cX10_requested 51 = .ok (.aload_n 0, 1) := by decide +kernel
theorem dX10_requested_52 : decode cX10_requested 52 = .ok (.iconst 3, 1) := by decide +kernel
theorem dX10_requested_53 : decode cX10_requested 53 = .ok (.iload_n 1, 1) := by decide +kernel
theorem dX10_requested_54 : decode cX10_requested 54 = .ok (.iload_n 2, 1) := by decide +kernel
theorem dX10_requested_55 : decode cX10_requested 55 = .ok (.iload_n 3, 1) := by decide +kernel
theorem dX10_requested_56 : decode cX10_requested 56 = .ok (.aload_n 0, 1) := by decide +kernel
theorem dX10_requested_57 : decode cX10_requested 57 = .ok (.getfield 101, 3) := by decide +kernel
theorem dX10_requested_60 : decode cX10_requested 60 = .ok (.iload_n 1, 1) := by decide +kernel
theorem dX10_requested_61 : decode cX10_requested 61 = .ok (.iaload, 1) := by decide +kernel
theorem dX10_requested_62 : decode cX10_requested 62 = .ok (.iconst 0, 1) := by decide +kernel
theorem dX10_requested_63 : decode cX10_requested 63 = .ok (.invokevirtual 168, 3) := by decide +kernel
theorem dX10_requested_66 : decode cX10_requested 66 = .ok (.goto 51, 3) := by decide +kernel
theorem dX10_requested_69 : decode cX10_requested 69 = .ok (.aload_n 0, 1) := by decide +kernel
theorem dX10_requested_70 : decode cX10_requested 70 = .ok (.getfield 128, 3) := by decide +kernel
theorem dX10_requested_73 : decode cX10_requested 73 = .ok (.iload 5, 2) := by decide +kernel
theorem dX10_requested_75 : decode cX10_requested 75 = .ok (.iaload, 1) := by decide +kernel
theorem dX10_requested_76 : decode cX10_requested 76 = .ok (.ifCond .le 21, 3) := by decide +kernel
theorem dX10_requested_79 : decode cX10_requested 79 = .ok (.aload_n 0, 1) := by decide +kernel
theorem dX10_requested_80 : decode cX10_requested 80 = .ok (.iconst 4, 1) := by decide +kernel
theorem dX10_requested_81 : decode cX10_requested 81 = .ok (.iload_n 1, 1) := by decide +kernel
theorem dX10_requested_82 : decode cX10_requested 82 = .ok (.iload_n 2, 1) := by decide +kernel
theorem dX10_requested_83 : decode cX10_requested 83 = .ok (.iload_n 3, 1) := by decide +kernel
theorem dX10_requested_84 : decode cX10_requested 84 = .ok (.aload_n 0, 1) := by decide +kernel
theorem dX10_requested_85 : decode cX10_requested 85 = .ok (.iload 5, 2) := by decide +kernel
theorem dX10_requested_87 : decode cX10_requested 87 = .ok (.invokevirtual 186, 3) := by decide +kernel
theorem dX10_requested_90 : decode cX10_requested 90 = .ok (.iconst 0, 1) := by decide +kernel
theorem dX10_requested_91 : decode cX10_requested 91 = .ok (.invokevirtual 168, 3) := by decide +kernel
theorem dX10_requested_94 : decode cX10_requested 94 = .ok (.goto 23, 3) := by decide +kernel
theorem dX10_requested_97 : decode cX10_requested 97 = .ok (.aload_n 0, 1) := by decide +kernel
theorem dX10_requested_98 : decode cX10_requested 98 = .ok (.getfield 119, 3) := by decide +kernel
theorem dX10_requested_101 : decode cX10_requested 101 = .ok (.iload 5, 2) := by decide +kernel
theorem dX10_requested_103 : decode cX10_requested 103 = .ok (.baload, 1) := by decide +kernel
theorem dX10_requested_104 : decode cX10_requested 104 = .ok (.ifCond .eq 13, 3) := by decide +kernel
theorem dX10_requested_107 : decode cX10_requested 107 = .ok (.aload_n 0, 1) := by decide +kernel
theorem dX10_requested_108 : decode cX10_requested 108 = .ok (.iconst 5, 1) := by decide +kernel
theorem dX10_requested_109 : decode cX10_requested 109 = .ok (.iload_n 1, 1) := by decide +kernel
theorem dX10_requested_110 : decode cX10_requested 110 = .ok (.iload_n 2, 1) := by decide +kernel
theorem dX10_requested_111 : decode cX10_requested 111 = .ok (.iload_n 3, 1) := by decide +kernel
theorem dX10_requested_112 : decode cX10_requested 112 = .ok (.iconst 0, 1) := by decide +kernel
theorem dX10_requested_113 : decode cX10_requested 113 = .ok (.iconst 0, 1) := by decide +kernel
theorem dX10_requested_114 : decode cX10_requested 114 = .ok (.invokevirtual 168, 3) := by decide +kernel
theorem dX10_requested_117 : decode cX10_requested 117 = .ok (.return_, 1) := by decide +kernel
theorem dX10_requested_118 : decode cX10_requested 118 = .ok (.aload_n 0, 1) := by decide +kernel
theorem dX10_requested_119 : decode cX10_requested 119 = .ok (.getfield 116, 3) := by decide +kernel
theorem dX10_requested_122 : decode cX10_requested 122 = .ok (.iload 5, 2) := by decide +kernel
theorem dX10_requested_124 : decode cX10_requested 124 = .ok (.iload_n 3, 1) := by decide +kernel
theorem dX10_requested_125 : decode cX10_requested 125 = .ok (.iastore, 1) := by decide +kernel
theorem dX10_requested_126 : decode cX10_requested 126 = .ok (.aload_n 0, 1) := by decide +kernel
theorem dX10_requested_127 : decode cX10_requested 127 = .ok (.getfield 119, 3) := by decide +kernel
theorem dX10_requested_130 : decode cX10_requested 130 = .ok (.iload 5, 2) := by decide +kernel
theorem dX10_requested_132 : decode cX10_requested 132 = .ok (.iconst 0, 1) := by decide +kernel
theorem dX10_requested_133 : decode cX10_requested 133 = .ok (.bastore, 1) := by decide +kernel
theorem dX10_requested_134 : decode cX10_requested 134 = .ok (.aload_n 0, 1) := by decide +kernel
theorem dX10_requested_135 : decode cX10_requested 135 = .ok (.iload_n 1, 1) := by decide +kernel
theorem dX10_requested_136 : decode cX10_requested 136 = .ok (.iload_n 2, 1) := by decide +kernel
theorem dX10_requested_137 : decode cX10_requested 137 = .ok (.invokevirtual 164, 3) := by decide +kernel
theorem dX10_requested_140 : decode cX10_requested 140 = .ok (.aload_n 0, 1) := by decide +kernel
theorem dX10_requested_141 : decode cX10_requested 141 = .ok (.getfield 122, 3) := by decide +kernel
theorem dX10_requested_144 : decode cX10_requested 144 = .ok (.iload 5, 2) := by decide +kernel
theorem dX10_requested_146 : decode cX10_requested 146 = .ok (.iload 4, 2) := by decide +kernel
theorem dX10_requested_148 : decode cX10_requested 148 = .ok (.bastore, 1) := by decide +kernel
theorem dX10_requested_149 : decode cX10_requested 149 = .ok (.aload_n 0, 1) := by decide +kernel
theorem dX10_requested_150 : decode cX10_requested 150 = .ok (.getfield 125, 3) := by decide +kernel
theorem dX10_requested_153 : decode cX10_requested 153 = .ok (.iload 5, 2) := by decide +kernel
theorem dX10_requested_155 : decode cX10_requested 155 = .ok (.aload_n 0, 1) := by decide +kernel
theorem dX10_requested_156 : decode cX10_requested 156 = .ok (.getfield 17, 3) := by decide +kernel
theorem dX10_requested_159 : decode cX10_requested 159 = .ok (.iload 5, 2) := by decide +kernel
theorem dX10_requested_161 : decode cX10_requested 161 = .ok (.iaload, 1) := by decide +kernel
theorem dX10_requested_162 : decode cX10_requested 162 = .ok (.iastore, 1) := by decide +kernel
theorem dX10_requested_163 : decode cX10_requested 163 = .ok (.aload_n 0, 1) := by decide +kernel
theorem dX10_requested_164 : decode cX10_requested 164 = .ok (.getfield 104, 3) := by decide +kernel
theorem dX10_requested_167 : decode cX10_requested 167 = .ok (.iload_n 1, 1) := by decide +kernel
theorem dX10_requested_168 : decode cX10_requested 168 = .ok (.iaload, 1) := by decide +kernel
theorem dX10_requested_169 : decode cX10_requested 169 = .ok (.ifCond .ge 12, 3) := by decide +kernel
theorem dX10_requested_172 : decode cX10_requested 172 = .ok (.aload_n 0, 1) := by decide +kernel
theorem dX10_requested_173 : decode cX10_requested 173 = .ok (.iload_n 1, 1) := by decide +kernel
theorem dX10_requested_174 : decode cX10_requested 174 = .ok (.iload_n 2, 1) := by decide +kernel
theorem dX10_requested_175 : decode cX10_requested 175 = .ok (.invokevirtual 197, 3) := by decide +kernel
theorem dX10_requested_178 : decode cX10_requested 178 = .ok (.goto 138, 3) := by decide +kernel
theorem dX10_requested_181 : decode cX10_requested 181 = .ok (.aload_n 0, 1) := by decide +kernel
theorem dX10_requested_182 : decode cX10_requested 182 = .ok (.iload_n 1, 1) := by decide +kernel
theorem dX10_requested_183 : decode cX10_requested 183 = .ok (.invokevirtual 203, 3) := by decide +kernel
theorem dX10_requested_186 : decode cX10_requested 186 = .ok (.iconst 4, 1) := by decide +kernel
theorem dX10_requested_187 : decode cX10_requested 187 = .ok (.if_icmp .ne 24, 3) := by decide +kernel
theorem dX10_requested_190 : decode cX10_requested 190 = .ok (.aload_n 0, 1) := by decide +kernel
theorem dX10_requested_191 : decode cX10_requested 191 = .ok (.getfield 119, 3) := by decide +kernel
theorem dX10_requested_194 : decode cX10_requested 194 = .ok (.iload 5, 2) := by decide +kernel
theorem dX10_requested_196 : decode cX10_requested 196 = .ok (.iconst 1, 1) := by decide +kernel
theorem dX10_requested_197 : decode cX10_requested 197 = .ok (.bastore, 1) := by decide +kernel
theorem dX10_requested_198 : decode cX10_requested 198 = .ok (.aload_n 0, 1) := by decide +kernel
theorem dX10_requested_199 : decode cX10_requested 199 = .ok (.iconst 5, 1) := by decide +kernel
theorem dX10_requested_200 : decode cX10_requested 200 = .ok (.iload_n 1, 1) := by decide +kernel
theorem dX10_requested_201 : decode cX10_requested 201 = .ok (.iload_n 2, 1) := by decide +kernel
theorem dX10_requested_202 : decode cX10_requested 202 = .ok (.iload_n 3, 1) := by decide +kernel
theorem dX10_requested_203 : decode cX10_requested 203 = .ok (.iconst 0, 1) := by decide +kernel
theorem dX10_requested_204 : decode cX10_requested 204 = .ok (.iconst 0, 1) := by decide +kernel
theorem dX10_requested_205 : decode cX10_requested 205 = .ok (.invokevirtual 168, 3) := by decide +kernel
theorem dX10_requested_208 : decode cX10_requested 208 = .ok (.goto 108, 3) := by decide +kernel
theorem dX10_requested_211 : decode cX10_requested 211 = .ok (.aload_n 0, 1) := by decide +kernel
theorem dX10_requested_212 : decode cX10_requested 212 = .ok (.dup, 1) := by decide +kernel
theorem dX10_requested_213 : decode cX10_requested 213 = .ok (.getfield 206, 3) := by decide +kernel
theorem dX10_requested_216 : decode cX10_requested 216 = .ok (.iconst 1, 1) := by decide +kernel
theorem dX10_requested_217 : decode cX10_requested 217 = .ok (.iadd, 1) := by decide +kernel
theorem dX10_requested_218 : decode cX10_requested 218 = .ok (.putfield 206, 3) := by decide +kernel
theorem dX10_requested_221 : decode cX10_requested 221 = .ok (.aload_n 0, 1) := by decide +kernel
theorem dX10_requested_222 : decode cX10_requested 222 = .ok (.getfield 128, 3) := by decide +kernel
theorem dX10_requested_225 : decode cX10_requested 225 = .ok (.iload 5, 2) := by decide +kernel
theorem dX10_requested_227 : decode cX10_requested 227 = .ok (.aload_n 0, 1) := by decide +kernel
theorem dX10_requested_228 : decode cX10_requested 228 = .ok (.getfield 206, 3) := by decide +kernel
theorem dX10_requested_231 : decode cX10_requested 231 = .ok (.iastore, 1) := by decide +kernel
theorem dX10_requested_232 : decode cX10_requested 232 = .ok (.aload_n 0, 1) := by decide +kernel
theorem dX10_requested_233 : decode cX10_requested 233 = .ok (.iconst 4, 1) := by decide +kernel
theorem dX10_requested_234 : decode cX10_requested 234 = .ok (.iload_n 1, 1) := by decide +kernel
theorem dX10_requested_235 : decode cX10_requested 235 = .ok (.iload_n 2, 1) := by decide +kernel
theorem dX10_requested_236 : decode cX10_requested 236 = .ok (.iload_n 3, 1) := by decide +kernel
theorem dX10_requested_237 : decode cX10_requested 237 = .ok (.aload_n 0, 1) := by decide +kernel
theorem dX10_requested_238 : decode cX10_requested 238 = .ok (.iload 5, 2) := by decide +kernel
theorem dX10_requested_240 : decode cX10_requested 240 = .ok (.invokevirtual 186, 3) := by decide +kernel
theorem dX10_requested_243 : decode cX10_requested 243 = .ok (.iconst 0, 1) := by decide +kernel
theorem dX10_requested_244 : decode cX10_requested 244 = .ok (.invokevirtual 168, 3) := by decide +kernel
theorem dX10_requested_247 : decode cX10_requested 247 = .ok (.aload_n 0, 1) := by decide +kernel
theorem dX10_requested_248 : decode cX10_requested 248 = .ok (.getfield 89, 3) := by decide +kernel
theorem dX10_requested_251 : decode cX10_requested 251 = .ok (.iload_n 1, 1) := by decide +kernel
theorem dX10_requested_252 : decode cX10_requested 252 = .ok (.baload, 1) := by decide +kernel
theorem dX10_requested_253 : decode cX10_requested 253 = .ok (.ifCond .eq 63, 3) := by decide +kernel
theorem dX10_requested_256 : decode cX10_requested 256 = .ok (.aload_n 0, 1) := by decide +kernel
theorem dX10_requested_257 : decode cX10_requested 257 = .ok (.getfield 107, 3) := by decide +kernel
theorem dX10_requested_260 : decode cX10_requested 260 = .ok (.iload_n 1, 1) := by decide +kernel
theorem dX10_requested_261 : decode cX10_requested 261 = .ok (.iaload, 1) := by decide +kernel
theorem dX10_requested_262 : decode cX10_requested 262 = .ok (.ifCond .ge 54, 3) := by decide +kernel
theorem dX10_requested_265 : decode cX10_requested 265 = .ok (.aload_n 0, 1) := by decide +kernel
theorem dX10_requested_266 : decode cX10_requested 266 = .ok (.iload 5, 2) := by decide +kernel
theorem dX10_requested_268 : decode cX10_requested 268 = .ok (.bipush 6, 2) := by decide +kernel
theorem dX10_requested_270 : decode cX10_requested 270 = .ok (.iload_n 1, 1) := by decide +kernel
theorem dX10_requested_271 : decode cX10_requested 271 = .ok (.imul, 1) := by decide +kernel
theorem dX10_requested_272 : decode cX10_requested 272 = .ok (.aload_n 0, 1) := by decide +kernel
theorem dX10_requested_273 : decode cX10_requested 273 = .ok (.getfield 104, 3) := by decide +kernel
theorem dX10_requested_276 : decode cX10_requested 276 = .ok (.iload_n 1, 1) := by decide +kernel
theorem dX10_requested_277 : decode cX10_requested 277 = .ok (.iaload, 1) := by decide +kernel
theorem dX10_requested_278 : decode cX10_requested 278 = .ok (.iadd, 1) := by decide +kernel
theorem dX10_requested_279 : decode cX10_requested 279 = .ok (.invokevirtual 182, 3) := by decide +kernel
theorem dX10_requested_282 : decode cX10_requested 282 = .ok (.ifCond .le 34, 3) := by decide +kernel
theorem dX10_requested_285 : decode cX10_requested 285 = .ok (.aload_n 0, 1) := by decide +kernel
theorem dX10_requested_286 : decode cX10_requested 286 = .ok (.getfield 107, 3) := by decide +kernel
theorem dX10_requested_289 : decode cX10_requested 289 = .ok (.iload_n 1, 1) := by decide +kernel
theorem dX10_requested_290 : decode cX10_requested 290 = .ok (.aload_n 0, 1) := by decide +kernel
theorem dX10_requested_291 : decode cX10_requested 291 = .ok (.getfield 179, 3) := by decide +kernel
theorem dX10_requested_294 : decode cX10_requested 294 = .ok (.iastore, 1) := by decide +kernel
theorem dX10_requested_295 : decode cX10_requested 295 = .ok (.aload_n 0, 1) := by decide +kernel
theorem dX10_requested_296 : decode cX10_requested 296 = .ok (.bipush 6, 2) := by decide +kernel
theorem dX10_requested_298 : decode cX10_requested 298 = .ok (.iload_n 1, 1) := by decide +kernel
theorem dX10_requested_299 : decode cX10_requested 299 = .ok (.aload_n 0, 1) := by decide +kernel
theorem dX10_requested_300 : decode cX10_requested 300 = .ok (.getfield 104, 3) := by decide +kernel
theorem dX10_requested_303 : decode cX10_requested 303 = .ok (.iload_n 1, 1) := by decide +kernel
theorem dX10_requested_304 : decode cX10_requested 304 = .ok (.iaload, 1) := by decide +kernel
theorem dX10_requested_305 : decode cX10_requested 305 = .ok (.aload_n 0, 1) := by decide +kernel
theorem dX10_requested_306 : decode cX10_requested 306 = .ok (.getfield 101, 3) := by decide +kernel
theorem dX10_requested_309 : decode cX10_requested 309 = .ok (.iload_n 1, 1) := by decide +kernel
theorem dX10_requested_310 : decode cX10_requested 310 = .ok (.iaload, 1) := by decide +kernel
theorem dX10_requested_311 : decode cX10_requested 311 = .ok (.iconst 0, 1) := by decide +kernel
theorem dX10_requested_312 : decode cX10_requested 312 = .ok (.iconst 0, 1) := by decide +kernel
theorem dX10_requested_313 : decode cX10_requested 313 = .ok (.invokevirtual 168, 3) := by decide +kernel
theorem dX10_requested_316 : decode cX10_requested 316 = .ok (.return_, 1) := by decide +kernel
theorem dX10_released_0 : decode cX10_released 0 = .ok (.bipush 6, 2) := by decide +kernel
theorem dX10_released_2 : decode cX10_released 2 = .ok (.iload_n 1, 1) := by decide +kernel
theorem dX10_released_3 : decode cX10_released 3 = .ok (.imul, 1) := by decide +kernel
theorem dX10_released_4 : decode cX10_released 4 = .ok (.iload_n 2, 1) := by decide +kernel
theorem dX10_released_5 : decode cX10_released 5 = .ok (.iadd, 1) := by decide +kernel
theorem dX10_released_6 : decode cX10_released 6 = .ok (.istore 4, 2) := by decide +kernel
theorem dX10_released_8 : decode cX10_released 8 = .ok (.iload_n 3, 1) := by decide +kernel
theorem dX10_released_9 : decode cX10_released 9 = .ok (.aload_n 0, 1) := by decide +kernel
theorem dX10_released_10 : decode cX10_released 10 = .ok (.getfield 116, 3) := by decide +kernel
theorem dX10_released_13 : decode cX10_released 13 = .ok (.iload 4, 2) := by decide +kernel
theorem dX10_released_15 : decode cX10_released 15 = .ok (.iaload, 1) := by decide +kernel
theorem dX10_released_16 : decode cX10_released 16 = .ok (.if_icmp .ge 4, 3) := by decide +kernel
theorem dX10_released_19 : decode cX10_released 19 = .ok (.return_, 1) := by decide +kernel
theorem dX10_released_20 : decode cX10_released 20 = .ok (.aload_n 0, 1) := by decide +kernel
theorem dX10_released_21 : decode cX10_released 21 = .ok (.getfield 119, 3) := by decide +kernel
theorem dX10_released_24 : decode cX10_released 24 = .ok (.iload 4, 2) := by decide +kernel
theorem dX10_released_26 : decode cX10_released 26 = .ok (.aload_n 0, 1) := by decide +kernel
theorem dX10_released_27 : decode cX10_released 27 = .ok (.getfield 119, 3) := by decide +kernel
theorem dX10_released_30 : decode cX10_released 30 = .ok (.iload 4, 2) := by decide +kernel
theorem dX10_released_32 : decode cX10_released 32 = .ok (.baload, 1) := by decide +kernel
theorem dX10_released_33 : decode cX10_released 33 = .ok (.ifCond .eq 18, 3) := by decide +kernel
theorem dX10_released_36 : decode cX10_released 36 = .ok (.iload_n 3, 1) := by decide +kernel
theorem dX10_released_37 : decode cX10_released 37 = .ok (.aload_n 0, 1) := by decide +kernel
theorem dX10_released_38 : decode cX10_released 38 = .ok (.getfield 116, 3) := by decide +kernel
theorem dX10_released_41 : decode cX10_released 41 = .ok (.iload 4, 2) := by decide +kernel
theorem dX10_released_43 : decode cX10_released 43 = .ok (.iaload, 1) := by decide +kernel
theorem dX10_released_44 : decode cX10_released 44 = .ok (.if_icmp .ne 7, 3) := by decide +kernel
theorem dX10_released_47 : decode cX10_released 47 = .ok (.iconst 1, 1) := by decide +kernel
theorem dX10_released_48 : decode cX10_released 48 = .ok (.goto 4, 3) := by decide +kernel
theorem dX10_released_51 : decode cX10_released 51 = .ok (.iconst 0, 1) := by decide +kernel
theorem dX10_released_52 : decode cX10_released 52 = .ok (.bastore, 1) := by decide +kernel
theorem dX10_released_53 : decode cX10_released 53 = .ok (.aload_n 0, 1) := by decide +kernel
theorem dX10_released_54 : decode cX10_released 54 = .ok (.getfield 116, 3) := by decide +kernel
theorem dX10_released_57 : decode cX10_released 57 = .ok (.iload 4, 2) := by decide +kernel
theorem dX10_released_59 : decode cX10_released 59 = .ok (.iload_n 3, 1) := by decide +kernel
theorem dX10_released_60 : decode cX10_released 60 = .ok (.iastore, 1) := by decide +kernel
theorem dX10_released_61 : decode cX10_released 61 = .ok (.aload_n 0, 1) := by decide +kernel
theorem dX10_released_62 : decode cX10_released 62 = .ok (.iload_n 1, 1) := by decide +kernel
theorem dX10_released_63 : decode cX10_released 63 = .ok (.iload_n 2, 1) := by decide +kernel
theorem dX10_released_64 : decode cX10_released 64 = .ok (.invokevirtual 164, 3) := by decide +kernel
theorem dX10_released_67 : decode cX10_released 67 = .ok (.return_, 1) := by decide +kernel
theorem dX10_serverTick_0 : decode cX10_serverTick 0 = .ok (.aload_n 0, 1) := by decide +kernel
theorem dX10_serverTick_1 : decode cX10_serverTick 1 = .ok (.getfield 104, 3) := by decide +kernel
theorem dX10_serverTick_4 : decode cX10_serverTick 4 = .ok (.iload_n 1, 1) := by decide +kernel
theorem dX10_serverTick_5 : decode cX10_serverTick 5 = .ok (.iaload, 1) := by decide +kernel
theorem dX10_serverTick_6 : decode cX10_serverTick 6 = .ok (.ifCond .ge 4, 3) := by decide +kernel
theorem dX10_serverTick_9 : decode cX10_serverTick 9 = .ok (.return_, 1) := by decide +kernel
theorem dX10_serverTick_10 : decode cX10_serverTick 10 = .ok (.aload_n 0, 1) := by decide +kernel
theorem dX10_serverTick_11 : decode cX10_serverTick 11 = .ok (.getfield 113, 3) := by decide +kernel
theorem dX10_serverTick_14 : decode cX10_serverTick 14 = .ok (.iload_n 1, 1) := by decide +kernel
theorem dX10_serverTick_15 : decode cX10_serverTick 15 = .ok (.iaload, 1) := by decide +kernel
theorem dX10_serverTick_16 : decode cX10_serverTick 16 = .ok (.ifCond .ge 12, 3) := by decide +kernel
theorem dX10_serverTick_19 : decode cX10_serverTick 19 = .ok (.aload_n 0, 1) := by decide +kernel
