theorem dX12_feed_79 : decode cX12_feed 79 = .ok (.getfield 83, 3) := by decide +kernel
theorem dX12_feed_82 : decode cX12_feed 82 = .ok (.iload 7, 2) := by decide +kernel
theorem dX12_feed_84 : decode cX12_feed 84 = .ok (.ifCond .ne 7, 3) := by decide +kernel
theorem dX12_feed_87 : decode cX12_feed 87 = .ok (.iload_n 2, 1) := by decide +kernel
theorem dX12_feed_88 : decode cX12_feed 88 = .ok (.goto 37, 3) := by decide +kernel
theorem dX12_feed_91 : decode cX12_feed 91 = .ok (.iload 7, 2) := by decide +kernel
theorem dX12_feed_93 : decode cX12_feed 93 = .ok (.iconst 1, 1) := by decide +kernel
theorem dX12_feed_94 : decode cX12_feed 94 = .ok (.if_icmp .ne 7, 3) := by decide +kernel
theorem dX12_feed_97 : decode cX12_feed 97 = .ok (.iload_n 3, 1) := by decide +kernel
theorem dX12_feed_98 : decode cX12_feed 98 = .ok (.goto 27, 3) := by decide +kernel
theorem dX12_feed_101 : decode cX12_feed 101 = .ok (.iload 7, 2) := by decide +kernel
theorem dX12_feed_103 : decode cX12_feed 103 = .ok (.iconst 2, 1) := by decide +kernel
theorem dX12_feed_104 : decode cX12_feed 104 = .ok (.if_icmp .ne 8, 3) := by decide +kernel
theorem dX12_feed_107 : decode cX12_feed 107 = .ok (.iload 4, 2) := by decide +kernel
theorem dX12_feed_109 : decode cX12_feed 109 = .ok (.goto 16, 3) := by decide +kernel
theorem dX12_feed_112 : decode cX12_feed 112 = .ok (.iload 7, 2) := by decide +kernel
theorem dX12_feed_114 : decode cX12_feed 114 = .ok (.iconst 3, 1) := by decide +kernel
theorem dX12_feed_115 : decode cX12_feed 115 = .ok (.if_icmp .ne 8, 3) := by decide +kernel
theorem dX12_feed_118 : decode cX12_feed 118 = .ok (.iload 5, 2) := by decide +kernel
theorem dX12_feed_120 : decode cX12_feed 120 = .ok (.goto 5, 3) := by decide +kernel
theorem dX12_feed_123 : decode cX12_feed 123 = .ok (.iload 6, 2) := by decide +kernel
theorem dX12_feed_125 : decode cX12_feed 125 = .ok (.iastore, 1) := by decide +kernel
theorem dX12_feed_126 : decode cX12_feed 126 = .ok (.aload_n 0, 1) := by decide +kernel
theorem dX12_feed_127 : decode cX12_feed 127 = .ok (.dup, 1) := by decide +kernel
theorem dX12_feed_128 : decode cX12_feed 128 = .ok (.getfield 83, 3) := by decide +kernel
theorem dX12_feed_131 : decode cX12_feed 131 = .ok (.iconst 1, 1) := by decide +kernel
theorem dX12_feed_132 : decode cX12_feed 132 = .ok (.iadd, 1) := by decide +kernel
theorem dX12_feed_133 : decode cX12_feed 133 = .ok (.putfield 83, 3) := by decide +kernel
theorem dX12_feed_136 : decode cX12_feed 136 = .ok (.iinc 7 1, 3) := by decide +kernel
theorem dX12_feed_139 : decode cX12_feed 139 = .ok (.goto (-71), 3) := by decide +kernel
theorem dX12_feed_142 : decode cX12_feed 142 = .ok (.aload_n 0, 1) := by decide +kernel
theorem dX12_feed_143 : decode cX12_feed 143 = .ok (.getfield 83, 3) := by decide +kernel
theorem dX12_feed_146 : decode cX12_feed 146 = .ok (.ireturn, 1) := by decide +kernel
theorem dX12_wordFrom_0 : decode cX12_wordFrom 0 = .ok (.iconst 0, 1) := by decide +kernel
theorem dX12_wordFrom_1 : decode cX12_wordFrom 1 = .ok (.istore_n 3, 1) := by decide +kernel
theorem dX12_wordFrom_2 : decode cX12_wordFrom 2 = .ok (.iload_n 3, 1) := by decide +kernel
theorem dX12_wordFrom_3 : decode cX12_wordFrom 3 = .ok (.bipush 12, 2) := by decide +kernel
theorem dX12_wordFrom_5 : decode cX12_wordFrom 5 = .ok (.if_icmp .ge 96, 3) := by decide +kernel
theorem dX12_wordFrom_8 : decode cX12_wordFrom 8 = .ok (.iload_n 2, 1) := by decide +kernel
theorem dX12_wordFrom_9 : decode cX12_wordFrom 9 = .ok (.iload_n 1, 1) := by decide +kernel
theorem dX12_wordFrom_10 : decode cX12_wordFrom 10 = .ok (.isub, 1) := by decide +kernel
theorem dX12_wordFrom_11 : decode cX12_wordFrom 11 = .ok (.bipush 8, 2) := by decide +kernel
theorem dX12_wordFrom_13 : decode cX12_wordFrom 13 = .ok (.if_icmp .gt 7, 3) := by decide +kernel
theorem dX12_wordFrom_16 : decode cX12_wordFrom 16 = .ok (.iconst 1, 1) := by decide +kernel
theorem dX12_wordFrom_17 : decode cX12_wordFrom 17 = .ok (.goto 4, 3) := by decide +kernel
theorem dX12_wordFrom_20 : decode cX12_wordFrom 20 = .ok (.iconst 0, 1) := by decide +kernel
theorem dX12_wordFrom_21 : decode cX12_wordFrom 21 = .ok (.istore 4, 2) := by decide +kernel
theorem dX12_wordFrom_23 : decode cX12_wordFrom 23 = .ok (.iconst 0, 1) := by decide +kernel
theorem dX12_wordFrom_24 : decode cX12_wordFrom 24 = .ok (.istore 5, 2) := by decide +kernel
theorem dX12_wordFrom_26 : decode cX12_wordFrom 26 = .ok (.iload 5, 2) := by decide +kernel
theorem dX12_wordFrom_28 : decode cX12_wordFrom 28 = .ok (.bipush 8, 2) := by decide +kernel
theorem dX12_wordFrom_30 : decode cX12_wordFrom 30 = .ok (.if_icmp .ge 58, 3) := by decide +kernel
theorem dX12_wordFrom_33 : decode cX12_wordFrom 33 = .ok (.iload 4, 2) := by decide +kernel
theorem dX12_wordFrom_35 : decode cX12_wordFrom 35 = .ok (.ifCond .eq 53, 3) := by decide +kernel
theorem dX12_wordFrom_38 : decode cX12_wordFrom 38 = .ok (.aload_n 0, 1) := by decide +kernel
theorem dX12_wordFrom_39 : decode cX12_wordFrom 39 = .ok (.getfield 59, 3) := by decide +kernel
theorem dX12_wordFrom_42 : decode cX12_wordFrom 42 = .ok (.bipush 8, 2) := by decide +kernel
theorem dX12_wordFrom_44 : decode cX12_wordFrom 44 = .ok (.iload_n 3, 1) := by decide +kernel
theorem dX12_wordFrom_45 : decode cX12_wordFrom 45 = .ok (.imul, 1) := by decide +kernel
theorem dX12_wordFrom_46 : decode cX12_wordFrom 46 = .ok (.iload 5, 2) := by decide +kernel
theorem dX12_wordFrom_48 : decode cX12_wordFrom 48 = .ok (.iadd, 1) := by decide +kernel
theorem dX12_wordFrom_49 : decode cX12_wordFrom 49 = .ok (.iaload, 1) := by decide +kernel
theorem dX12_wordFrom_50 : decode cX12_wordFrom 50 = .ok (.iload_n 1, 1) := by decide +kernel
theorem dX12_wordFrom_51 : decode cX12_wordFrom 51 = .ok (.iload 5, 2) := by decide +kernel
theorem dX12_wordFrom_53 : decode cX12_wordFrom 53 = .ok (.iadd, 1) := by decide +kernel
theorem dX12_wordFrom_54 : decode cX12_wordFrom 54 = .ok (.iload_n 2, 1) := by decide +kernel
theorem dX12_wordFrom_55 : decode cX12_wordFrom 55 = .ok (.if_icmp .ge 15, 3) := by decide +kernel
theorem dX12_wordFrom_58 : decode cX12_wordFrom 58 = .ok (.aload_n 0, 1) := by decide +kernel
theorem dX12_wordFrom_59 : decode cX12_wordFrom 59 = .ok (.getfield 35, 3) := by decide +kernel
theorem dX12_wordFrom_62 : decode cX12_wordFrom 62 = .ok (.iload_n 1, 1) := by decide +kernel
theorem dX12_wordFrom_63 : decode cX12_wordFrom 63 = .ok (.iload 5, 2) := by decide +kernel
theorem dX12_wordFrom_65 : decode cX12_wordFrom 65 = .ok (.iadd, 1) := by decide +kernel
theorem dX12_wordFrom_66 : decode cX12_wordFrom 66 = .ok (.iaload, 1) := by decide +kernel
theorem dX12_wordFrom_67 : decode cX12_wordFrom 67 = .ok (.goto 5, 3) := by decide +kernel
theorem dX12_wordFrom_70 : decode cX12_wordFrom 70 = .ok (.bipush 32, 2) := by decide +kernel
theorem dX12_wordFrom_72 : decode cX12_wordFrom 72 = .ok (.if_icmp .ne 7, 3) := by decide +kernel
theorem dX12_wordFrom_75 : decode cX12_wordFrom 75 = .ok (.iconst 1, 1) := by decide +kernel
theorem dX12_wordFrom_76 : decode cX12_wordFrom 76 = .ok (.goto 4, 3) := by decide +kernel
theorem dX12_wordFrom_79 : decode cX12_wordFrom 79 = .ok (.iconst 0, 1) := by decide +kernel
theorem dX12_wordFrom_80 : decode cX12_wordFrom 80 = .ok (.istore 4, 2) := by decide +kernel
theorem dX12_wordFrom_82 : decode cX12_wordFrom 82 = .ok (.iinc 5 1, 3) := by decide +kernel
theorem dX12_wordFrom_85 : decode cX12_wordFrom 85 = .ok (.goto (-59), 3) := by decide +kernel
theorem dX12_wordFrom_88 : decode cX12_wordFrom 88 = .ok (.iload 4, 2) := by decide +kernel
theorem dX12_wordFrom_90 : decode cX12_wordFrom 90 = .ok (.ifCond .eq 5, 3) := by decide +kernel
theorem dX12_wordFrom_93 : decode cX12_wordFrom 93 = .ok (.iload_n 3, 1) := by decide +kernel
theorem dX12_wordFrom_94 : decode cX12_wordFrom 94 = .ok (.ireturn, 1) := by decide +kernel
theorem dX12_wordFrom_95 : decode cX12_wordFrom 95 = .ok (.iinc 3 1, 3) := by decide +kernel
theorem dX12_wordFrom_98 : decode cX12_wordFrom 98 = .ok (.goto (-96), 3) := by decide +kernel
theorem dX12_wordFrom_101 : decode cX12_wordFrom 101 = .ok (.bipush 12, 2) := by decide +kernel
theorem dX12_wordFrom_103 : decode cX12_wordFrom 103 = .ok (.ireturn, 1) := by decide +kernel
theorem dX12_next_0 : decode cX12_next 0 = .ok (.aload_n 0, 1) := by decide +kernel
theorem dX12_next_1 : decode cX12_next 1 = .ok (.getfield 120, 3) := by decide +kernel
theorem dX12_next_4 : decode cX12_next 4 = .ok (.aload_n 0, 1) := by decide +kernel
theorem dX12_next_5 : decode cX12_next 5 = .ok (.getfield 83, 3) := by decide +kernel
theorem dX12_next_8 : decode cX12_next 8 = .ok (.if_icmp .ge 44, 3) := by decide +kernel
theorem dX12_next_11 : decode cX12_next 11 = .ok (.aload_n 0, 1) := by decide +kernel
theorem dX12_next_12 : decode cX12_next 12 = .ok (.getfield 35, 3) := by decide +kernel
theorem dX12_next_15 : decode cX12_next 15 = .ok (.aload_n 0, 1) := by decide +kernel
theorem dX12_next_16 : decode cX12_next 16 = .ok (.getfield 120, 3) := by decide +kernel
theorem dX12_next_19 : decode cX12_next 19 = .ok (.iaload, 1) := by decide +kernel
theorem dX12_next_20 : decode cX12_next 20 = .ok (.bipush 32, 2) := by decide +kernel
theorem dX12_next_22 : decode cX12_next 22 = .ok (.if_icmp .eq 17, 3) := by decide +kernel
theorem dX12_next_25 : decode cX12_next 25 = .ok (.aload_n 0, 1) := by decide +kernel
theorem dX12_next_26 : decode cX12_next 26 = .ok (.getfield 35, 3) := by decide +kernel
theorem dX12_next_29 : decode cX12_next 29 = .ok (.aload_n 0, 1) := by decide +kernel
theorem dX12_next_30 : decode cX12_next 30 = .ok (.getfield 120, 3) := by decide +kernel
theorem dX12_next_33 : decode cX12_next 33 = .ok (.iaload, 1) := by decide +kernel
theorem dX12_next_34 : decode cX12_next 34 = .ok (.bipush 10, 2) := by decide +kernel
theorem dX12_next_36 : decode cX12_next 36 = .ok (.if_icmp .ne 16, 3) := by decide +kernel
theorem dX12_next_39 : decode cX12_next 39 = .ok (.aload_n 0, 1) := by decide +kernel
theorem dX12_next_40 : decode cX12_next 40 = .ok (.dup, 1) := by decide +kernel
theorem dX12_next_41 : decode cX12_next 41 = .ok (.getfield 120, 3) := by decide +kernel
theorem dX12_next_44 : decode cX12_next 44 = .ok (.iconst 1, 1) := by decide +kernel
theorem dX12_next_45 : decode cX12_next 45 = .ok (.iadd, 1) := by decide +kernel
theorem dX12_next_46 : decode cX12_next 46 = .ok (.putfield 120, 3) := by decide +kernel
theorem dX12_next_49 : decode cX12_next 49 = .ok (.goto (-49), 3) := by decide +kernel
theorem dX12_next_52 : decode cX12_next 52 = .ok (.aload_n 0, 1) := by decide +kernel
theorem dX12_next_53 : decode cX12_next 53 = .ok (.aload_n 0, 1) := by decide +kernel
theorem dX12_next_54 : decode cX12_next 54 = .ok (.getfield 120, 3) := by decide +kernel
theorem dX12_next_57 : decode cX12_next 57 = .ok (.putfield 123, 3) := by decide +kernel
theorem dX12_next_60 : decode cX12_next 60 = .ok (.aload_n 0, 1) := by decide +kernel
theorem dX12_next_61 : decode cX12_next 61 = .ok (.iconst 0, 1) := by decide +kernel
theorem dX12_next_62 : decode cX12_next 62 = .ok (.putfield 126, 3) := by decide +kernel
theorem dX12_next_65 : decode cX12_next 65 = .ok (.aload_n 0, 1) := by decide +kernel
theorem dX12_next_66 : decode cX12_next 66 = .ok (.iconst 0, 1) := by decide +kernel
theorem dX12_next_67 : decode cX12_next 67 = .ok (.putfield 129, 3) := by decide +kernel
theorem dX12_next_70 : decode cX12_next 70 = .ok (.aload_n 0, 1) := by decide +kernel
theorem dX12_next_71 : decode cX12_next 71 = .ok (.getfield 120, 3) := by decide +kernel
theorem dX12_next_74 : decode cX12_next 74 = .ok (.aload_n 0, 1) := by decide +kernel
theorem dX12_next_75 : decode cX12_next 75 = .ok (.getfield 83, 3) := by decide +kernel
theorem dX12_next_78 : decode cX12_next 78 = .ok (.if_icmp .ne 4, 3) := by decide +kernel
theorem dX12_next_81 : decode cX12_next 81 = .ok (.return_, 1) := by decide +kernel
theorem dX12_next_82 : decode cX12_next 82 = .ok (.aload_n 0, 1) := by decide +kernel
theorem dX12_next_83 : decode cX12_next 83 = .ok (.getfield 35, 3) := by decide +kernel
theorem dX12_next_86 : decode cX12_next 86 = .ok (.aload_n 0, 1) := by decide +kernel
theorem dX12_next_87 : decode cX12_next 87 = .ok (.getfield 120, 3) := by decide +kernel
theorem dX12_next_90 : decode cX12_next 90 = .ok (.iaload, 1) := by decide +kernel
theorem dX12_next_91 : decode cX12_next 91 = .ok (.istore_n 1, 1) := by decide +kernel
theorem dX12_next_92 : decode cX12_next 92 = .ok (.iload_n 1, 1) := by decide +kernel
theorem dX12_next_93 : decode cX12_next 93 = .ok (.bipush 97, 2) := by decide +kernel
theorem dX12_next_95 : decode cX12_next 95 = .ok (.bipush 122, 2) := by decide +kernel
theorem dX12_next_97 : decode cX12_next 97 = .ok (.invokestatic 93, 3) := by decide +kernel
theorem dX12_next_100 : decode cX12_next 100 = .ok (.ifCond .eq 117, 3) := by decide +kernel
theorem dX12_next_103 : decode cX12_next 103 = .ok (.aload_n 0, 1) := by decide +kernel
theorem dX12_next_104 : decode cX12_next 104 = .ok (.getfield 120, 3) := by decide +kernel
theorem dX12_next_107 : decode cX12_next 107 = .ok (.aload_n 0, 1) := by decide +kernel
theorem dX12_next_108 : decode cX12_next 108 = .ok (.getfield 83, 3) := by decide +kernel
theorem dX12_next_111 : decode cX12_next 111 = .ok (.if_icmp .ge 35, 3) := by decide +kernel
theorem dX12_next_114 : decode cX12_next 114 = .ok (.aload_n 0, 1) := by decide +kernel
theorem dX12_next_115 : decode cX12_next 115 = .ok (.getfield 35, 3) := by decide +kernel
theorem dX12_next_118 : decode cX12_next 118 = .ok (.aload_n 0, 1) := by decide +kernel
theorem dX12_next_119 : decode cX12_next 119 = .ok (.getfield 120, 3) := by decide +kernel
theorem dX12_next_122 : decode cX12_next 122 = .ok (.iaload, 1) := by decide +kernel
theorem dX12_next_123 : decode cX12_next 123 = .ok (.bipush 97, 2) := by decide +kernel
theorem dX12_next_125 : decode cX12_next 125 = .ok (.bipush 122, 2) := by decide +kernel
theorem dX12_next_127 : decode cX12_next 127 = .ok (.invokestatic 93, 3) := by decide +kernel
theorem dX12_next_130 : decode cX12_next 130 = .ok (.ifCond .eq 16, 3) := by decide +kernel
theorem dX12_next_133 : decode cX12_next 133 = .ok (.aload_n 0, 1) := by decide +kernel
theorem dX12_next_134 : decode cX12_next 134 = .ok (.dup, 1) := by decide +kernel
theorem dX12_next_135 : decode cX12_next 135 = .ok (.getfield 120, 3) := by decide +kernel
theorem dX12_next_138 : decode cX12_next 138 = .ok (.iconst 1, 1) := by decide +kernel
theorem dX12_next_139 : decode cX12_next 139 = .ok (.iadd, 1) := by decide +kernel
theorem dX12_next_140 : decode cX12_next 140 = .ok (.putfield 120, 3) := by decide +kernel
theorem dX12_next_143 : decode cX12_next 143 = .ok (.goto (-40), 3) := by decide +kernel
theorem dX12_next_146 : decode cX12_next 146 = .ok (.aload_n 0, 1) := by decide +kernel
theorem dX12_next_147 : decode cX12_next 147 = .ok (.aload_n 0, 1) := by decide +kernel
theorem dX12_next_148 : decode cX12_next 148 = .ok (.getfield 123, 3) := by decide +kernel
theorem dX12_next_151 : decode cX12_next 151 = .ok (.aload_n 0, 1) := by decide +kernel
theorem dX12_next_152 : decode cX12_next 152 = .ok (.getfield 120, 3) := by decide +kernel
theorem dX12_next_155 : decode cX12_next 155 = .ok (.invokevirtual 132, 3) := by decide +kernel
theorem dX12_next_158 : decode cX12_next 158 = .ok (.istore_n 2, 1) := by decide +kernel
theorem dX12_next_159 : decode cX12_next 159 = .ok (.aload_n 0, 1) := by decide +kernel
theorem dX12_next_160 : decode cX12_next 160 = .ok (.iload_n 2, 1) := by decide +kernel
theorem dX12_next_161 : decode cX12_next 161 = .ok (.iconst 3, 1) := by decide +kernel
theorem dX12_next_162 : decode cX12_next 162 = .ok (.if_icmp .ge 7, 3) := by decide +kernel
theorem dX12_next_165 : decode cX12_next 165 = .ok (.iconst 3, 1) := by decide +kernel
theorem dX12_next_166 : decode cX12_next 166 = .ok (.goto 29, 3) := by decide +kernel
theorem dX12_next_169 : decode cX12_next 169 = .ok (.iload_n 2, 1) := by decide +kernel
theorem dX12_next_170 : decode cX12_next 170 = .ok (.bipush 9, 2) := by decide +kernel
theorem dX12_next_172 : decode cX12_next 172 = .ok (.if_icmp .ge 7, 3) := by decide +kernel
theorem dX12_next_175 : decode cX12_next 175 = .ok (.iconst 2, 1) := by decide +kernel
theorem dX12_next_176 : decode cX12_next 176 = .ok (.goto 19, 3) := by decide +kernel
theorem dX12_next_179 : decode cX12_next 179 = .ok (.iload_n 2, 1) := by decide +kernel
theorem dX12_next_180 : decode cX12_next 180 = .ok (.bipush 12, 2) := by decide +kernel
theorem dX12_next_182 : decode cX12_next 182 = .ok (.if_icmp .ne 7, 3) := by decide +kernel
theorem dX12_next_185 : decode cX12_next 185 = .ok (.iconst (-1), 1) := by decide +kernel
theorem dX12_next_186 : decode cX12_next 186 = .ok (.goto 9, 3) := by decide +kernel
theorem dX12_next_189 : decode cX12_next 189 = .ok (.iconst 4, 1) := by decide +kernel
theorem dX12_next_190 : decode cX12_next 190 = .ok (.iload_n 2, 1) := by decide +kernel
theorem dX12_next_191 : decode cX12_next 191 = .ok (.iadd, 1) := by decide +kernel
theorem dX12_next_192 : decode cX12_next 192 = .ok (.bipush 9, 2) := by decide +kernel
theorem dX12_next_194 : decode cX12_next 194 = .ok (.isub, 1) := by decide +kernel
theorem dX12_next_195 : decode cX12_next 195 = .ok (.putfield 126, 3) := by decide +kernel
theorem dX12_next_198 : decode cX12_next 198 = .ok (.aload_n 0, 1) := by decide +kernel
theorem dX12_next_199 : decode cX12_next 199 = .ok (.iload_n 2, 1) := by decide +kernel
theorem dX12_next_200 : decode cX12_next 200 = .ok (.iconst 3, 1) := by decide +kernel
theorem dX12_next_201 : decode cX12_next 201 = .ok (.if_icmp .ge 7, 3) := by decide +kernel
theorem dX12_next_204 : decode cX12_next 204 = .ok (.iload_n 2, 1) := by decide +kernel
theorem dX12_next_205 : decode cX12_next 205 = .ok (.goto 6, 3) := by decide +kernel
theorem dX12_next_208 : decode cX12_next 208 = .ok (.iload_n 2, 1) := by decide +kernel
theorem dX12_next_209 : decode cX12_next 209 = .ok (.iconst 3, 1) := by decide +kernel
theorem dX12_next_210 : decode cX12_next 210 = .ok (.isub, 1) := by decide +kernel
theorem dX12_next_211 : decode cX12_next 211 = .ok (.putfield 129, 3) := by decide +kernel
theorem dX12_next_214 : decode cX12_next 214 = .ok (.goto 189, 3) := by decide +kernel
theorem dX12_next_217 : decode cX12_next 217 = .ok (.iload_n 1, 1) := by decide +kernel
theorem dX12_next_218 : decode cX12_next 218 = .ok (.bipush 48, 2) := by decide +kernel
theorem dX12_next_220 : decode cX12_next 220 = .ok (.bipush 57, 2) := by decide +kernel
theorem dX12_next_222 : decode cX12_next 222 = .ok (.invokestatic 93, 3) := by decide +kernel
theorem dX12_next_225 : decode cX12_next 225 = .ok (.ifCond .eq 101, 3) := by decide +kernel
theorem dX12_next_228 : decode cX12_next 228 = .ok (.iconst 0, 1) := by decide +kernel
theorem dX12_next_229 : decode cX12_next 229 = .ok (.istore_n 2, 1) := by decide +kernel
theorem dX12_next_230 : decode cX12_next 230 = .ok (.aload_n 0, 1) := by decide +kernel
theorem dX12_next_231 : decode cX12_next 231 = .ok (.getfield 120, 3) := by decide +kernel
theorem dX12_next_234 : decode cX12_next 234 = .ok (.aload_n 0, 1) := by decide +kernel
theorem dX12_next_235 : decode cX12_next 235 = .ok (.getfield 83, 3) := by decide +kernel
theorem dX12_next_238 : decode cX12_next 238 = .ok (.if_icmp .ge 71, 3) := by decide +kernel
theorem dX12_next_241 : decode cX12_next 241 = .ok (.aload_n 0, 1) := by decide +kernel
theorem dX12_next_242 : decode cX12_next 242 = .ok (.getfield 35, 3) := by decide +kernel
theorem dX12_next_245 : decode cX12_next 245 = .ok (.aload_n 0, 1) := by decide +kernel
theorem dX12_next_246 : decode cX12_next 246 = .ok (.getfield 120, 3) := by decide +kernel
theorem dX12_next_249 : decode cX12_next 249 = .ok (.iaload, 1) := by decide +kernel
theorem dX12_next_250 : decode cX12_next 250 = .ok (.bipush 48, 2) := by decide +kernel
theorem dX12_next_252 : decode cX12_next 252 = .ok (.bipush 57, 2) := by decide +kernel
theorem dX12_next_254 : decode cX12_next 254 = .ok (.invokestatic 93, 3) := by decide +kernel
theorem dX12_next_257 : decode cX12_next 257 = .ok (.ifCond .eq 52, 3) := by decide +kernel
theorem dX12_next_260 : decode cX12_next 260 = .ok (.aload_n 0, 1) := by decide +kernel
theorem dX12_next_261 : decode cX12_next 261 = .ok (.iload_n 2, 1) := by decide +kernel
theorem dX12_next_262 : decode cX12_next 262 = .ok (.iconst 4, 1) := by decide +kernel
theorem dX12_next_263 : decode cX12_next 263 = .ok (.if_icmp .ge 26, 3) := by decide +kernel
theorem dX12_next_266 : decode cX12_next 266 = .ok (.bipush 10, 2) := by decide +kernel
theorem dX12_next_268 : decode cX12_next 268 = .ok (.aload_n 0, 1) := by decide +kernel
theorem dX12_next_269 : decode cX12_next 269 = .ok (.getfield 129, 3) := by decide +kernel
theorem dX12_next_272 : decode cX12_next 272 = .ok (.imul, 1) := by decide +kernel
theorem dX12_next_273 : decode cX12_next 273 = .ok (.aload_n 0, 1) := by decide +kernel
theorem dX12_next_274 : decode cX12_next 274 = .ok (.getfield 35, 3) := by decide +kernel
theorem dX12_next_277 : decode cX12_next 277 = .ok (.aload_n 0, 1) := by decide +kernel
theorem dX12_next_278 : decode cX12_next 278 = .ok (.getfield 120, 3) := by decide +kernel
theorem dX12_next_281 : decode cX12_next 281 = .ok (.iaload, 1) := by decide +kernel
theorem dX12_next_282 : decode cX12_next 282 = .ok (.iadd, 1) := by decide +kernel
theorem dX12_next_283 : decode cX12_next 283 = .ok (.bipush 48, 2) := by decide +kernel
theorem dX12_next_285 : decode cX12_next 285 = .ok (.isub, 1) := by decide +kernel
theorem dX12_next_286 : decode cX12_next 286 = .ok (.goto 4, 3) := by decide +kernel
theorem dX12_next_289 : decode cX12_next 289 = .ok (.iconst 0, 1) := by decide +kernel
theorem dX12_next_290 : decode cX12_next 290 = .ok (.putfield 129, 3) := by decide +kernel
theorem dX12_next_293 : decode cX12_next 293 = .ok (.iinc 2 1, 3) := by decide +kernel
theorem dX12_next_296 : decode cX12_next 296 = .ok (.aload_n 0, 1) := by decide +kernel
theorem dX12_next_297 : decode cX12_next 297 = .ok (.dup, 1) := by decide +kernel
theorem dX12_next_298 : decode cX12_next 298 = .ok (.getfield 120, 3) := by decide +kernel
theorem dX12_next_301 : decode cX12_next 301 = .ok (.iconst 1, 1) := by decide +kernel
theorem dX12_next_302 : decode cX12_next 302 = .ok (.iadd, 1) := by decide +kernel
theorem dX12_next_303 : decode cX12_next 303 = .ok (.putfield 120, 3) := by decide +kernel
theorem dX12_next_306 : decode cX12_next 306 = .ok (.goto (-76), 3) := by decide +kernel
theorem dX12_next_309 : decode cX12_next 309 = .ok (.aload_n 0, 1) := by decide +kernel
theorem dX12_next_310 : decode cX12_next 310 = .ok (.iload_n 2, 1) := by decide +kernel
theorem dX12_next_311 : decode cX12_next 311 = .ok (.iconst 4, 1) := by decide +kernel
theorem dX12_next_312 : decode cX12_next 312 = .ok (.if_icmp .le 7, 3) := by decide +kernel
theorem dX12_next_315 : decode cX12_next 315 = .ok (.iconst (-1), 1) := by decide +kernel
theorem dX12_next_316 : decode cX12_next 316 = .ok (.goto 4, 3) := by decide +kernel
theorem dX12_next_319 : decode cX12_next 319 = .ok (.iconst 1, 1) := by decide +kernel
theorem dX12_next_320 : decode cX12_next 320 = .ok (.putfield 126, 3) := by decide +kernel
theorem dX12_next_323 : decode cX12_next 323 = .ok (.goto 80, 3) := by decide +kernel
theorem dX12_next_326 : decode cX12_next 326 = .ok (.iload_n 1, 1) := by decide +kernel
theorem dX12_next_327 : decode cX12_next 327 = .ok (.bipush 40, 2) := by decide +kernel
theorem dX12_next_329 : decode cX12_next 329 = .ok (.if_icmp .eq 45, 3) := by decide +kernel
theorem dX12_next_332 : decode cX12_next 332 = .ok (.iload_n 1, 1) := by decide +kernel
theorem dX12_next_333 : decode cX12_next 333 = .ok (.bipush 41, 2) := by decide +kernel
theorem dX12_next_335 : decode cX12_next 335 = .ok (.if_icmp .eq 39, 3) := by decide +kernel
theorem dX12_next_338 : decode cX12_next 338 = .ok (.iload_n 1, 1) := by decide +kernel
theorem dX12_next_339 : decode cX12_next 339 = .ok (.bipush 59, 2) := by decide +kernel
theorem dX12_next_341 : decode cX12_next 341 = .ok (.if_icmp .eq 33, 3) := by decide +kernel
theorem dX12_next_344 : decode cX12_next 344 = .ok (.iload_n 1, 1) := by decide +kernel
theorem dX12_next_345 : decode cX12_next 345 = .ok (.bipush 43, 2) := by decide +kernel
theorem dX12_next_347 : decode cX12_next 347 = .ok (.if_icmp .eq 27, 3) := by decide +kernel
theorem dX12_next_350 : decode cX12_next 350 = .ok (.iload_n 1, 1) := by decide +kernel
theorem dX12_next_351 : decode cX12_next 351 = .ok (.bipush 45, 2) := by decide +kernel
theorem dX12_next_353 : decode cX12_next 353 = .ok (.if_icmp .eq 21, 3) := by decide +kernel
theorem dX12_next_356 : decode cX12_next 356 = .ok (.iload_n 1, 1) := by decide +kernel
theorem dX12_next_357 : decode cX12_next 357 = .ok (.bipush 42, 2) := by decide +kernel
theorem dX12_next_359 : decode cX12_next 359 = .ok (.if_icmp .eq 15, 3) := by decide +kernel
theorem dX12_next_362 : decode cX12_next 362 = .ok (.iload_n 1, 1) := by decide +kernel
theorem dX12_next_363 : decode cX12_next 363 = .ok (.bipush 60, 2) := by decide +kernel
theorem dX12_next_365 : decode cX12_next 365 = .ok (.if_icmp .eq 9, 3) := by decide +kernel
theorem dX12_next_368 : decode cX12_next 368 = .ok (.iload_n 1, 1) := by decide +kernel
theorem dX12_next_369 : decode cX12_next 369 = .ok (.bipush 61, 2) := by decide +kernel
theorem dX12_next_371 : decode cX12_next 371 = .ok (.if_icmp .ne 7, 3) := by decide +kernel
theorem dX12_next_374 : decode cX12_next 374 = .ok (.iconst 1, 1) := by decide +kernel
theorem dX12_next_375 : decode cX12_next 375 = .ok (.goto 4, 3) := by decide +kernel
theorem dX12_next_378 : decode cX12_next 378 = .ok (.iconst 0, 1) := by decide +kernel
theorem dX12_next_379 : decode cX12_next 379 = .ok (.istore_n 2, 1) := by decide +kernel
theorem dX12_next_380 : decode cX12_next 380 = .ok (.aload_n 0, 1) := by decide +kernel
theorem dX12_next_381 : decode cX12_next 381 = .ok (.iload_n 2, 1) := by decide +kernel
theorem dX12_next_382 : decode cX12_next 382 = .ok (.ifCond .eq 7, 3) := by decide +kernel
theorem dX12_next_385 : decode cX12_next 385 = .ok (.iload_n 1, 1) := by decide +kernel
theorem dX12_next_386 : decode cX12_next 386 = .ok (.goto 4, 3) := by decide +kernel
theorem dX12_next_389 : decode cX12_next 389 = .ok (.iconst (-1), 1) := by decide +kernel
theorem dX12_next_390 : decode cX12_next 390 = .ok (.putfield 126, 3) := by decide +kernel
theorem dX12_next_393 : decode cX12_next 393 = .ok (.aload_n 0, 1) := by decide +kernel
theorem dX12_next_394 : decode cX12_next 394 = .ok (.dup, 1) := by decide +kernel
theorem dX12_next_395 : decode cX12_next 395 = .ok (.getfield 120, 3) := by decide +kernel
theorem dX12_next_398 : decode cX12_next 398 = .ok (.iconst 1, 1) := by decide +kernel
theorem dX12_next_399 : decode cX12_next 399 = .ok (.iadd, 1) := by decide +kernel
theorem dX12_next_400 : decode cX12_next 400 = .ok (.putfield 120, 3) := by decide +kernel
theorem dX12_next_403 : decode cX12_next 403 = .ok (.return_, 1) := by decide +kernel
theorem dX12_rank_0 : decode cX12_rank 0 = .ok (.iload_n 0, 1) := by decide +kernel
theorem dX12_rank_1 : decode cX12_rank 1 = .ok (.ifCond .ne 7, 3) := by decide +kernel
theorem dX12_rank_4 : decode cX12_rank 4 = .ok (.iconst 0, 1) := by decide +kernel
theorem dX12_rank_5 : decode cX12_rank 5 = .ok (.goto 66, 3) := by decide +kernel
theorem dX12_rank_8 : decode cX12_rank 8 = .ok (.iload_n 0, 1) := by decide +kernel
theorem dX12_rank_9 : decode cX12_rank 9 = .ok (.bipush 11, 2) := by decide +kernel
theorem dX12_rank_11 : decode cX12_rank 11 = .ok (.if_icmp .ne 7, 3) := by decide +kernel
theorem dX12_rank_14 : decode cX12_rank 14 = .ok (.iconst 1, 1) := by decide +kernel
theorem dX12_rank_15 : decode cX12_rank 15 = .ok (.goto 56, 3) := by decide +kernel
theorem dX12_rank_18 : decode cX12_rank 18 = .ok (.iload_n 0, 1) := by decide +kernel
theorem dX12_rank_19 : decode cX12_rank 19 = .ok (.bipush 12, 2) := by decide +kernel
theorem dX12_rank_21 : decode cX12_rank 21 = .ok (.if_icmp .ne 7, 3) := by decide +kernel
theorem dX12_rank_24 : decode cX12_rank 24 = .ok (.iconst 2, 1) := by decide +kernel
theorem dX12_rank_25 : decode cX12_rank 25 = .ok (.goto 46, 3) := by decide +kernel
theorem dX12_rank_28 : decode cX12_rank 28 = .ok (.iload_n 0, 1) := by decide +kernel
theorem dX12_rank_29 : decode cX12_rank 29 = .ok (.bipush 13, 2) := by decide +kernel
theorem dX12_rank_31 : decode cX12_rank 31 = .ok (.if_icmp .ne 7, 3) := by decide +kernel
theorem dX12_rank_34 : decode cX12_rank 34 = .ok (.iconst 3, 1) := by decide +kernel
theorem dX12_rank_35 : decode cX12_rank 35 = .ok (.goto 36, 3) := by decide +kernel
theorem dX12_rank_38 : decode cX12_rank 38 = .ok (.iload_n 0, 1) := by decide +kernel
theorem dX12_rank_39 : decode cX12_rank 39 = .ok (.bipush 15, 2) := by decide +kernel
theorem dX12_rank_41 : decode cX12_rank 41 = .ok (.if_icmp .gt 7, 3) := by decide +kernel
theorem dX12_rank_44 : decode cX12_rank 44 = .ok (.iconst 4, 1) := by decide +kernel
theorem dX12_rank_45 : decode cX12_rank 45 = .ok (.goto 26, 3) := by decide +kernel
theorem dX12_rank_48 : decode cX12_rank 48 = .ok (.iload_n 0, 1) := by decide +kernel
theorem dX12_rank_49 : decode cX12_rank 49 = .ok (.bipush 17, 2) := by decide +kernel
theorem dX12_rank_51 : decode cX12_rank 51 = .ok (.if_icmp .gt 7, 3) := by decide +kernel
theorem dX12_rank_54 : decode cX12_rank 54 = .ok (.iconst 5, 1) := by decide +kernel
theorem dX12_rank_55 : decode cX12_rank 55 = .ok (.goto 16, 3) := by decide +kernel
theorem dX12_rank_58 : decode cX12_rank 58 = .ok (.iload_n 0, 1) := by decide +kernel
theorem dX12_rank_59 : decode cX12_rank 59 = .ok (.bipush 18, 2) := by decide +kernel
theorem dX12_rank_61 : decode cX12_rank 61 = .ok (.if_icmp .ne 8, 3) := by decide +kernel
theorem dX12_rank_64 : decode cX12_rank 64 = .ok (.bipush 6, 2) := by decide +kernel
theorem dX12_rank_66 : decode cX12_rank 66 = .ok (.goto 5, 3) := by decide +kernel
theorem dX12_rank_69 : decode cX12_rank 69 = .ok (.bipush 7, 2) := by decide +kernel
theorem dX12_rank_71 : decode cX12_rank 71 = .ok (.ireturn, 1) := by decide +kernel
theorem dX12_puts_0 : decode cX12_puts 0 = .ok (.aload_n 0, 1) := by decide +kernel
theorem dX12_puts_1 : decode cX12_puts 1 = .ok (.getfield 38, 3) := by decide +kernel
theorem dX12_puts_4 : decode cX12_puts 4 = .ok (.sipush 200, 3) := by decide +kernel
theorem dX12_puts_7 : decode cX12_puts 7 = .ok (.aload_n 0, 1) := by decide +kernel
theorem dX12_puts_8 : decode cX12_puts 8 = .ok (.getfield 103, 3) := by decide +kernel
theorem dX12_puts_11 : decode cX12_puts 11 = .ok (.imul, 1) := by decide +kernel
theorem dX12_puts_12 : decode cX12_puts 12 = .ok (.aload_n 0, 1) := by decide +kernel
theorem dX12_puts_13 : decode cX12_puts 13 = .ok (.getfield 135, 3) := by decide +kernel
theorem dX12_puts_16 : decode cX12_puts 16 = .ok (.iadd, 1) := by decide +kernel
theorem dX12_puts_17 : decode cX12_puts 17 = .ok (.iload_n 1, 1) := by decide +kernel
theorem dX12_puts_18 : decode cX12_puts 18 = .ok (.iastore, 1) := by decide +kernel
theorem dX12_puts_19 : decode cX12_puts 19 = .ok (.aload_n 0, 1) := by decide +kernel
theorem dX12_puts_20 : decode cX12_puts 20 = .ok (.dup, 1) := by decide +kernel
theorem dX12_puts_21 : decode cX12_puts 21 = .ok (.getfield 135, 3) := by decide +kernel
theorem dX12_puts_24 : decode cX12_puts 24 = .ok (.iconst 1, 1) := by decide +kernel
theorem dX12_puts_25 : decode cX12_puts 25 = .ok (.iadd, 1) := by decide +kernel
theorem dX12_puts_26 : decode cX12_puts 26 = .ok (.putfield 135, 3) := by decide +kernel
theorem dX12_puts_29 : decode cX12_puts 29 = .ok (.return_, 1) := by decide +kernel
theorem dX12_unwinds_0 : decode cX12_unwinds 0 = .ok (.aload_n 0, 1) := by decide +kernel
theorem dX12_unwinds_1 : decode cX12_unwinds 1 = .ok (.getfield 138, 3) := by decide +kernel
theorem dX12_unwinds_4 : decode cX12_unwinds 4 = .ok (.ifCond .le 75, 3) := by decide +kernel
theorem dX12_unwinds_7 : decode cX12_unwinds 7 = .ok (.aload_n 0, 1) := by decide +kernel
theorem dX12_unwinds_8 : decode cX12_unwinds 8 = .ok (.getfield 62, 3) := by decide +kernel
theorem dX12_unwinds_11 : decode cX12_unwinds 11 = .ok (.aload_n 0, 1) := by decide +kernel
theorem dX12_unwinds_12 : decode cX12_unwinds 12 = .ok (.getfield 138, 3) := by decide +kernel
theorem dX12_unwinds_15 : decode cX12_unwinds 15 = .ok (.iconst 1, 1) := by decide +kernel
theorem dX12_unwinds_16 : decode cX12_unwinds 16 = .ok (.isub, 1) := by decide +kernel
theorem dX12_unwinds_17 : decode cX12_unwinds 17 = .ok (.iaload, 1) := by decide +kernel
theorem dX12_unwinds_18 : decode cX12_unwinds 18 = .ok (.invokestatic 141, 3) := by decide +kernel
theorem dX12_unwinds_21 : decode cX12_unwinds 21 = .ok (.iload_n 1, 1) := by decide +kernel
theorem dX12_unwinds_22 : decode cX12_unwinds 22 = .ok (.if_icmp .lt 57, 3) := by decide +kernel
theorem dX12_unwinds_25 : decode cX12_unwinds 25 = .ok (.aload_n 0, 1) := by decide +kernel
theorem dX12_unwinds_26 : decode cX12_unwinds 26 = .ok (.dup, 1) := by decide +kernel
theorem dX12_unwinds_27 : decode cX12_unwinds 27 = .ok (.getfield 138, 3) := by decide +kernel
theorem dX12_unwinds_30 : decode cX12_unwinds 30 = .ok (.iconst 1, 1) := by decide +kernel
theorem dX12_unwinds_31 : decode cX12_unwinds 31 = .ok (.isub, 1) := by decide +kernel
theorem dX12_unwinds_32 : decode cX12_unwinds 32 = .ok (.putfield 138, 3) := by decide +kernel
theorem dX12_unwinds_35 : decode cX12_unwinds 35 = .ok (.aload_n 0, 1) := by decide +kernel
theorem dX12_unwinds_36 : decode cX12_unwinds 36 = .ok (.getfield 62, 3) := by decide +kernel
theorem dX12_unwinds_39 : decode cX12_unwinds 39 = .ok (.aload_n 0, 1) := by decide +kernel
theorem dX12_unwinds_40 : decode cX12_unwinds 40 = .ok (.getfield 138, 3) := by decide +kernel
theorem dX12_unwinds_43 : decode cX12_unwinds 43 = .ok (.iaload, 1) := by decide +kernel
theorem dX12_unwinds_44 : decode cX12_unwinds 44 = .ok (.istore_n 2, 1) := by decide +kernel
theorem dX12_unwinds_45 : decode cX12_unwinds 45 = .ok (.aload_n 0, 1) := by decide +kernel
theorem dX12_unwinds_46 : decode cX12_unwinds 46 = .ok (.dup, 1) := by decide +kernel
theorem dX12_unwinds_47 : decode cX12_unwinds 47 = .ok (.getfield 145, 3) := by decide +kernel
theorem dX12_unwinds_50 : decode cX12_unwinds 50 = .ok (.iload_n 2, 1) := by decide +kernel
theorem dX12_unwinds_51 : decode cX12_unwinds 51 = .ok (.bipush 13, 2) := by decide +kernel
theorem dX12_unwinds_53 : decode cX12_unwinds 53 = .ok (.if_icmp .eq 9, 3) := by decide +kernel
theorem dX12_unwinds_56 : decode cX12_unwinds 56 = .ok (.iload_n 2, 1) := by decide +kernel
theorem dX12_unwinds_57 : decode cX12_unwinds 57 = .ok (.bipush 19, 2) := by decide +kernel
theorem dX12_unwinds_59 : decode cX12_unwinds 59 = .ok (.if_icmp .ne 7, 3) := by decide +kernel
theorem dX12_unwinds_62 : decode cX12_unwinds 62 = .ok (.iconst 1, 1) := by decide +kernel
theorem dX12_unwinds_63 : decode cX12_unwinds 63 = .ok (.goto 4, 3) := by decide +kernel
theorem dX12_unwinds_66 : decode cX12_unwinds 66 = .ok (.iconst 0, 1) := by decide +kernel
theorem dX12_unwinds_67 : decode cX12_unwinds 67 = .ok (.isub, 1) := by decide +kernel
theorem dX12_unwinds_68 : decode cX12_unwinds 68 = .ok (.putfield 145, 3) := by decide +kernel
theorem dX12_unwinds_71 : decode cX12_unwinds 71 = .ok (.aload_n 0, 1) := by decide +kernel
theorem dX12_unwinds_72 : decode cX12_unwinds 72 = .ok (.iload_n 2, 1) := by decide +kernel
theorem dX12_unwinds_73 : decode cX12_unwinds 73 = .ok (.invokevirtual 148, 3) := by decide +kernel
theorem dX12_unwinds_76 : decode cX12_unwinds 76 = .ok (.goto (-76), 3) := by decide +kernel
theorem dX12_unwinds_79 : decode cX12_unwinds 79 = .ok (.return_, 1) := by decide +kernel
theorem dX12_holds_0 : decode cX12_holds 0 = .ok (.aload_n 0, 1) := by decide +kernel
theorem dX12_holds_1 : decode cX12_holds 1 = .ok (.getfield 62, 3) := by decide +kernel
theorem dX12_holds_4 : decode cX12_holds 4 = .ok (.aload_n 0, 1) := by decide +kernel
theorem dX12_holds_5 : decode cX12_holds 5 = .ok (.getfield 138, 3) := by decide +kernel
theorem dX12_holds_8 : decode cX12_holds 8 = .ok (.iload_n 1, 1) := by decide +kernel
theorem dX12_holds_9 : decode cX12_holds 9 = .ok (.iastore, 1) := by decide +kernel
theorem dX12_holds_10 : decode cX12_holds 10 = .ok (.aload_n 0, 1) := by decide +kernel
theorem dX12_holds_11 : decode cX12_holds 11 = .ok (.dup, 1) := by decide +kernel
theorem dX12_holds_12 : decode cX12_holds 12 = .ok (.getfield 138, 3) := by decide +kernel
theorem dX12_holds_15 : decode cX12_holds 15 = .ok (.iconst 1, 1) := by decide +kernel
theorem dX12_holds_16 : decode cX12_holds 16 = .ok (.iadd, 1) := by decide +kernel
theorem dX12_holds_17 : decode cX12_holds 17 = .ok (.putfield 138, 3) := by decide +kernel
theorem dX12_holds_20 : decode cX12_holds 20 = .ok (.return_, 1) := by decide +kernel
theorem dX12_opensOne_0 : decode cX12_opensOne 0 = .ok (.aload_n 0, 1) := by decide +kernel
theorem dX12_opensOne_1 : decode cX12_opensOne 1 = .ok (.getfield 145, 3) := by decide +kernel
theorem dX12_opensOne_4 : decode cX12_opensOne 4 = .ok (.iconst 5, 1) := by decide +kernel
theorem dX12_opensOne_5 : decode cX12_opensOne 5 = .ok (.if_icmp .ne 5, 3) := by decide +kernel
theorem dX12_opensOne_8 : decode cX12_opensOne 8 = .ok (.iconst 0, 1) := by decide +kernel
theorem dX12_opensOne_9 : decode cX12_opensOne 9 = .ok (.ireturn, 1) := by decide +kernel
theorem dX12_opensOne_10 : decode cX12_opensOne 10 = .ok (.aload_n 0, 1) := by decide +kernel
theorem dX12_opensOne_11 : decode cX12_opensOne 11 = .ok (.dup, 1) := by decide +kernel
theorem dX12_opensOne_12 : decode cX12_opensOne 12 = .ok (.getfield 145, 3) := by decide +kernel
theorem dX12_opensOne_15 : decode cX12_opensOne 15 = .ok (.iconst 1, 1) := by decide +kernel
theorem dX12_opensOne_16 : decode cX12_opensOne 16 = .ok (.iadd, 1) := by decide +kernel
theorem dX12_opensOne_17 : decode cX12_opensOne 17 = .ok (.putfield 145, 3) := by decide +kernel
theorem dX12_opensOne_20 : decode cX12_opensOne 20 = .ok (.aload_n 0, 1) := by decide +kernel
theorem dX12_opensOne_21 : decode cX12_opensOne 21 = .ok (.iload_n 1, 1) := by decide +kernel
theorem dX12_opensOne_22 : decode cX12_opensOne 22 = .ok (.invokevirtual 152, 3) := by decide +kernel
theorem dX12_opensOne_25 : decode cX12_opensOne 25 = .ok (.iconst 1, 1) := by decide +kernel
theorem dX12_opensOne_26 : decode cX12_opensOne 26 = .ok (.ireturn, 1) := by decide +kernel
theorem dX12_between_0 : decode cX12_between 0 = .ok (.aload_n 0, 1) := by decide +kernel
theorem dX12_between_1 : decode cX12_between 1 = .ok (.iload_n 1, 1) := by decide +kernel
theorem dX12_between_2 : decode cX12_between 2 = .ok (.invokestatic 141, 3) := by decide +kernel
theorem dX12_between_5 : decode cX12_between 5 = .ok (.iconst 4, 1) := by decide +kernel
theorem dX12_between_6 : decode cX12_between 6 = .ok (.if_icmp .ne 7, 3) := by decide +kernel
theorem dX12_between_9 : decode cX12_between 9 = .ok (.iconst 5, 1) := by decide +kernel
theorem dX12_between_10 : decode cX12_between 10 = .ok (.goto 7, 3) := by decide +kernel
theorem dX12_between_13 : decode cX12_between 13 = .ok (.iload_n 1, 1) := by decide +kernel
theorem dX12_between_14 : decode cX12_between 14 = .ok (.invokestatic 141, 3) := by decide +kernel
theorem dX12_between_17 : decode cX12_between 17 = .ok (.invokevirtual 155, 3) := by decide +kernel
theorem dX12_between_20 : decode cX12_between 20 = .ok (.iload_n 1, 1) := by decide +kernel
theorem dX12_between_21 : decode cX12_between 21 = .ok (.invokestatic 141, 3) := by decide +kernel
theorem dX12_between_24 : decode cX12_between 24 = .ok (.iconst 4, 1) := by decide +kernel
theorem dX12_between_25 : decode cX12_between 25 = .ok (.if_icmp .ne 30, 3) := by decide +kernel
theorem dX12_between_28 : decode cX12_between 28 = .ok (.aload_n 0, 1) := by decide +kernel
theorem dX12_between_29 : decode cX12_between 29 = .ok (.getfield 138, 3) := by decide +kernel
theorem dX12_between_32 : decode cX12_between 32 = .ok (.ifCond .le 23, 3) := by decide +kernel
theorem dX12_between_35 : decode cX12_between 35 = .ok (.aload_n 0, 1) := by decide +kernel
theorem dX12_between_36 : decode cX12_between 36 = .ok (.getfield 62, 3) := by decide +kernel
theorem dX12_between_39 : decode cX12_between 39 = .ok (.aload_n 0, 1) := by decide +kernel
theorem dX12_between_40 : decode cX12_between 40 = .ok (.getfield 138, 3) := by decide +kernel
theorem dX12_between_43 : decode cX12_between 43 = .ok (.iconst 1, 1) := by decide +kernel
theorem dX12_between_44 : decode cX12_between 44 = .ok (.isub, 1) := by decide +kernel
theorem dX12_between_45 : decode cX12_between 45 = .ok (.iaload, 1) := by decide +kernel
theorem dX12_between_46 : decode cX12_between 46 = .ok (.invokestatic 141, 3) := by decide +kernel
theorem dX12_between_49 : decode cX12_between 49 = .ok (.iconst 4, 1) := by decide +kernel
theorem dX12_between_50 : decode cX12_between 50 = .ok (.if_icmp .ne 5, 3) := by decide +kernel
theorem dX12_between_53 : decode cX12_between 53 = .ok (.iconst 0, 1) := by decide +kernel
theorem dX12_between_54 : decode cX12_between 54 = .ok (.ireturn, 1) := by decide +kernel
theorem dX12_between_55 : decode cX12_between 55 = .ok (.aload_n 0, 1) := by decide +kernel
theorem dX12_between_56 : decode cX12_between 56 = .ok (.iload_n 1, 1) := by decide +kernel
theorem dX12_between_57 : decode cX12_between 57 = .ok (.invokevirtual 152, 3) := by decide +kernel
theorem dX12_between_60 : decode cX12_between 60 = .ok (.iconst 1, 1) := by decide +kernel
theorem dX12_between_61 : decode cX12_between 61 = .ok (.ireturn, 1) := by decide +kernel
theorem dX12_signOf_0 : decode cX12_signOf 0 = .ok (.aload_n 0, 1) := by decide +kernel
theorem dX12_signOf_1 : decode cX12_signOf 1 = .ok (.getfield 126, 3) := by decide +kernel
theorem dX12_signOf_4 : decode cX12_signOf 4 = .ok (.iconst 4, 1) := by decide +kernel
theorem dX12_signOf_5 : decode cX12_signOf 5 = .ok (.if_icmp .ne 8, 3) := by decide +kernel
theorem dX12_signOf_8 : decode cX12_signOf 8 = .ok (.bipush 11, 2) := by decide +kernel
theorem dX12_signOf_10 : decode cX12_signOf 10 = .ok (.goto 87, 3) := by decide +kernel
theorem dX12_signOf_13 : decode cX12_signOf 13 = .ok (.aload_n 0, 1) := by decide +kernel
theorem dX12_signOf_14 : decode cX12_signOf 14 = .ok (.getfield 126, 3) := by decide +kernel
theorem dX12_signOf_17 : decode cX12_signOf 17 = .ok (.iconst 5, 1) := by decide +kernel
theorem dX12_signOf_18 : decode cX12_signOf 18 = .ok (.if_icmp .ne 8, 3) := by decide +kernel
theorem dX12_signOf_21 : decode cX12_signOf 21 = .ok (.bipush 12, 2) := by decide +kernel
theorem dX12_signOf_23 : decode cX12_signOf 23 = .ok (.goto 74, 3) := by decide +kernel
theorem dX12_signOf_26 : decode cX12_signOf 26 = .ok (.aload_n 0, 1) := by decide +kernel
theorem dX12_signOf_27 : decode cX12_signOf 27 = .ok (.getfield 126, 3) := by decide +kernel
theorem dX12_signOf_30 : decode cX12_signOf 30 = .ok (.bipush 60, 2) := by decide +kernel
theorem dX12_signOf_32 : decode cX12_signOf 32 = .ok (.if_icmp .ne 8, 3) := by decide +kernel
theorem dX12_signOf_35 : decode cX12_signOf 35 = .ok (.bipush 14, 2) := by decide +kernel
theorem dX12_signOf_37 : decode cX12_signOf 37 = .ok (.goto 60, 3) := by decide +kernel
theorem dX12_signOf_40 : decode cX12_signOf 40 = .ok (.aload_n 0, 1) := by decide +kernel
theorem dX12_signOf_41 : decode cX12_signOf 41 = .ok (.getfield 126, 3) := by decide +kernel
theorem dX12_signOf_44 : decode cX12_signOf 44 = .ok (.bipush 61, 2) := by decide +kernel
theorem dX12_signOf_46 : decode cX12_signOf 46 = .ok (.if_icmp .ne 8, 3) := by decide +kernel
theorem dX12_signOf_49 : decode cX12_signOf 49 = .ok (.bipush 15, 2) := by decide +kernel
theorem dX12_signOf_51 : decode cX12_signOf 51 = .ok (.goto 46, 3) := by decide +kernel
theorem dX12_signOf_54 : decode cX12_signOf 54 = .ok (.aload_n 0, 1) := by decide +kernel
theorem dX12_signOf_55 : decode cX12_signOf 55 = .ok (.getfield 126, 3) := by decide +kernel
theorem dX12_signOf_58 : decode cX12_signOf 58 = .ok (.bipush 43, 2) := by decide +kernel
theorem dX12_signOf_60 : decode cX12_signOf 60 = .ok (.if_icmp .ne 8, 3) := by decide +kernel
theorem dX12_signOf_63 : decode cX12_signOf 63 = .ok (.bipush 16, 2) := by decide +kernel
theorem dX12_signOf_65 : decode cX12_signOf 65 = .ok (.goto 32, 3) := by decide +kernel
theorem dX12_signOf_68 : decode cX12_signOf 68 = .ok (.aload_n 0, 1) := by decide +kernel
theorem dX12_signOf_69 : decode cX12_signOf 69 = .ok (.getfield 126, 3) := by decide +kernel
theorem dX12_signOf_72 : decode cX12_signOf 72 = .ok (.bipush 45, 2) := by decide +kernel
theorem dX12_signOf_74 : decode cX12_signOf 74 = .ok (.if_icmp .ne 8, 3) := by decide +kernel
theorem dX12_signOf_77 : decode cX12_signOf 77 = .ok (.bipush 17, 2) := by decide +kernel
theorem dX12_signOf_79 : decode cX12_signOf 79 = .ok (.goto 18, 3) := by decide +kernel
theorem dX12_signOf_82 : decode cX12_signOf 82 = .ok (.aload_n 0, 1) := by decide +kernel
theorem dX12_signOf_83 : decode cX12_signOf 83 = .ok (.getfield 126, 3) := by decide +kernel
theorem dX12_signOf_86 : decode cX12_signOf 86 = .ok (.bipush 42, 2) := by decide +kernel
theorem dX12_signOf_88 : decode cX12_signOf 88 = .ok (.if_icmp .ne 8, 3) := by decide +kernel
theorem dX12_signOf_91 : decode cX12_signOf 91 = .ok (.bipush 18, 2) := by decide +kernel
theorem dX12_signOf_93 : decode cX12_signOf 93 = .ok (.goto 4, 3) := by decide +kernel
theorem dX12_signOf_96 : decode cX12_signOf 96 = .ok (.iconst (-1), 1) := by decide +kernel
theorem dX12_signOf_97 : decode cX12_signOf 97 = .ok (.ireturn, 1) := by decide +kernel
theorem dX12_eRead_0 : decode cX12_eRead 0 = .ok (.aload_n 0, 1) := by decide +kernel
theorem dX12_eRead_1 : decode cX12_eRead 1 = .ok (.iconst 0, 1) := by decide +kernel
theorem dX12_eRead_2 : decode cX12_eRead 2 = .ok (.putfield 138, 3) := by decide +kernel
theorem dX12_eRead_5 : decode cX12_eRead 5 = .ok (.aload_n 0, 1) := by decide +kernel
theorem dX12_eRead_6 : decode cX12_eRead 6 = .ok (.iconst 0, 1) := by decide +kernel
theorem dX12_eRead_7 : decode cX12_eRead 7 = .ok (.putfield 145, 3) := by decide +kernel
theorem dX12_eRead_10 : decode cX12_eRead 10 = .ok (.iconst 1, 1) := by decide +kernel
theorem dX12_eRead_11 : decode cX12_eRead 11 = .ok (.istore_n 1, 1) := by decide +kernel
theorem dX12_eRead_12 : decode cX12_eRead 12 = .ok (.iconst 1, 1) := by decide +kernel
theorem dX12_eRead_13 : decode cX12_eRead 13 = .ok (.istore_n 2, 1) := by decide +kernel
theorem dX12_eRead_14 : decode cX12_eRead 14 = .ok (.aload_n 0, 1) := by decide +kernel
theorem dX12_eRead_15 : decode cX12_eRead 15 = .ok (.invokevirtual 158, 3) := by decide +kernel
theorem dX12_eRead_18 : decode cX12_eRead 18 = .ok (.iload_n 1, 1) := by decide +kernel
theorem dX12_eRead_19 : decode cX12_eRead 19 = .ok (.ifCond .eq 131, 3) := by decide +kernel
theorem dX12_eRead_22 : decode cX12_eRead 22 = .ok (.aload_n 0, 1) := by decide +kernel
theorem dX12_eRead_23 : decode cX12_eRead 23 = .ok (.getfield 126, 3) := by decide +kernel
theorem dX12_eRead_26 : decode cX12_eRead 26 = .ok (.iconst 1, 1) := by decide +kernel
theorem dX12_eRead_27 : decode cX12_eRead 27 = .ok (.if_icmp .eq 11, 3) := by decide +kernel
theorem dX12_eRead_30 : decode cX12_eRead 30 = .ok (.aload_n 0, 1) := by decide +kernel
theorem dX12_eRead_31 : decode cX12_eRead 31 = .ok (.getfield 126, 3) := by decide +kernel
theorem dX12_eRead_34 : decode cX12_eRead 34 = .ok (.iconst 2, 1) := by decide +kernel
theorem dX12_eRead_35 : decode cX12_eRead 35 = .ok (.if_icmp .ne 40, 3) := by decide +kernel
theorem dX12_eRead_38 : decode cX12_eRead 38 = .ok (.aload_n 0, 1) := by decide +kernel
theorem dX12_eRead_39 : decode cX12_eRead 39 = .ok (.aload_n 0, 1) := by decide +kernel
theorem dX12_eRead_40 : decode cX12_eRead 40 = .ok (.getfield 126, 3) := by decide +kernel
theorem dX12_eRead_43 : decode cX12_eRead 43 = .ok (.iconst 1, 1) := by decide +kernel
theorem dX12_eRead_44 : decode cX12_eRead 44 = .ok (.if_icmp .ne 13, 3) := by decide +kernel
theorem dX12_eRead_47 : decode cX12_eRead 47 = .ok (.ldc 161, 2) := by decide +kernel
theorem dX12_eRead_49 : decode cX12_eRead 49 = .ok (.aload_n 0, 1) := by decide +kernel
theorem dX12_eRead_50 : decode cX12_eRead 50 = .ok (.getfield 129, 3) := by decide +kernel
theorem dX12_eRead_53 : decode cX12_eRead 53 = .ok (.iadd, 1) := by decide +kernel
theorem dX12_eRead_54 : decode cX12_eRead 54 = .ok (.goto 7, 3) := by decide +kernel
theorem dX12_eRead_57 : decode cX12_eRead 57 = .ok (.aload_n 0, 1) := by decide +kernel
theorem dX12_eRead_58 : decode cX12_eRead 58 = .ok (.getfield 129, 3) := by decide +kernel
theorem dX12_eRead_61 : decode cX12_eRead 61 = .ok (.invokevirtual 148, 3) := by decide +kernel
theorem dX12_eRead_64 : decode cX12_eRead 64 = .ok (.aload_n 0, 1) := by decide +kernel
theorem dX12_eRead_65 : decode cX12_eRead 65 = .ok (.bipush 7, 2) := by decide +kernel
theorem dX12_eRead_67 : decode cX12_eRead 67 = .ok (.invokevirtual 155, 3) := by decide +kernel
theorem dX12_eRead_70 : decode cX12_eRead 70 = .ok (.iconst 0, 1) := by decide +kernel
theorem dX12_eRead_71 : decode cX12_eRead 71 = .ok (.istore_n 1, 1) := by decide +kernel
theorem dX12_eRead_72 : decode cX12_eRead 72 = .ok (.goto (-58), 3) := by decide +kernel
theorem dX12_eRead_75 : decode cX12_eRead 75 = .ok (.aload_n 0, 1) := by decide +kernel
theorem dX12_eRead_76 : decode cX12_eRead 76 = .ok (.getfield 126, 3) := by decide +kernel
theorem dX12_eRead_79 : decode cX12_eRead 79 = .ok (.bipush 6, 2) := by decide +kernel
theorem dX12_eRead_81 : decode cX12_eRead 81 = .ok (.if_icmp .ne 18, 3) := by decide +kernel
theorem dX12_eRead_84 : decode cX12_eRead 84 = .ok (.iload_n 2, 1) := by decide +kernel
theorem dX12_eRead_85 : decode cX12_eRead 85 = .ok (.ifCond .eq 14, 3) := by decide +kernel
theorem dX12_eRead_88 : decode cX12_eRead 88 = .ok (.aload_n 0, 1) := by decide +kernel
theorem dX12_eRead_89 : decode cX12_eRead 89 = .ok (.bipush 13, 2) := by decide +kernel
theorem dX12_eRead_91 : decode cX12_eRead 91 = .ok (.invokevirtual 162, 3) := by decide +kernel
theorem dX12_eRead_94 : decode cX12_eRead 94 = .ok (.ifCond .ne (-80), 3) := by decide +kernel
theorem dX12_eRead_97 : decode cX12_eRead 97 = .ok (.iconst 0, 1) := by decide +kernel
theorem dX12_eRead_98 : decode cX12_eRead 98 = .ok (.ireturn, 1) := by decide +kernel
theorem dX12_eRead_99 : decode cX12_eRead 99 = .ok (.aload_n 0, 1) := by decide +kernel
theorem dX12_eRead_100 : decode cX12_eRead 100 = .ok (.getfield 126, 3) := by decide +kernel
theorem dX12_eRead_103 : decode cX12_eRead 103 = .ok (.bipush 45, 2) := by decide +kernel
theorem dX12_eRead_105 : decode cX12_eRead 105 = .ok (.if_icmp .ne 19, 3) := by decide +kernel
theorem dX12_eRead_108 : decode cX12_eRead 108 = .ok (.aload_n 0, 1) := by decide +kernel
theorem dX12_eRead_109 : decode cX12_eRead 109 = .ok (.bipush 19, 2) := by decide +kernel
theorem dX12_eRead_111 : decode cX12_eRead 111 = .ok (.invokevirtual 162, 3) := by decide +kernel
theorem dX12_eRead_114 : decode cX12_eRead 114 = .ok (.ifCond .ne 5, 3) := by decide +kernel
theorem dX12_eRead_117 : decode cX12_eRead 117 = .ok (.iconst 0, 1) := by decide +kernel
theorem dX12_eRead_118 : decode cX12_eRead 118 = .ok (.ireturn, 1) := by decide +kernel
theorem dX12_eRead_119 : decode cX12_eRead 119 = .ok (.iconst 0, 1) := by decide +kernel
theorem dX12_eRead_120 : decode cX12_eRead 120 = .ok (.istore_n 2, 1) := by decide +kernel
theorem dX12_eRead_121 : decode cX12_eRead 121 = .ok (.goto (-107), 3) := by decide +kernel
theorem dX12_eRead_124 : decode cX12_eRead 124 = .ok (.aload_n 0, 1) := by decide +kernel
theorem dX12_eRead_125 : decode cX12_eRead 125 = .ok (.getfield 126, 3) := by decide +kernel
theorem dX12_eRead_128 : decode cX12_eRead 128 = .ok (.bipush 40, 2) := by decide +kernel
theorem dX12_eRead_130 : decode cX12_eRead 130 = .ok (.if_icmp .ne 18, 3) := by decide +kernel
theorem dX12_eRead_133 : decode cX12_eRead 133 = .ok (.aload_n 0, 1) := by decide +kernel
theorem dX12_eRead_134 : decode cX12_eRead 134 = .ok (.iconst 0, 1) := by decide +kernel
theorem dX12_eRead_135 : decode cX12_eRead 135 = .ok (.invokevirtual 162, 3) := by decide +kernel
theorem dX12_eRead_138 : decode cX12_eRead 138 = .ok (.ifCond .ne 5, 3) := by decide +kernel
theorem dX12_eRead_141 : decode cX12_eRead 141 = .ok (.iconst 0, 1) := by decide +kernel
theorem dX12_eRead_142 : decode cX12_eRead 142 = .ok (.ireturn, 1) := by decide +kernel
theorem dX12_eRead_143 : decode cX12_eRead 143 = .ok (.iconst 1, 1) := by decide +kernel
theorem dX12_eRead_144 : decode cX12_eRead 144 = .ok (.istore_n 2, 1) := by decide +kernel
theorem dX12_eRead_145 : decode cX12_eRead 145 = .ok (.goto (-131), 3) := by decide +kernel
theorem dX12_eRead_148 : decode cX12_eRead 148 = .ok (.iconst 0, 1) := by decide +kernel
theorem dX12_eRead_149 : decode cX12_eRead 149 = .ok (.ireturn, 1) := by decide +kernel
theorem dX12_eRead_150 : decode cX12_eRead 150 = .ok (.aload_n 0, 1) := by decide +kernel
theorem dX12_eRead_151 : decode cX12_eRead 151 = .ok (.getfield 126, 3) := by decide +kernel
theorem dX12_eRead_154 : decode cX12_eRead 154 = .ok (.bipush 59, 2) := by decide +kernel
theorem dX12_eRead_156 : decode cX12_eRead 156 = .ok (.if_icmp .ne 21, 3) := by decide +kernel
theorem dX12_eRead_159 : decode cX12_eRead 159 = .ok (.aload_n 0, 1) := by decide +kernel
theorem dX12_eRead_160 : decode cX12_eRead 160 = .ok (.iconst 1, 1) := by decide +kernel
theorem dX12_eRead_161 : decode cX12_eRead 161 = .ok (.invokevirtual 155, 3) := by decide +kernel
theorem dX12_eRead_164 : decode cX12_eRead 164 = .ok (.aload_n 0, 1) := by decide +kernel
theorem dX12_eRead_165 : decode cX12_eRead 165 = .ok (.getfield 138, 3) := by decide +kernel
theorem dX12_eRead_168 : decode cX12_eRead 168 = .ok (.ifCond .ne 7, 3) := by decide +kernel
theorem dX12_eRead_171 : decode cX12_eRead 171 = .ok (.iconst 1, 1) := by decide +kernel
theorem dX12_eRead_172 : decode cX12_eRead 172 = .ok (.goto 4, 3) := by decide +kernel
theorem dX12_eRead_175 : decode cX12_eRead 175 = .ok (.iconst 0, 1) := by decide +kernel
theorem dX12_eRead_176 : decode cX12_eRead 176 = .ok (.ireturn, 1) := by decide +kernel
theorem dX12_eRead_177 : decode cX12_eRead 177 = .ok (.aload_n 0, 1) := by decide +kernel
theorem dX12_eRead_178 : decode cX12_eRead 178 = .ok (.getfield 126, 3) := by decide +kernel
theorem dX12_eRead_181 : decode cX12_eRead 181 = .ok (.bipush 41, 2) := by decide +kernel
theorem dX12_eRead_183 : decode cX12_eRead 183 = .ok (.if_icmp .ne 46, 3) := by decide +kernel
theorem dX12_eRead_186 : decode cX12_eRead 186 = .ok (.aload_n 0, 1) := by decide +kernel
theorem dX12_eRead_187 : decode cX12_eRead 187 = .ok (.iconst 1, 1) := by decide +kernel
theorem dX12_eRead_188 : decode cX12_eRead 188 = .ok (.invokevirtual 155, 3) := by decide +kernel
theorem dX12_eRead_191 : decode cX12_eRead 191 = .ok (.aload_n 0, 1) := by decide +kernel
theorem dX12_eRead_192 : decode cX12_eRead 192 = .ok (.getfield 138, 3) := by decide +kernel
theorem dX12_eRead_195 : decode cX12_eRead 195 = .ok (.ifCond .ne 5, 3) := by decide +kernel
theorem dX12_eRead_198 : decode cX12_eRead 198 = .ok (.iconst 0, 1) := by decide +kernel
theorem dX12_eRead_199 : decode cX12_eRead 199 = .ok (.ireturn, 1) := by decide +kernel
theorem dX12_eRead_200 : decode cX12_eRead 200 = .ok (.aload_n 0, 1) := by decide +kernel
theorem dX12_eRead_201 : decode cX12_eRead 201 = .ok (.dup, 1) := by decide +kernel
theorem dX12_eRead_202 : decode cX12_eRead 202 = .ok (.getfield 138, 3) := by decide +kernel
theorem dX12_eRead_205 : decode cX12_eRead 205 = .ok (.iconst 1, 1) := by decide +kernel
theorem dX12_eRead_206 : decode cX12_eRead 206 = .ok (.isub, 1) := by decide +kernel
theorem dX12_eRead_207 : decode cX12_eRead 207 = .ok (.putfield 138, 3) := by decide +kernel
theorem dX12_eRead_210 : decode cX12_eRead 210 = .ok (.aload_n 0, 1) := by decide +kernel
theorem dX12_eRead_211 : decode cX12_eRead 211 = .ok (.dup, 1) := by decide +kernel
theorem dX12_eRead_212 : decode cX12_eRead 212 = .ok (.getfield 145, 3) := by decide +kernel
theorem dX12_eRead_215 : decode cX12_eRead 215 = .ok (.iconst 1, 1) := by decide +kernel
theorem dX12_eRead_216 : decode cX12_eRead 216 = .ok (.isub, 1) := by decide +kernel
theorem dX12_eRead_217 : decode cX12_eRead 217 = .ok (.putfield 145, 3) := by decide +kernel
theorem dX12_eRead_220 : decode cX12_eRead 220 = .ok (.aload_n 0, 1) := by decide +kernel
theorem dX12_eRead_221 : decode cX12_eRead 221 = .ok (.bipush 7, 2) := by decide +kernel
theorem dX12_eRead_223 : decode cX12_eRead 223 = .ok (.invokevirtual 155, 3) := by decide +kernel
theorem dX12_eRead_226 : decode cX12_eRead 226 = .ok (.goto (-212), 3) := by decide +kernel
theorem dX12_eRead_229 : decode cX12_eRead 229 = .ok (.aload_n 0, 1) := by decide +kernel
theorem dX12_eRead_230 : decode cX12_eRead 230 = .ok (.invokevirtual 165, 3) := by decide +kernel
theorem dX12_eRead_233 : decode cX12_eRead 233 = .ok (.istore_n 3, 1) := by decide +kernel
theorem dX12_eRead_234 : decode cX12_eRead 234 = .ok (.iload_n 3, 1) := by decide +kernel
theorem dX12_eRead_235 : decode cX12_eRead 235 = .ok (.iconst (-1), 1) := by decide +kernel
theorem dX12_eRead_236 : decode cX12_eRead 236 = .ok (.if_icmp .eq 11, 3) := by decide +kernel
theorem dX12_eRead_239 : decode cX12_eRead 239 = .ok (.aload_n 0, 1) := by decide +kernel
theorem dX12_eRead_240 : decode cX12_eRead 240 = .ok (.iload_n 3, 1) := by decide +kernel
theorem dX12_eRead_241 : decode cX12_eRead 241 = .ok (.invokevirtual 168, 3) := by decide +kernel
theorem dX12_eRead_244 : decode cX12_eRead 244 = .ok (.ifCond .ne 5, 3) := by decide +kernel
theorem dX12_eRead_247 : decode cX12_eRead 247 = .ok (.iconst 0, 1) := by decide +kernel
theorem dX12_eRead_248 : decode cX12_eRead 248 = .ok (.ireturn, 1) := by decide +kernel
theorem dX12_eRead_249 : decode cX12_eRead 249 = .ok (.iconst 1, 1) := by decide +kernel
theorem dX12_eRead_250 : decode cX12_eRead 250 = .ok (.istore_n 1, 1) := by decide +kernel
theorem dX12_eRead_251 : decode cX12_eRead 251 = .ok (.iload_n 3, 1) := by decide +kernel
theorem dX12_eRead_252 : decode cX12_eRead 252 = .ok (.bipush 12, 2) := by decide +kernel
theorem dX12_eRead_254 : decode cX12_eRead 254 = .ok (.if_icmp .gt 7, 3) := by decide +kernel
theorem dX12_eRead_257 : decode cX12_eRead 257 = .ok (.iconst 1, 1) := by decide +kernel
theorem dX12_eRead_258 : decode cX12_eRead 258 = .ok (.goto 4, 3) := by decide +kernel
theorem dX12_eRead_261 : decode cX12_eRead 261 = .ok (.iconst 0, 1) := by decide +kernel
theorem dX12_eRead_262 : decode cX12_eRead 262 = .ok (.istore_n 2, 1) := by decide +kernel
theorem dX12_eRead_263 : decode cX12_eRead 263 = .ok (.goto (-249), 3) := by decide +kernel
theorem dX12_text_0 : decode cX12_text 0 = .ok (.aload_n 0, 1) := by decide +kernel
theorem dX12_text_1 : decode cX12_text 1 = .ok (.getfield 103, 3) := by decide +kernel
theorem dX12_text_4 : decode cX12_text 4 = .ok (.bipush 6, 2) := by decide +kernel
theorem dX12_text_6 : decode cX12_text 6 = .ok (.if_icmp .ne 6, 3) := by decide +kernel
theorem dX12_text_9 : decode cX12_text 9 = .ok (.bipush (-4), 2) := by decide +kernel
theorem dX12_text_11 : decode cX12_text 11 = .ok (.ireturn, 1) := by decide +kernel
theorem dX12_text_12 : decode cX12_text 12 = .ok (.aload_n 0, 1) := by decide +kernel
theorem dX12_text_13 : decode cX12_text 13 = .ok (.iconst 0, 1) := by decide +kernel
theorem dX12_text_14 : decode cX12_text 14 = .ok (.putfield 120, 3) := by decide +kernel
theorem dX12_text_17 : decode cX12_text 17 = .ok (.aload_n 0, 1) := by decide +kernel
theorem dX12_text_18 : decode cX12_text 18 = .ok (.iconst 0, 1) := by decide +kernel
theorem dX12_text_19 : decode cX12_text 19 = .ok (.putfield 135, 3) := by decide +kernel
theorem dX12_text_22 : decode cX12_text 22 = .ok (.iconst 1, 1) := by decide +kernel
theorem dX12_text_23 : decode cX12_text 23 = .ok (.istore_n 1, 1) := by decide +kernel
theorem dX12_text_24 : decode cX12_text 24 = .ok (.iconst 0, 1) := by decide +kernel
theorem dX12_text_25 : decode cX12_text 25 = .ok (.istore_n 2, 1) := by decide +kernel
theorem dX12_text_26 : decode cX12_text 26 = .ok (.iload_n 2, 1) := by decide +kernel
theorem dX12_text_27 : decode cX12_text 27 = .ok (.iconst 3, 1) := by decide +kernel
theorem dX12_text_28 : decode cX12_text 28 = .ok (.if_icmp .ge 73, 3) := by decide +kernel
theorem dX12_text_31 : decode cX12_text 31 = .ok (.iload_n 1, 1) := by decide +kernel
theorem dX12_text_32 : decode cX12_text 32 = .ok (.ifCond .eq 69, 3) := by decide +kernel
theorem dX12_text_35 : decode cX12_text 35 = .ok (.aload_n 0, 1) := by decide +kernel
theorem dX12_text_36 : decode cX12_text 36 = .ok (.invokevirtual 158, 3) := by decide +kernel
theorem dX12_text_39 : decode cX12_text 39 = .ok (.aload_n 0, 1) := by decide +kernel
theorem dX12_text_40 : decode cX12_text 40 = .ok (.getfield 126, 3) := by decide +kernel
theorem dX12_text_43 : decode cX12_text 43 = .ok (.iconst 3, 1) := by decide +kernel
theorem dX12_text_44 : decode cX12_text 44 = .ok (.if_icmp .ne 15, 3) := by decide +kernel
theorem dX12_text_47 : decode cX12_text 47 = .ok (.aload_n 0, 1) := by decide +kernel
theorem dX12_text_48 : decode cX12_text 48 = .ok (.getfield 129, 3) := by decide +kernel
theorem dX12_text_51 : decode cX12_text 51 = .ok (.iload_n 2, 1) := by decide +kernel
theorem dX12_text_52 : decode cX12_text 52 = .ok (.if_icmp .ne 7, 3) := by decide +kernel
theorem dX12_text_55 : decode cX12_text 55 = .ok (.iconst 1, 1) := by decide +kernel
theorem dX12_text_56 : decode cX12_text 56 = .ok (.goto 4, 3) := by decide +kernel
theorem dX12_text_59 : decode cX12_text 59 = .ok (.iconst 0, 1) := by decide +kernel
theorem dX12_text_60 : decode cX12_text 60 = .ok (.istore_n 1, 1) := by decide +kernel
theorem dX12_text_61 : decode cX12_text 61 = .ok (.aload_n 0, 1) := by decide +kernel
theorem dX12_text_62 : decode cX12_text 62 = .ok (.getfield 41, 3) := by decide +kernel
theorem dX12_text_65 : decode cX12_text 65 = .ok (.iconst 4, 1) := by decide +kernel
theorem dX12_text_66 : decode cX12_text 66 = .ok (.aload_n 0, 1) := by decide +kernel
theorem dX12_text_67 : decode cX12_text 67 = .ok (.getfield 103, 3) := by decide +kernel
theorem dX12_text_70 : decode cX12_text 70 = .ok (.imul, 1) := by decide +kernel
theorem dX12_text_71 : decode cX12_text 71 = .ok (.iload_n 2, 1) := by decide +kernel
theorem dX12_text_72 : decode cX12_text 72 = .ok (.iadd, 1) := by decide +kernel
theorem dX12_text_73 : decode cX12_text 73 = .ok (.aload_n 0, 1) := by decide +kernel
theorem dX12_text_74 : decode cX12_text 74 = .ok (.getfield 135, 3) := by decide +kernel
theorem dX12_text_77 : decode cX12_text 77 = .ok (.iastore, 1) := by decide +kernel
theorem dX12_text_78 : decode cX12_text 78 = .ok (.iload_n 1, 1) := by decide +kernel
theorem dX12_text_79 : decode cX12_text 79 = .ok (.ifCond .eq 14, 3) := by decide +kernel
theorem dX12_text_82 : decode cX12_text 82 = .ok (.aload_n 0, 1) := by decide +kernel
theorem dX12_text_83 : decode cX12_text 83 = .ok (.invokevirtual 171, 3) := by decide +kernel
theorem dX12_text_86 : decode cX12_text 86 = .ok (.ifCond .eq 7, 3) := by decide +kernel
theorem dX12_text_89 : decode cX12_text 89 = .ok (.iconst 1, 1) := by decide +kernel
theorem dX12_text_90 : decode cX12_text 90 = .ok (.goto 4, 3) := by decide +kernel
theorem dX12_text_93 : decode cX12_text 93 = .ok (.iconst 0, 1) := by decide +kernel
theorem dX12_text_94 : decode cX12_text 94 = .ok (.istore_n 1, 1) := by decide +kernel
theorem dX12_text_95 : decode cX12_text 95 = .ok (.iinc 2 1, 3) := by decide +kernel
theorem dX12_text_98 : decode cX12_text 98 = .ok (.goto (-72), 3) := by decide +kernel
theorem dX12_text_101 : decode cX12_text 101 = .ok (.iload_n 1, 1) := by decide +kernel
theorem dX12_text_102 : decode cX12_text 102 = .ok (.ifCond .eq 20, 3) := by decide +kernel
theorem dX12_text_105 : decode cX12_text 105 = .ok (.aload_n 0, 1) := by decide +kernel
theorem dX12_text_106 : decode cX12_text 106 = .ok (.invokevirtual 158, 3) := by decide +kernel
theorem dX12_text_109 : decode cX12_text 109 = .ok (.aload_n 0, 1) := by decide +kernel
theorem dX12_text_110 : decode cX12_text 110 = .ok (.getfield 126, 3) := by decide +kernel
theorem dX12_text_113 : decode cX12_text 113 = .ok (.ifCond .ne 7, 3) := by decide +kernel
theorem dX12_text_116 : decode cX12_text 116 = .ok (.iconst 1, 1) := by decide +kernel
theorem dX12_text_117 : decode cX12_text 117 = .ok (.goto 4, 3) := by decide +kernel
theorem dX12_text_120 : decode cX12_text 120 = .ok (.iconst 0, 1) := by decide +kernel
theorem dX12_text_121 : decode cX12_text 121 = .ok (.istore_n 1, 1) := by decide +kernel
theorem dX12_text_122 : decode cX12_text 122 = .ok (.aload_n 0, 1) := by decide +kernel
theorem dX12_text_123 : decode cX12_text 123 = .ok (.getfield 41, 3) := by decide +kernel
theorem dX12_text_126 : decode cX12_text 126 = .ok (.iconst 4, 1) := by decide +kernel
theorem dX12_text_127 : decode cX12_text 127 = .ok (.aload_n 0, 1) := by decide +kernel
theorem dX12_text_128 : decode cX12_text 128 = .ok (.getfield 103, 3) := by decide +kernel
theorem dX12_text_131 : decode cX12_text 131 = .ok (.imul, 1) := by decide +kernel
theorem dX12_text_132 : decode cX12_text 132 = .ok (.iconst 3, 1) := by decide +kernel
theorem dX12_text_133 : decode cX12_text 133 = .ok (.iadd, 1) := by decide +kernel
theorem dX12_text_134 : decode cX12_text 134 = .ok (.aload_n 0, 1) := by decide +kernel
theorem dX12_text_135 : decode cX12_text 135 = .ok (.getfield 135, 3) := by decide +kernel
theorem dX12_text_138 : decode cX12_text 138 = .ok (.iastore, 1) := by decide +kernel
theorem dX12_text_139 : decode cX12_text 139 = .ok (.aload_n 0, 1) := by decide +kernel
theorem dX12_text_140 : decode cX12_text 140 = .ok (.iconst 0, 1) := by decide +kernel
theorem dX12_text_141 : decode cX12_text 141 = .ok (.putfield 83, 3) := by decide +kernel
theorem dX12_text_144 : decode cX12_text 144 = .ok (.iload_n 1, 1) := by decide +kernel
theorem dX12_text_145 : decode cX12_text 145 = .ok (.ifCond .ne 11, 3) := by decide +kernel
theorem dX12_text_148 : decode cX12_text 148 = .ok (.bipush (-100), 2) := by decide +kernel
theorem dX12_text_150 : decode cX12_text 150 = .ok (.aload_n 0, 1) := by decide +kernel
theorem dX12_text_151 : decode cX12_text 151 = .ok (.getfield 123, 3) := by decide +kernel
theorem dX12_text_154 : decode cX12_text 154 = .ok (.isub, 1) := by decide +kernel
theorem dX12_text_155 : decode cX12_text 155 = .ok (.ireturn, 1) := by decide +kernel
theorem dX12_text_156 : decode cX12_text 156 = .ok (.aload_n 0, 1) := by decide +kernel
theorem dX12_text_157 : decode cX12_text 157 = .ok (.dup, 1) := by decide +kernel
theorem dX12_text_158 : decode cX12_text 158 = .ok (.getfield 103, 3) := by decide +kernel
theorem dX12_text_161 : decode cX12_text 161 = .ok (.iconst 1, 1) := by decide +kernel
theorem dX12_text_162 : decode cX12_text 162 = .ok (.iadd, 1) := by decide +kernel
theorem dX12_text_163 : decode cX12_text 163 = .ok (.putfield 103, 3) := by decide +kernel
theorem dX12_text_166 : decode cX12_text 166 = .ok (.aload_n 0, 1) := by decide +kernel
theorem dX12_text_167 : decode cX12_text 167 = .ok (.getfield 103, 3) := by decide +kernel
theorem dX12_text_170 : decode cX12_text 170 = .ok (.iconst 1, 1) := by decide +kernel
theorem dX12_text_171 : decode cX12_text 171 = .ok (.isub, 1) := by decide +kernel
theorem dX12_text_172 : decode cX12_text 172 = .ok (.ireturn, 1) := by decide +kernel
theorem dX12_two_0 : decode cX12_two 0 = .ok (.iload_n 0, 1) := by decide +kernel
theorem dX12_two_1 : decode cX12_two 1 = .ok (.tableswitch 101 11 17 #[43, 57, 101, 71, 82, 93, 97], 43) := by decide +kernel
theorem dX12_two_44 : decode cX12_two 44 = .ok (.iload_n 1, 1) := by decide +kernel
theorem dX12_two_45 : decode cX12_two 45 = .ok (.ifCond .ne 7, 3) := by decide +kernel
theorem dX12_two_48 : decode cX12_two 48 = .ok (.iload_n 2, 1) := by decide +kernel
theorem dX12_two_49 : decode cX12_two 49 = .ok (.ifCond .eq 7, 3) := by decide +kernel
theorem dX12_two_52 : decode cX12_two 52 = .ok (.iconst 1, 1) := by decide +kernel
theorem dX12_two_53 : decode cX12_two 53 = .ok (.goto 4, 3) := by decide +kernel
theorem dX12_two_56 : decode cX12_two 56 = .ok (.iconst 0, 1) := by decide +kernel
theorem dX12_two_57 : decode cX12_two 57 = .ok (.ireturn, 1) := by decide +kernel
theorem dX12_two_58 : decode cX12_two 58 = .ok (.iload_n 1, 1) := by decide +kernel
theorem dX12_two_59 : decode cX12_two 59 = .ok (.ifCond .eq 11, 3) := by decide +kernel
theorem dX12_two_62 : decode cX12_two 62 = .ok (.iload_n 2, 1) := by decide +kernel
theorem dX12_two_63 : decode cX12_two 63 = .ok (.ifCond .eq 7, 3) := by decide +kernel
theorem dX12_two_66 : decode cX12_two 66 = .ok (.iconst 1, 1) := by decide +kernel
theorem dX12_two_67 : decode cX12_two 67 = .ok (.goto 4, 3) := by decide +kernel
theorem dX12_two_70 : decode cX12_two 70 = .ok (.iconst 0, 1) := by decide +kernel
theorem dX12_two_71 : decode cX12_two 71 = .ok (.ireturn, 1) := by decide +kernel
theorem dX12_two_72 : decode cX12_two 72 = .ok (.iload_n 1, 1) := by decide +kernel
theorem dX12_two_73 : decode cX12_two 73 = .ok (.iload_n 2, 1) := by decide +kernel
theorem dX12_two_74 : decode cX12_two 74 = .ok (.if_icmp .ge 7, 3) := by decide +kernel
theorem dX12_two_77 : decode cX12_two 77 = .ok (.iconst 1, 1) := by decide +kernel
theorem dX12_two_78 : decode cX12_two 78 = .ok (.goto 4, 3) := by decide +kernel
theorem dX12_two_81 : decode cX12_two 81 = .ok (.iconst 0, 1) := by decide +kernel
theorem dX12_two_82 : decode cX12_two 82 = .ok (.ireturn, 1) := by decide +kernel
theorem dX12_two_83 : decode cX12_two 83 = .ok (.iload_n 1, 1) := by decide +kernel
theorem dX12_two_84 : decode cX12_two 84 = .ok (.iload_n 2, 1) := by decide +kernel
theorem dX12_two_85 : decode cX12_two 85 = .ok (.if_icmp .ne 7, 3) := by decide +kernel
theorem dX12_two_88 : decode cX12_two 88 = .ok (.iconst 1, 1) := by decide +kernel
theorem dX12_two_89 : decode cX12_two 89 = .ok (.goto 4, 3) := by decide +kernel
theorem dX12_two_92 : decode cX12_two 92 = .ok (.iconst 0, 1) := by decide +kernel
theorem dX12_two_93 : decode cX12_two 93 = .ok (.ireturn, 1) := by decide +kernel
theorem dX12_two_94 : decode cX12_two 94 = .ok (.iload_n 1, 1) := by decide +kernel
theorem dX12_two_95 : decode cX12_two 95 = .ok (.iload_n 2, 1) := by decide +kernel
theorem dX12_two_96 : decode cX12_two 96 = .ok (.iadd, 1) := by decide +kernel
theorem dX12_two_97 : decode cX12_two 97 = .ok (.ireturn, 1) := by decide +kernel
theorem dX12_two_98 : decode cX12_two 98 = .ok (.iload_n 1, 1) := by decide +kernel
theorem dX12_two_99 : decode cX12_two 99 = .ok (.iload_n 2, 1) := by decide +kernel
theorem dX12_two_100 : decode cX12_two 100 = .ok (.isub, 1) := by decide +kernel
theorem dX12_two_101 : decode cX12_two 101 = .ok (.ireturn, 1) := by decide +kernel
theorem dX12_two_102 : decode cX12_two 102 = .ok (.iload_n 1, 1) := by decide +kernel
theorem dX12_two_103 : decode cX12_two 103 = .ok (.iload_n 2, 1) := by decide +kernel
theorem dX12_two_104 : decode cX12_two 104 = .ok (.imul, 1) := by decide +kernel
theorem dX12_two_105 : decode cX12_two 105 = .ok (.ireturn, 1) := by decide +kernel
theorem dX12_says_0 : decode cX12_says 0 = .ok (.iconst 0, 1) := by decide +kernel
theorem dX12_says_1 : decode cX12_says 1 = .ok (.istore_n 2, 1) := by decide +kernel
theorem dX12_says_2 : decode cX12_says 2 = .ok (.aload_n 0, 1) := by decide +kernel
theorem dX12_says_3 : decode cX12_says 3 = .ok (.getfield 41, 3) := by decide +kernel
theorem dX12_says_6 : decode cX12_says 6 = .ok (.iconst 4, 1) := by decide +kernel
theorem dX12_says_7 : decode cX12_says 7 = .ok (.aload_n 0, 1) := by decide +kernel
theorem dX12_says_8 : decode cX12_says 8 = .ok (.getfield 106, 3) := by decide +kernel
theorem dX12_says_11 : decode cX12_says 11 = .ok (.imul, 1) := by decide +kernel
theorem dX12_says_12 : decode cX12_says 12 = .ok (.iload_n 1, 1) := by decide +kernel
theorem dX12_says_13 : decode cX12_says 13 = .ok (.iadd, 1) := by decide +kernel
theorem dX12_says_14 : decode cX12_says 14 = .ok (.iaload, 1) := by decide +kernel
theorem dX12_says_15 : decode cX12_says 15 = .ok (.istore_n 3, 1) := by decide +kernel
theorem dX12_says_16 : decode cX12_says 16 = .ok (.iload_n 3, 1) := by decide +kernel
theorem dX12_says_17 : decode cX12_says 17 = .ok (.aload_n 0, 1) := by decide +kernel
theorem dX12_says_18 : decode cX12_says 18 = .ok (.getfield 41, 3) := by decide +kernel
theorem dX12_says_21 : decode cX12_says 21 = .ok (.iconst 4, 1) := by decide +kernel
theorem dX12_says_22 : decode cX12_says 22 = .ok (.aload_n 0, 1) := by decide +kernel
theorem dX12_says_23 : decode cX12_says 23 = .ok (.getfield 106, 3) := by decide +kernel
theorem dX12_says_26 : decode cX12_says 26 = .ok (.imul, 1) := by decide +kernel
theorem dX12_says_27 : decode cX12_says 27 = .ok (.iload_n 1, 1) := by decide +kernel
theorem dX12_says_28 : decode cX12_says 28 = .ok (.iadd, 1) := by decide +kernel
theorem dX12_says_29 : decode cX12_says 29 = .ok (.iconst 1, 1) := by decide +kernel
theorem dX12_says_30 : decode cX12_says 30 = .ok (.iadd, 1) := by decide +kernel
theorem dX12_says_31 : decode cX12_says 31 = .ok (.iaload, 1) := by decide +kernel
theorem dX12_says_32 : decode cX12_says 32 = .ok (.if_icmp .ge 165, 3) := by decide +kernel
theorem dX12_says_35 : decode cX12_says 35 = .ok (.aload_n 0, 1) := by decide +kernel
theorem dX12_says_36 : decode cX12_says 36 = .ok (.getfield 38, 3) := by decide +kernel
theorem dX12_says_39 : decode cX12_says 39 = .ok (.sipush 200, 3) := by decide +kernel
theorem dX12_says_42 : decode cX12_says 42 = .ok (.aload_n 0, 1) := by decide +kernel
theorem dX12_says_43 : decode cX12_says 43 = .ok (.getfield 106, 3) := by decide +kernel
theorem dX12_says_46 : decode cX12_says 46 = .ok (.imul, 1) := by decide +kernel
theorem dX12_says_47 : decode cX12_says 47 = .ok (.iload_n 3, 1) := by decide +kernel
theorem dX12_says_48 : decode cX12_says 48 = .ok (.iadd, 1) := by decide +kernel
theorem dX12_says_49 : decode cX12_says 49 = .ok (.iaload, 1) := by decide +kernel
theorem dX12_says_50 : decode cX12_says 50 = .ok (.istore 4, 2) := by decide +kernel
theorem dX12_says_52 : decode cX12_says 52 = .ok (.iload 4, 2) := by decide +kernel
theorem dX12_says_54 : decode cX12_says 54 = .ok (.ldc 161, 2) := by decide +kernel
theorem dX12_says_56 : decode cX12_says 56 = .ok (.if_icmp .ge 10, 3) := by decide +kernel
theorem dX12_says_59 : decode cX12_says 59 = .ok (.iload 4, 2) := by decide +kernel
theorem dX12_says_61 : decode cX12_says 61 = .ok (.bipush 11, 2) := by decide +kernel
theorem dX12_says_63 : decode cX12_says 63 = .ok (.if_icmp .ge 37, 3) := by decide +kernel
theorem dX12_says_66 : decode cX12_says 66 = .ok (.aload_n 0, 1) := by decide +kernel
theorem dX12_says_67 : decode cX12_says 67 = .ok (.getfield 65, 3) := by decide +kernel
theorem dX12_says_70 : decode cX12_says 70 = .ok (.iload_n 2, 1) := by decide +kernel
theorem dX12_says_71 : decode cX12_says 71 = .ok (.iload 4, 2) := by decide +kernel
theorem dX12_says_73 : decode cX12_says 73 = .ok (.bipush 11, 2) := by decide +kernel
theorem dX12_says_75 : decode cX12_says 75 = .ok (.if_icmp .ge 13, 3) := by decide +kernel
theorem dX12_says_78 : decode cX12_says 78 = .ok (.aload_n 0, 1) := by decide +kernel
theorem dX12_says_79 : decode cX12_says 79 = .ok (.getfield 68, 3) := by decide +kernel
theorem dX12_says_82 : decode cX12_says 82 = .ok (.iload 4, 2) := by decide +kernel
theorem dX12_says_84 : decode cX12_says 84 = .ok (.iaload, 1) := by decide +kernel
theorem dX12_says_85 : decode cX12_says 85 = .ok (.goto 8, 3) := by decide +kernel
theorem dX12_says_88 : decode cX12_says 88 = .ok (.iload 4, 2) := by decide +kernel
theorem dX12_says_90 : decode cX12_says 90 = .ok (.ldc 161, 2) := by decide +kernel
theorem dX12_says_92 : decode cX12_says 92 = .ok (.isub, 1) := by decide +kernel
theorem dX12_says_93 : decode cX12_says 93 = .ok (.iastore, 1) := by decide +kernel
theorem dX12_says_94 : decode cX12_says 94 = .ok (.iinc 2 1, 3) := by decide +kernel
theorem dX12_says_97 : decode cX12_says 97 = .ok (.goto 94, 3) := by decide +kernel
theorem dX12_says_100 : decode cX12_says 100 = .ok (.iload 4, 2) := by decide +kernel
theorem dX12_says_102 : decode cX12_says 102 = .ok (.bipush 13, 2) := by decide +kernel
theorem dX12_says_104 : decode cX12_says 104 = .ok (.if_icmp .ne 30, 3) := by decide +kernel
theorem dX12_says_107 : decode cX12_says 107 = .ok (.aload_n 0, 1) := by decide +kernel
theorem dX12_says_108 : decode cX12_says 108 = .ok (.getfield 65, 3) := by decide +kernel
theorem dX12_says_111 : decode cX12_says 111 = .ok (.iload_n 2, 1) := by decide +kernel
theorem dX12_says_112 : decode cX12_says 112 = .ok (.iconst 1, 1) := by decide +kernel
theorem dX12_says_113 : decode cX12_says 113 = .ok (.isub, 1) := by decide +kernel
theorem dX12_says_114 : decode cX12_says 114 = .ok (.aload_n 0, 1) := by decide +kernel
theorem dX12_says_115 : decode cX12_says 115 = .ok (.getfield 65, 3) := by decide +kernel
theorem dX12_says_118 : decode cX12_says 118 = .ok (.iload_n 2, 1) := by decide +kernel
theorem dX12_says_119 : decode cX12_says 119 = .ok (.iconst 1, 1) := by decide +kernel
theorem dX12_says_120 : decode cX12_says 120 = .ok (.isub, 1) := by decide +kernel
theorem dX12_says_121 : decode cX12_says 121 = .ok (.iaload, 1) := by decide +kernel
theorem dX12_says_122 : decode cX12_says 122 = .ok (.ifCond .ne 7, 3) := by decide +kernel
theorem dX12_says_125 : decode cX12_says 125 = .ok (.iconst 1, 1) := by decide +kernel
theorem dX12_says_126 : decode cX12_says 126 = .ok (.goto 4, 3) := by decide +kernel
theorem dX12_says_129 : decode cX12_says 129 = .ok (.iconst 0, 1) := by decide +kernel
theorem dX12_says_130 : decode cX12_says 130 = .ok (.iastore, 1) := by decide +kernel
theorem dX12_says_131 : decode cX12_says 131 = .ok (.goto 60, 3) := by decide +kernel
theorem dX12_says_134 : decode cX12_says 134 = .ok (.iload 4, 2) := by decide +kernel
theorem dX12_says_136 : decode cX12_says 136 = .ok (.bipush 19, 2) := by decide +kernel
theorem dX12_says_138 : decode cX12_says 138 = .ok (.if_icmp .ne 23, 3) := by decide +kernel
theorem dX12_says_141 : decode cX12_says 141 = .ok (.aload_n 0, 1) := by decide +kernel
theorem dX12_says_142 : decode cX12_says 142 = .ok (.getfield 65, 3) := by decide +kernel
theorem dX12_says_145 : decode cX12_says 145 = .ok (.iload_n 2, 1) := by decide +kernel
theorem dX12_says_146 : decode cX12_says 146 = .ok (.iconst 1, 1) := by decide +kernel
theorem dX12_says_147 : decode cX12_says 147 = .ok (.isub, 1) := by decide +kernel
theorem dX12_says_148 : decode cX12_says 148 = .ok (.aload_n 0, 1) := by decide +kernel
theorem dX12_says_149 : decode cX12_says 149 = .ok (.getfield 65, 3) := by decide +kernel
theorem dX12_says_152 : decode cX12_says 152 = .ok (.iload_n 2, 1) := by decide +kernel
theorem dX12_says_153 : decode cX12_says 153 = .ok (.iconst 1, 1) := by decide +kernel
theorem dX12_says_154 : decode cX12_says 154 = .ok (.isub, 1) := by decide +kernel
theorem dX12_says_155 : decode cX12_says 155 = .ok (.iaload, 1) := by decide +kernel
theorem dX12_says_156 : decode cX12_says 156 = .ok (.ineg, 1) := by decide +kernel
theorem dX12_says_157 : decode cX12_says 157 = .ok (.iastore, 1) := by decide +kernel
theorem dX12_says_158 : decode cX12_says 158 = .ok (.goto 33, 3) := by decide +kernel
theorem dX12_says_161 : decode cX12_says 161 = .ok (.iinc 2 (-1), 3) := by decide +kernel
theorem dX12_says_164 : decode cX12_says 164 = .ok (.aload_n 0, 1) := by decide +kernel
theorem dX12_says_165 : decode cX12_says 165 = .ok (.getfield 65, 3) := by decide +kernel
theorem dX12_says_168 : decode cX12_says 168 = .ok (.iload_n 2, 1) := by decide +kernel
theorem dX12_says_169 : decode cX12_says 169 = .ok (.iconst 1, 1) := by decide +kernel
theorem dX12_says_170 : decode cX12_says 170 = .ok (.isub, 1) := by decide +kernel
theorem dX12_says_171 : decode cX12_says 171 = .ok (.iload 4, 2) := by decide +kernel
theorem dX12_says_173 : decode cX12_says 173 = .ok (.aload_n 0, 1) := by decide +kernel
theorem dX12_says_174 : decode cX12_says 174 = .ok (.getfield 65, 3) := by decide +kernel
theorem dX12_says_177 : decode cX12_says 177 = .ok (.iload_n 2, 1) := by decide +kernel
theorem dX12_says_178 : decode cX12_says 178 = .ok (.iconst 1, 1) := by decide +kernel
theorem dX12_says_179 : decode cX12_says 179 = .ok (.isub, 1) := by decide +kernel
theorem dX12_says_180 : decode cX12_says 180 = .ok (.iaload, 1) := by decide +kernel
theorem dX12_says_181 : decode cX12_says 181 = .ok (.aload_n 0, 1) := by decide +kernel
theorem dX12_says_182 : decode cX12_says 182 = .ok (.getfield 65, 3) := by decide +kernel
theorem dX12_says_185 : decode cX12_says 185 = .ok (.iload_n 2, 1) := by decide +kernel
theorem dX12_says_186 : decode cX12_says 186 = .ok (.iaload, 1) := by decide +kernel
theorem dX12_says_187 : decode cX12_says 187 = .ok (.invokestatic 175, 3) := by decide +kernel
theorem dX12_says_190 : decode cX12_says 190 = .ok (.iastore, 1) := by decide +kernel
theorem dX12_says_191 : decode cX12_says 191 = .ok (.iinc 3 1, 3) := by decide +kernel
theorem dX12_says_194 : decode cX12_says 194 = .ok (.goto (-178), 3) := by decide +kernel
theorem dX12_says_197 : decode cX12_says 197 = .ok (.aload_n 0, 1) := by decide +kernel
theorem dX12_says_198 : decode cX12_says 198 = .ok (.getfield 65, 3) := by decide +kernel
theorem dX12_says_201 : decode cX12_says 201 = .ok (.iconst 0, 1) := by decide +kernel
theorem dX12_says_202 : decode cX12_says 202 = .ok (.iaload, 1) := by decide +kernel
theorem dX12_says_203 : decode cX12_says 203 = .ok (.ireturn, 1) := by decide +kernel
theorem dX12_force_0 : decode cX12_force 0 = .ok (.iload_n 1, 1) := by decide +kernel
theorem dX12_force_1 : decode cX12_force 1 = .ok (.iconst 0, 1) := by decide +kernel
theorem dX12_force_2 : decode cX12_force 2 = .ok (.aload_n 0, 1) := by decide +kernel
theorem dX12_force_3 : decode cX12_force 3 = .ok (.getfield 103, 3) := by decide +kernel
theorem dX12_force_6 : decode cX12_force 6 = .ok (.iconst 1, 1) := by decide +kernel
theorem dX12_force_7 : decode cX12_force 7 = .ok (.isub, 1) := by decide +kernel
theorem dX12_force_8 : decode cX12_force 8 = .ok (.invokestatic 93, 3) := by decide +kernel
theorem dX12_force_11 : decode cX12_force 11 = .ok (.ifCond .ne 6, 3) := by decide +kernel
theorem dX12_force_14 : decode cX12_force 14 = .ok (.bipush (-2), 2) := by decide +kernel
theorem dX12_force_16 : decode cX12_force 16 = .ok (.ireturn, 1) := by decide +kernel
theorem dX12_force_17 : decode cX12_force 17 = .ok (.aload_n 0, 1) := by decide +kernel
theorem dX12_force_18 : decode cX12_force 18 = .ok (.getfield 106, 3) := by decide +kernel
theorem dX12_force_21 : decode cX12_force 21 = .ok (.istore_n 2, 1) := by decide +kernel
theorem dX12_force_22 : decode cX12_force 22 = .ok (.aload_n 0, 1) := by decide +kernel
theorem dX12_force_23 : decode cX12_force 23 = .ok (.iload_n 1, 1) := by decide +kernel
theorem dX12_force_24 : decode cX12_force 24 = .ok (.putfield 106, 3) := by decide +kernel
theorem dX12_force_27 : decode cX12_force 27 = .ok (.iload_n 2, 1) := by decide +kernel
theorem dX12_force_28 : decode cX12_force 28 = .ok (.ireturn, 1) := by decide +kernel
theorem dX12_asksOf_0 : decode cX12_asksOf 0 = .ok (.aload_n 0, 1) := by decide +kernel
theorem dX12_asksOf_1 : decode cX12_asksOf 1 = .ok (.getfield 68, 3) := by decide +kernel
theorem dX12_asksOf_4 : decode cX12_asksOf 4 = .ok (.iconst 0, 1) := by decide +kernel
theorem dX12_asksOf_5 : decode cX12_asksOf 5 = .ok (.iload_n 2, 1) := by decide +kernel
theorem dX12_asksOf_6 : decode cX12_asksOf 6 = .ok (.iastore, 1) := by decide +kernel
theorem dX12_asksOf_7 : decode cX12_asksOf 7 = .ok (.aload_n 0, 1) := by decide +kernel
theorem dX12_asksOf_8 : decode cX12_asksOf 8 = .ok (.getfield 68, 3) := by decide +kernel
theorem dX12_asksOf_11 : decode cX12_asksOf 11 = .ok (.iconst 1, 1) := by decide +kernel
theorem dX12_asksOf_12 : decode cX12_asksOf 12 = .ok (.iload_n 3, 1) := by decide +kernel
theorem dX12_asksOf_13 : decode cX12_asksOf 13 = .ok (.iastore, 1) := by decide +kernel
theorem dX12_asksOf_14 : decode cX12_asksOf 14 = .ok (.aload_n 0, 1) := by decide +kernel
theorem dX12_asksOf_15 : decode cX12_asksOf 15 = .ok (.getfield 68, 3) := by decide +kernel
theorem dX12_asksOf_18 : decode cX12_asksOf 18 = .ok (.iconst 2, 1) := by decide +kernel
theorem dX12_asksOf_19 : decode cX12_asksOf 19 = .ok (.iload 4, 2) := by decide +kernel
theorem dX12_asksOf_21 : decode cX12_asksOf 21 = .ok (.iastore, 1) := by decide +kernel
theorem dX12_asksOf_22 : decode cX12_asksOf 22 = .ok (.aload_n 0, 1) := by decide +kernel
theorem dX12_asksOf_23 : decode cX12_asksOf 23 = .ok (.getfield 68, 3) := by decide +kernel
theorem dX12_asksOf_26 : decode cX12_asksOf 26 = .ok (.iconst 3, 1) := by decide +kernel
theorem dX12_asksOf_27 : decode cX12_asksOf 27 = .ok (.aload_n 0, 1) := by decide +kernel
theorem dX12_asksOf_28 : decode cX12_asksOf 28 = .ok (.getfield 20, 3) := by decide +kernel
theorem dX12_asksOf_31 : decode cX12_asksOf 31 = .ok (.iload 5, 2) := by decide +kernel
theorem dX12_asksOf_33 : decode cX12_asksOf 33 = .ok (.iaload, 1) := by decide +kernel
theorem dX12_asksOf_34 : decode cX12_asksOf 34 = .ok (.iastore, 1) := by decide +kernel
theorem dX12_asksOf_35 : decode cX12_asksOf 35 = .ok (.aload_n 0, 1) := by decide +kernel
theorem dX12_asksOf_36 : decode cX12_asksOf 36 = .ok (.getfield 68, 3) := by decide +kernel
theorem dX12_asksOf_39 : decode cX12_asksOf 39 = .ok (.iconst 4, 1) := by decide +kernel
theorem dX12_asksOf_40 : decode cX12_asksOf 40 = .ok (.iload 6, 2) := by decide +kernel
theorem dX12_asksOf_42 : decode cX12_asksOf 42 = .ok (.iastore, 1) := by decide +kernel
theorem dX12_asksOf_43 : decode cX12_asksOf 43 = .ok (.aload_n 0, 1) := by decide +kernel
theorem dX12_asksOf_44 : decode cX12_asksOf 44 = .ok (.getfield 68, 3) := by decide +kernel
theorem dX12_asksOf_47 : decode cX12_asksOf 47 = .ok (.iconst 5, 1) := by decide +kernel
theorem dX12_asksOf_48 : decode cX12_asksOf 48 = .ok (.aload_n 0, 1) := by decide +kernel
theorem dX12_asksOf_49 : decode cX12_asksOf 49 = .ok (.getfield 100, 3) := by decide +kernel
theorem dX12_asksOf_52 : decode cX12_asksOf 52 = .ok (.iastore, 1) := by decide +kernel
theorem dX12_asksOf_53 : decode cX12_asksOf 53 = .ok (.aload_n 0, 1) := by decide +kernel
theorem dX12_asksOf_54 : decode cX12_asksOf 54 = .ok (.iload_n 1, 1) := by decide +kernel
theorem dX12_asksOf_55 : decode cX12_asksOf 55 = .ok (.invokevirtual 179, 3) := by decide +kernel
theorem dX12_asksOf_58 : decode cX12_asksOf 58 = .ok (.iconst 0, 1) := by decide +kernel
theorem dX12_asksOf_59 : decode cX12_asksOf 59 = .ok (.bipush 99, 2) := by decide +kernel
theorem dX12_asksOf_61 : decode cX12_asksOf 61 = .ok (.invokestatic 182, 3) := by decide +kernel
theorem dX12_asksOf_64 : decode cX12_asksOf 64 = .ok (.ireturn, 1) := by decide +kernel
theorem dX12_asks_0 : decode cX12_asks 0 = .ok (.iload_n 1, 1) := by decide +kernel
theorem dX12_asks_1 : decode cX12_asks 1 = .ok (.iconst 0, 1) := by decide +kernel
theorem dX12_asks_2 : decode cX12_asks 2 = .ok (.iconst 2, 1) := by decide +kernel
theorem dX12_asks_3 : decode cX12_asks 3 = .ok (.invokestatic 93, 3) := by decide +kernel
theorem dX12_asks_6 : decode cX12_asks 6 = .ok (.ifCond .eq 55, 3) := by decide +kernel
theorem dX12_asks_9 : decode cX12_asks 9 = .ok (.iload_n 2, 1) := by decide +kernel
theorem dX12_asks_10 : decode cX12_asks 10 = .ok (.iconst 0, 1) := by decide +kernel
theorem dX12_asks_11 : decode cX12_asks 11 = .ok (.sipush 9939, 3) := by decide +kernel
theorem dX12_asks_14 : decode cX12_asks 14 = .ok (.invokestatic 93, 3) := by decide +kernel
theorem dX12_asks_17 : decode cX12_asks 17 = .ok (.ifCond .eq 44, 3) := by decide +kernel
theorem dX12_asks_20 : decode cX12_asks 20 = .ok (.iload_n 2, 1) := by decide +kernel
theorem dX12_asks_21 : decode cX12_asks 21 = .ok (.bipush 100, 2) := by decide +kernel
theorem dX12_asks_23 : decode cX12_asks 23 = .ok (.irem, 1) := by decide +kernel
theorem dX12_asks_24 : decode cX12_asks 24 = .ok (.bipush 40, 2) := by decide +kernel
theorem dX12_asks_26 : decode cX12_asks 26 = .ok (.if_icmp .ge 35, 3) := by decide +kernel
theorem dX12_asks_29 : decode cX12_asks 29 = .ok (.iload_n 3, 1) := by decide +kernel
theorem dX12_asks_30 : decode cX12_asks 30 = .ok (.iconst 0, 1) := by decide +kernel
theorem dX12_asks_31 : decode cX12_asks 31 = .ok (.sipush 999, 3) := by decide +kernel
theorem dX12_asks_34 : decode cX12_asks 34 = .ok (.invokestatic 93, 3) := by decide +kernel
theorem dX12_asks_37 : decode cX12_asks 37 = .ok (.ifCond .eq 24, 3) := by decide +kernel
theorem dX12_asks_40 : decode cX12_asks 40 = .ok (.iload 4, 2) := by decide +kernel
theorem dX12_asks_42 : decode cX12_asks 42 = .ok (.ifCond .lt 19, 3) := by decide +kernel
theorem dX12_asks_45 : decode cX12_asks 45 = .ok (.aload_n 0, 1) := by decide +kernel
theorem dX12_asks_46 : decode cX12_asks 46 = .ok (.iload 4, 2) := by decide +kernel
theorem dX12_asks_48 : decode cX12_asks 48 = .ok (.bipush 100, 2) := by decide +kernel
theorem dX12_asks_50 : decode cX12_asks 50 = .ok (.idiv, 1) := by decide +kernel
theorem dX12_asks_51 : decode cX12_asks 51 = .ok (.invokevirtual 185, 3) := by decide +kernel
theorem dX12_asks_54 : decode cX12_asks 54 = .ok (.ifCond .eq 7, 3) := by decide +kernel
theorem dX12_asks_57 : decode cX12_asks 57 = .ok (.iconst 1, 1) := by decide +kernel
theorem dX12_asks_58 : decode cX12_asks 58 = .ok (.goto 4, 3) := by decide +kernel
theorem dX12_asks_61 : decode cX12_asks 61 = .ok (.iconst 0, 1) := by decide +kernel
theorem dX12_asks_62 : decode cX12_asks 62 = .ok (.istore 5, 2) := by decide +kernel
theorem dX12_asks_64 : decode cX12_asks 64 = .ok (.iload 5, 2) := by decide +kernel
theorem dX12_asks_66 : decode cX12_asks 66 = .ok (.ifCond .eq 30, 3) := by decide +kernel
theorem dX12_asks_69 : decode cX12_asks 69 = .ok (.aload_n 0, 1) := by decide +kernel
theorem dX12_asks_70 : decode cX12_asks 70 = .ok (.iload_n 1, 1) := by decide +kernel
theorem dX12_asks_71 : decode cX12_asks 71 = .ok (.iload_n 2, 1) := by decide +kernel
theorem dX12_asks_72 : decode cX12_asks 72 = .ok (.bipush 100, 2) := by decide +kernel
theorem dX12_asks_74 : decode cX12_asks 74 = .ok (.idiv, 1) := by decide +kernel
theorem dX12_asks_75 : decode cX12_asks 75 = .ok (.iload_n 2, 1) := by decide +kernel
theorem dX12_asks_76 : decode cX12_asks 76 = .ok (.bipush 100, 2) := by decide +kernel
theorem dX12_asks_78 : decode cX12_asks 78 = .ok (.irem, 1) := by decide +kernel
theorem dX12_asks_79 : decode cX12_asks 79 = .ok (.iload_n 3, 1) := by decide +kernel
theorem dX12_asks_80 : decode cX12_asks 80 = .ok (.iload 4, 2) := by decide +kernel
theorem dX12_asks_82 : decode cX12_asks 82 = .ok (.bipush 100, 2) := by decide +kernel
theorem dX12_asks_84 : decode cX12_asks 84 = .ok (.idiv, 1) := by decide +kernel
theorem dX12_asks_85 : decode cX12_asks 85 = .ok (.iload 4, 2) := by decide +kernel
theorem dX12_asks_87 : decode cX12_asks 87 = .ok (.bipush 100, 2) := by decide +kernel
theorem dX12_asks_89 : decode cX12_asks 89 = .ok (.irem, 1) := by decide +kernel
theorem dX12_asks_90 : decode cX12_asks 90 = .ok (.invokevirtual 188, 3) := by decide +kernel
theorem dX12_asks_93 : decode cX12_asks 93 = .ok (.goto 5, 3) := by decide +kernel
theorem dX12_asks_96 : decode cX12_asks 96 = .ok (.bipush (-2), 2) := by decide +kernel
theorem dX12_asks_98 : decode cX12_asks 98 = .ok (.ireturn, 1) := by decide +kernel
theorem dX12_whoOn_0 : decode cX12_whoOn 0 = .ok (.iconst 0, 1) := by decide +kernel
theorem dX12_whoOn_1 : decode cX12_whoOn 1 = .ok (.istore_n 2, 1) := by decide +kernel
theorem dX12_whoOn_2 : decode cX12_whoOn 2 = .ok (.iload_n 2, 1) := by decide +kernel
theorem dX12_whoOn_3 : decode cX12_whoOn 3 = .ok (.aload_n 0, 1) := by decide +kernel
theorem dX12_whoOn_4 : decode cX12_whoOn 4 = .ok (.getfield 90, 3) := by decide +kernel
theorem dX12_whoOn_7 : decode cX12_whoOn 7 = .ok (.if_icmp .ge 21, 3) := by decide +kernel
theorem dX12_whoOn_10 : decode cX12_whoOn 10 = .ok (.aload_n 0, 1) := by decide +kernel
theorem dX12_whoOn_11 : decode cX12_whoOn 11 = .ok (.getfield 26, 3) := by decide +kernel
theorem dX12_whoOn_14 : decode cX12_whoOn 14 = .ok (.iload_n 2, 1) := by decide +kernel
theorem dX12_whoOn_15 : decode cX12_whoOn 15 = .ok (.iaload, 1) := by decide +kernel
theorem dX12_whoOn_16 : decode cX12_whoOn 16 = .ok (.iload_n 1, 1) := by decide +kernel
theorem dX12_whoOn_17 : decode cX12_whoOn 17 = .ok (.if_icmp .ne 5, 3) := by decide +kernel
theorem dX12_whoOn_20 : decode cX12_whoOn 20 = .ok (.iload_n 2, 1) := by decide +kernel
theorem dX12_whoOn_21 : decode cX12_whoOn 21 = .ok (.ireturn, 1) := by decide +kernel
theorem dX12_whoOn_22 : decode cX12_whoOn 22 = .ok (.iinc 2 1, 3) := by decide +kernel
theorem dX12_whoOn_25 : decode cX12_whoOn 25 = .ok (.goto (-23), 3) := by decide +kernel
theorem dX12_whoOn_28 : decode cX12_whoOn 28 = .ok (.iconst (-1), 1) := by decide +kernel
theorem dX12_whoOn_29 : decode cX12_whoOn 29 = .ok (.ireturn, 1) := by decide +kernel
theorem dX12_cake_0 : decode cX12_cake 0 = .ok (.iload_n 1, 1) := by decide +kernel
theorem dX12_cake_1 : decode cX12_cake 1 = .ok (.iconst 0, 1) := by decide +kernel
theorem dX12_cake_2 : decode cX12_cake 2 = .ok (.bipush 59, 2) := by decide +kernel
theorem dX12_cake_4 : decode cX12_cake 4 = .ok (.invokestatic 93, 3) := by decide +kernel
theorem dX12_cake_7 : decode cX12_cake 7 = .ok (.ifCond .eq 21, 3) := by decide +kernel
theorem dX12_cake_10 : decode cX12_cake 10 = .ok (.iload_n 2, 1) := by decide +kernel
theorem dX12_cake_11 : decode cX12_cake 11 = .ok (.iconst 0, 1) := by decide +kernel
theorem dX12_cake_12 : decode cX12_cake 12 = .ok (.sipush 999, 3) := by decide +kernel
theorem dX12_cake_15 : decode cX12_cake 15 = .ok (.invokestatic 93, 3) := by decide +kernel
theorem dX12_cake_18 : decode cX12_cake 18 = .ok (.ifCond .eq 10, 3) := by decide +kernel
theorem dX12_cake_21 : decode cX12_cake 21 = .ok (.iload_n 3, 1) := by decide +kernel
theorem dX12_cake_22 : decode cX12_cake 22 = .ok (.invokestatic 109, 3) := by decide +kernel
theorem dX12_cake_25 : decode cX12_cake 25 = .ok (.ifCond .ne 6, 3) := by decide +kernel
theorem dX12_cake_28 : decode cX12_cake 28 = .ok (.bipush (-2), 2) := by decide +kernel
theorem dX12_cake_30 : decode cX12_cake 30 = .ok (.ireturn, 1) := by decide +kernel
theorem dX12_cake_31 : decode cX12_cake 31 = .ok (.aload_n 0, 1) := by decide +kernel
theorem dX12_cake_32 : decode cX12_cake 32 = .ok (.iload_n 3, 1) := by decide +kernel
theorem dX12_cake_33 : decode cX12_cake 33 = .ok (.invokevirtual 192, 3) := by decide +kernel
theorem dX12_cake_36 : decode cX12_cake 36 = .ok (.iconst (-1), 1) := by decide +kernel
theorem dX12_cake_37 : decode cX12_cake 37 = .ok (.if_icmp .eq 6, 3) := by decide +kernel
theorem dX12_cake_40 : decode cX12_cake 40 = .ok (.bipush (-3), 2) := by decide +kernel
theorem dX12_cake_42 : decode cX12_cake 42 = .ok (.ireturn, 1) := by decide +kernel
theorem dX12_cake_43 : decode cX12_cake 43 = .ok (.aload_n 0, 1) := by decide +kernel
theorem dX12_cake_44 : decode cX12_cake 44 = .ok (.getfield 90, 3) := by decide +kernel
theorem dX12_cake_47 : decode cX12_cake 47 = .ok (.bipush 8, 2) := by decide +kernel
theorem dX12_cake_49 : decode cX12_cake 49 = .ok (.if_icmp .ne 6, 3) := by decide +kernel
theorem dX12_cake_52 : decode cX12_cake 52 = .ok (.bipush (-4), 2) := by decide +kernel
theorem dX12_cake_54 : decode cX12_cake 54 = .ok (.ireturn, 1) := by decide +kernel
theorem dX12_cake_55 : decode cX12_cake 55 = .ok (.aload_n 0, 1) := by decide +kernel
theorem dX12_cake_56 : decode cX12_cake 56 = .ok (.getfield 17, 3) := by decide +kernel
theorem dX12_cake_59 : decode cX12_cake 59 = .ok (.aload_n 0, 1) := by decide +kernel
theorem dX12_cake_60 : decode cX12_cake 60 = .ok (.getfield 90, 3) := by decide +kernel
theorem dX12_cake_63 : decode cX12_cake 63 = .ok (.iload_n 1, 1) := by decide +kernel
theorem dX12_cake_64 : decode cX12_cake 64 = .ok (.bipush 10, 2) := by decide +kernel
theorem dX12_cake_66 : decode cX12_cake 66 = .ok (.idiv, 1) := by decide +kernel
theorem dX12_cake_67 : decode cX12_cake 67 = .ok (.iastore, 1) := by decide +kernel
theorem dX12_cake_68 : decode cX12_cake 68 = .ok (.aload_n 0, 1) := by decide +kernel
theorem dX12_cake_69 : decode cX12_cake 69 = .ok (.getfield 20, 3) := by decide +kernel
theorem dX12_cake_72 : decode cX12_cake 72 = .ok (.aload_n 0, 1) := by decide +kernel
theorem dX12_cake_73 : decode cX12_cake 73 = .ok (.getfield 90, 3) := by decide +kernel
theorem dX12_cake_76 : decode cX12_cake 76 = .ok (.iload_n 1, 1) := by decide +kernel
theorem dX12_cake_77 : decode cX12_cake 77 = .ok (.bipush 10, 2) := by decide +kernel
theorem dX12_cake_79 : decode cX12_cake 79 = .ok (.irem, 1) := by decide +kernel
theorem dX12_cake_80 : decode cX12_cake 80 = .ok (.iastore, 1) := by decide +kernel
theorem dX12_cake_81 : decode cX12_cake 81 = .ok (.aload_n 0, 1) := by decide +kernel
theorem dX12_cake_82 : decode cX12_cake 82 = .ok (.getfield 23, 3) := by decide +kernel
theorem dX12_cake_85 : decode cX12_cake 85 = .ok (.aload_n 0, 1) := by decide +kernel
theorem dX12_cake_86 : decode cX12_cake 86 = .ok (.getfield 90, 3) := by decide +kernel
theorem dX12_cake_89 : decode cX12_cake 89 = .ok (.iload_n 2, 1) := by decide +kernel
theorem dX12_cake_90 : decode cX12_cake 90 = .ok (.iastore, 1) := by decide +kernel
theorem dX12_cake_91 : decode cX12_cake 91 = .ok (.aload_n 0, 1) := by decide +kernel
theorem dX12_cake_92 : decode cX12_cake 92 = .ok (.getfield 26, 3) := by decide +kernel
theorem dX12_cake_95 : decode cX12_cake 95 = .ok (.aload_n 0, 1) := by decide +kernel
theorem dX12_cake_96 : decode cX12_cake 96 = .ok (.getfield 90, 3) := by decide +kernel
theorem dX12_cake_99 : decode cX12_cake 99 = .ok (.iload_n 3, 1) := by decide +kernel
theorem dX12_cake_100 : decode cX12_cake 100 = .ok (.iastore, 1) := by decide +kernel
theorem dX12_cake_101 : decode cX12_cake 101 = .ok (.aload_n 0, 1) := by decide +kernel
theorem dX12_cake_102 : decode cX12_cake 102 = .ok (.dup, 1) := by decide +kernel
theorem dX12_cake_103 : decode cX12_cake 103 = .ok (.getfield 90, 3) := by decide +kernel
theorem dX12_cake_106 : decode cX12_cake 106 = .ok (.iconst 1, 1) := by decide +kernel
theorem dX12_cake_107 : decode cX12_cake 107 = .ok (.iadd, 1) := by decide +kernel
theorem dX12_cake_108 : decode cX12_cake 108 = .ok (.putfield 90, 3) := by decide +kernel
theorem dX12_cake_111 : decode cX12_cake 111 = .ok (.aload_n 0, 1) := by decide +kernel
theorem dX12_cake_112 : decode cX12_cake 112 = .ok (.getfield 90, 3) := by decide +kernel
theorem dX12_cake_115 : decode cX12_cake 115 = .ok (.iconst 1, 1) := by decide +kernel
theorem dX12_cake_116 : decode cX12_cake 116 = .ok (.isub, 1) := by decide +kernel
theorem dX12_cake_117 : decode cX12_cake 117 = .ok (.ireturn, 1) := by decide +kernel
theorem dX12_move_0 : decode cX12_move 0 = .ok (.aload_n 0, 1) := by decide +kernel
theorem dX12_move_1 : decode cX12_move 1 = .ok (.iload_n 1, 1) := by decide +kernel
theorem dX12_move_2 : decode cX12_move 2 = .ok (.invokevirtual 185, 3) := by decide +kernel
theorem dX12_move_5 : decode cX12_move 5 = .ok (.ifCond .ne 6, 3) := by decide +kernel
theorem dX12_move_8 : decode cX12_move 8 = .ok (.bipush (-5), 2) := by decide +kernel
theorem dX12_move_10 : decode cX12_move 10 = .ok (.ireturn, 1) := by decide +kernel
theorem dX12_move_11 : decode cX12_move 11 = .ok (.iload_n 2, 1) := by decide +kernel
theorem dX12_move_12 : decode cX12_move 12 = .ok (.invokestatic 109, 3) := by decide +kernel
theorem dX12_move_15 : decode cX12_move 15 = .ok (.ifCond .ne 6, 3) := by decide +kernel
theorem dX12_move_18 : decode cX12_move 18 = .ok (.bipush (-7), 2) := by decide +kernel
theorem dX12_move_20 : decode cX12_move 20 = .ok (.ireturn, 1) := by decide +kernel
theorem dX12_move_21 : decode cX12_move 21 = .ok (.aload_n 0, 1) := by decide +kernel
theorem dX12_move_22 : decode cX12_move 22 = .ok (.iload_n 2, 1) := by decide +kernel
theorem dX12_move_23 : decode cX12_move 23 = .ok (.invokevirtual 192, 3) := by decide +kernel
theorem dX12_move_26 : decode cX12_move 26 = .ok (.istore_n 3, 1) := by decide +kernel
theorem dX12_move_27 : decode cX12_move 27 = .ok (.iload_n 3, 1) := by decide +kernel
theorem dX12_move_28 : decode cX12_move 28 = .ok (.iconst (-1), 1) := by decide +kernel
theorem dX12_move_29 : decode cX12_move 29 = .ok (.if_icmp .eq 11, 3) := by decide +kernel
theorem dX12_move_32 : decode cX12_move 32 = .ok (.iload_n 3, 1) := by decide +kernel
theorem dX12_move_33 : decode cX12_move 33 = .ok (.iload_n 1, 1) := by decide +kernel
theorem dX12_move_34 : decode cX12_move 34 = .ok (.if_icmp .eq 6, 3) := by decide +kernel
theorem dX12_move_37 : decode cX12_move 37 = .ok (.bipush (-3), 2) := by decide +kernel
theorem dX12_move_39 : decode cX12_move 39 = .ok (.ireturn, 1) := by decide +kernel
theorem dX12_move_40 : decode cX12_move 40 = .ok (.aload_n 0, 1) := by decide +kernel
theorem dX12_move_41 : decode cX12_move 41 = .ok (.getfield 26, 3) := by decide +kernel
theorem dX12_move_44 : decode cX12_move 44 = .ok (.iload_n 1, 1) := by decide +kernel
theorem dX12_move_45 : decode cX12_move 45 = .ok (.iaload, 1) := by decide +kernel
theorem dX12_move_46 : decode cX12_move 46 = .ok (.istore 4, 2) := by decide +kernel
theorem dX12_move_48 : decode cX12_move 48 = .ok (.aload_n 0, 1) := by decide +kernel
theorem dX12_move_49 : decode cX12_move 49 = .ok (.getfield 26, 3) := by decide +kernel
theorem dX12_move_52 : decode cX12_move 52 = .ok (.iload_n 1, 1) := by decide +kernel
theorem dX12_move_53 : decode cX12_move 53 = .ok (.iload_n 2, 1) := by decide +kernel
theorem dX12_move_54 : decode cX12_move 54 = .ok (.iastore, 1) := by decide +kernel
theorem dX12_move_55 : decode cX12_move 55 = .ok (.iload 4, 2) := by decide +kernel
theorem dX12_move_57 : decode cX12_move 57 = .ok (.ireturn, 1) := by decide +kernel
theorem dX12_beginsAt_0 : decode cX12_beginsAt 0 = .ok (.aload_n 0, 1) := by decide +kernel
theorem dX12_beginsAt_1 : decode cX12_beginsAt 1 = .ok (.getfield 20, 3) := by decide +kernel
theorem dX12_beginsAt_4 : decode cX12_beginsAt 4 = .ok (.iload_n 1, 1) := by decide +kernel
theorem dX12_beginsAt_5 : decode cX12_beginsAt 5 = .ok (.iaload, 1) := by decide +kernel
theorem dX12_beginsAt_6 : decode cX12_beginsAt 6 = .ok (.iconst 3, 1) := by decide +kernel
theorem dX12_beginsAt_7 : decode cX12_beginsAt 7 = .ok (.idiv, 1) := by decide +kernel
theorem dX12_beginsAt_8 : decode cX12_beginsAt 8 = .ok (.istore_n 2, 1) := by decide +kernel
theorem dX12_beginsAt_9 : decode cX12_beginsAt 9 = .ok (.aload_n 0, 1) := by decide +kernel
theorem dX12_beginsAt_10 : decode cX12_beginsAt 10 = .ok (.getfield 17, 3) := by decide +kernel
theorem dX12_beginsAt_13 : decode cX12_beginsAt 13 = .ok (.iload_n 1, 1) := by decide +kernel
theorem dX12_beginsAt_14 : decode cX12_beginsAt 14 = .ok (.iaload, 1) := by decide +kernel
theorem dX12_beginsAt_15 : decode cX12_beginsAt 15 = .ok (.iconst 1, 1) := by decide +kernel
theorem dX12_beginsAt_16 : decode cX12_beginsAt 16 = .ok (.if_icmp .ne 7, 3) := by decide +kernel
theorem dX12_beginsAt_19 : decode cX12_beginsAt 19 = .ok (.iload_n 2, 1) := by decide +kernel
theorem dX12_beginsAt_20 : decode cX12_beginsAt 20 = .ok (.goto 22, 3) := by decide +kernel
theorem dX12_beginsAt_23 : decode cX12_beginsAt 23 = .ok (.aload_n 0, 1) := by decide +kernel
theorem dX12_beginsAt_24 : decode cX12_beginsAt 24 = .ok (.getfield 17, 3) := by decide +kernel
theorem dX12_beginsAt_27 : decode cX12_beginsAt 27 = .ok (.iload_n 1, 1) := by decide +kernel
theorem dX12_beginsAt_28 : decode cX12_beginsAt 28 = .ok (.iaload, 1) := by decide +kernel
theorem dX12_beginsAt_29 : decode cX12_beginsAt 29 = .ok (.iconst 3, 1) := by decide +kernel
theorem dX12_beginsAt_30 : decode cX12_beginsAt 30 = .ok (.if_icmp .ne 11, 3) := by decide +kernel
theorem dX12_beginsAt_33 : decode cX12_beginsAt 33 = .ok (.iconst 2, 1) := by decide +kernel
theorem dX12_beginsAt_34 : decode cX12_beginsAt 34 = .ok (.iload_n 2, 1) := by decide +kernel
theorem dX12_beginsAt_35 : decode cX12_beginsAt 35 = .ok (.imul, 1) := by decide +kernel
theorem dX12_beginsAt_36 : decode cX12_beginsAt 36 = .ok (.iconst 2, 1) := by decide +kernel
theorem dX12_beginsAt_37 : decode cX12_beginsAt 37 = .ok (.iadd, 1) := by decide +kernel
theorem dX12_beginsAt_38 : decode cX12_beginsAt 38 = .ok (.goto 4, 3) := by decide +kernel
theorem dX12_beginsAt_41 : decode cX12_beginsAt 41 = .ok (.iconst 0, 1) := by decide +kernel
theorem dX12_beginsAt_42 : decode cX12_beginsAt 42 = .ok (.ireturn, 1) := by decide +kernel
theorem dX12_told_0 : decode cX12_told 0 = .ok (.aload_n 0, 1) := by decide +kernel
theorem dX12_told_1 : decode cX12_told 1 = .ok (.iload_n 1, 1) := by decide +kernel
theorem dX12_told_2 : decode cX12_told 2 = .ok (.invokevirtual 185, 3) := by decide +kernel
theorem dX12_told_5 : decode cX12_told 5 = .ok (.ifCond .ne 6, 3) := by decide +kernel
theorem dX12_told_8 : decode cX12_told 8 = .ok (.bipush (-5), 2) := by decide +kernel
theorem dX12_told_10 : decode cX12_told 10 = .ok (.ireturn, 1) := by decide +kernel
theorem dX12_told_11 : decode cX12_told 11 = .ok (.iload_n 2, 1) := by decide +kernel
theorem dX12_told_12 : decode cX12_told 12 = .ok (.tableswitch 70 0 4 #[36, 43, 50, 57, 64], 36) := by decide +kernel
theorem dX12_told_48 : decode cX12_told 48 = .ok (.aload_n 0, 1) := by decide +kernel
theorem dX12_told_49 : decode cX12_told 49 = .ok (.getfield 17, 3) := by decide +kernel
theorem dX12_told_52 : decode cX12_told 52 = .ok (.iload_n 1, 1) := by decide +kernel
theorem dX12_told_53 : decode cX12_told 53 = .ok (.iaload, 1) := by decide +kernel
theorem dX12_told_54 : decode cX12_told 54 = .ok (.ireturn, 1) := by decide +kernel
theorem dX12_told_55 : decode cX12_told 55 = .ok (.aload_n 0, 1) := by decide +kernel
theorem dX12_told_56 : decode cX12_told 56 = .ok (.getfield 20, 3) := by decide +kernel
theorem dX12_told_59 : decode cX12_told 59 = .ok (.iload_n 1, 1) := by decide +kernel
theorem dX12_told_60 : decode cX12_told 60 = .ok (.iaload, 1) := by decide +kernel
theorem dX12_told_61 : decode cX12_told 61 = .ok (.ireturn, 1) := by decide +kernel
theorem dX12_told_62 : decode cX12_told 62 = .ok (.aload_n 0, 1) := by decide +kernel
theorem dX12_told_63 : decode cX12_told 63 = .ok (.getfield 23, 3) := by decide +kernel
theorem dX12_told_66 : decode cX12_told 66 = .ok (.iload_n 1, 1) := by decide +kernel
theorem dX12_told_67 : decode cX12_told 67 = .ok (.iaload, 1) := by decide +kernel
theorem dX12_told_68 : decode cX12_told 68 = .ok (.ireturn, 1) := by decide +kernel
theorem dX12_told_69 : decode cX12_told 69 = .ok (.aload_n 0, 1) := by decide +kernel
theorem dX12_told_70 : decode cX12_told 70 = .ok (.getfield 26, 3) := by decide +kernel
theorem dX12_told_73 : decode cX12_told 73 = .ok (.iload_n 1, 1) := by decide +kernel
theorem dX12_told_74 : decode cX12_told 74 = .ok (.iaload, 1) := by decide +kernel
theorem dX12_told_75 : decode cX12_told 75 = .ok (.ireturn, 1) := by decide +kernel
theorem dX12_told_76 : decode cX12_told 76 = .ok (.aload_n 0, 1) := by decide +kernel
theorem dX12_told_77 : decode cX12_told 77 = .ok (.iload_n 1, 1) := by decide +kernel
theorem dX12_told_78 : decode cX12_told 78 = .ok (.invokevirtual 195, 3) := by decide +kernel
theorem dX12_told_81 : decode cX12_told 81 = .ok (.ireturn, 1) := by decide +kernel
theorem dX12_told_82 : decode cX12_told 82 = .ok (.bipush (-7), 2) := by decide +kernel
theorem dX12_told_84 : decode cX12_told 84 = .ok (.ireturn, 1) := by decide +kernel
theorem dX12_open_0 : decode cX12_open 0 = .ok (.iload_n 1, 1) := by decide +kernel
theorem dX12_open_1 : decode cX12_open 1 = .ok (.iconst 0, 1) := by decide +kernel
theorem dX12_open_2 : decode cX12_open 2 = .ok (.bipush 39, 2) := by decide +kernel
theorem dX12_open_4 : decode cX12_open 4 = .ok (.invokestatic 93, 3) := by decide +kernel
theorem dX12_open_7 : decode cX12_open 7 = .ok (.ifCond .eq 12, 3) := by decide +kernel
theorem dX12_open_10 : decode cX12_open 10 = .ok (.iload_n 2, 1) := by decide +kernel
theorem dX12_open_11 : decode cX12_open 11 = .ok (.iconst 0, 1) := by decide +kernel
theorem dX12_open_12 : decode cX12_open 12 = .ok (.iconst 3, 1) := by decide +kernel
theorem dX12_open_13 : decode cX12_open 13 = .ok (.invokestatic 93, 3) := by decide +kernel
theorem dX12_open_16 : decode cX12_open 16 = .ok (.ifCond .ne 6, 3) := by decide +kernel
theorem dX12_open_19 : decode cX12_open 19 = .ok (.bipush (-2), 2) := by decide +kernel
theorem dX12_open_21 : decode cX12_open 21 = .ok (.ireturn, 1) := by decide +kernel
theorem dX12_open_22 : decode cX12_open 22 = .ok (.aload_n 0, 1) := by decide +kernel
theorem dX12_open_23 : decode cX12_open 23 = .ok (.getfield 100, 3) := by decide +kernel
theorem dX12_open_26 : decode cX12_open 26 = .ok (.ifCond .le 26, 3) := by decide +kernel
theorem dX12_open_29 : decode cX12_open 29 = .ok (.aload_n 0, 1) := by decide +kernel
theorem dX12_open_30 : decode cX12_open 30 = .ok (.getfield 29, 3) := by decide +kernel
theorem dX12_open_33 : decode cX12_open 33 = .ok (.aload_n 0, 1) := by decide +kernel
theorem dX12_open_34 : decode cX12_open 34 = .ok (.getfield 100, 3) := by decide +kernel
theorem dX12_open_37 : decode cX12_open 37 = .ok (.iconst 1, 1) := by decide +kernel
theorem dX12_open_38 : decode cX12_open 38 = .ok (.isub, 1) := by decide +kernel
theorem dX12_open_39 : decode cX12_open 39 = .ok (.iconst 0, 1) := by decide +kernel
theorem dX12_open_40 : decode cX12_open 40 = .ok (.iconst 5, 1) := by decide +kernel
theorem dX12_open_41 : decode cX12_open 41 = .ok (.invokestatic 182, 3) := by decide +kernel
theorem dX12_open_44 : decode cX12_open 44 = .ok (.iaload, 1) := by decide +kernel
theorem dX12_open_45 : decode cX12_open 45 = .ok (.iload_n 1, 1) := by decide +kernel
theorem dX12_open_46 : decode cX12_open 46 = .ok (.if_icmp .lt 6, 3) := by decide +kernel
theorem dX12_open_49 : decode cX12_open 49 = .ok (.bipush (-3), 2) := by decide +kernel
theorem dX12_open_51 : decode cX12_open 51 = .ok (.ireturn, 1) := by decide +kernel
theorem dX12_open_52 : decode cX12_open 52 = .ok (.aload_n 0, 1) := by decide +kernel
theorem dX12_open_53 : decode cX12_open 53 = .ok (.getfield 100, 3) := by decide +kernel
theorem dX12_open_56 : decode cX12_open 56 = .ok (.bipush 6, 2) := by decide +kernel
theorem dX12_open_58 : decode cX12_open 58 = .ok (.if_icmp .ne 6, 3) := by decide +kernel
theorem dX12_open_61 : decode cX12_open 61 = .ok (.bipush (-4), 2) := by decide +kernel
theorem dX12_open_63 : decode cX12_open 63 = .ok (.ireturn, 1) := by decide +kernel
theorem dX12_open_64 : decode cX12_open 64 = .ok (.aload_n 0, 1) := by decide +kernel
theorem dX12_open_65 : decode cX12_open 65 = .ok (.getfield 29, 3) := by decide +kernel
theorem dX12_open_68 : decode cX12_open 68 = .ok (.aload_n 0, 1) := by decide +kernel
theorem dX12_open_69 : decode cX12_open 69 = .ok (.getfield 100, 3) := by decide +kernel
theorem dX12_open_72 : decode cX12_open 72 = .ok (.iload_n 1, 1) := by decide +kernel
theorem dX12_open_73 : decode cX12_open 73 = .ok (.iastore, 1) := by decide +kernel
theorem dX12_open_74 : decode cX12_open 74 = .ok (.aload_n 0, 1) := by decide +kernel
theorem dX12_open_75 : decode cX12_open 75 = .ok (.getfield 32, 3) := by decide +kernel
theorem dX12_open_78 : decode cX12_open 78 = .ok (.aload_n 0, 1) := by decide +kernel
theorem dX12_open_79 : decode cX12_open 79 = .ok (.getfield 100, 3) := by decide +kernel
theorem dX12_open_82 : decode cX12_open 82 = .ok (.iload_n 2, 1) := by decide +kernel
theorem dX12_open_83 : decode cX12_open 83 = .ok (.iastore, 1) := by decide +kernel
theorem dX12_open_84 : decode cX12_open 84 = .ok (.aload_n 0, 1) := by decide +kernel
theorem dX12_open_85 : decode cX12_open 85 = .ok (.dup, 1) := by decide +kernel
theorem dX12_open_86 : decode cX12_open 86 = .ok (.getfield 100, 3) := by decide +kernel
theorem dX12_open_89 : decode cX12_open 89 = .ok (.iconst 1, 1) := by decide +kernel
theorem dX12_open_90 : decode cX12_open 90 = .ok (.iadd, 1) := by decide +kernel
theorem dX12_open_91 : decode cX12_open 91 = .ok (.putfield 100, 3) := by decide +kernel
theorem dX12_open_94 : decode cX12_open 94 = .ok (.aload_n 0, 1) := by decide +kernel
theorem dX12_open_95 : decode cX12_open 95 = .ok (.getfield 100, 3) := by decide +kernel
theorem dX12_open_98 : decode cX12_open 98 = .ok (.ireturn, 1) := by decide +kernel
theorem dX12_opening_0 : decode cX12_opening 0 = .ok (.iload_n 1, 1) := by decide +kernel
theorem dX12_opening_1 : decode cX12_opening 1 = .ok (.iconst 0, 1) := by decide +kernel
theorem dX12_opening_2 : decode cX12_opening 2 = .ok (.aload_n 0, 1) := by decide +kernel
theorem dX12_opening_3 : decode cX12_opening 3 = .ok (.getfield 100, 3) := by decide +kernel
theorem dX12_opening_6 : decode cX12_opening 6 = .ok (.iconst 1, 1) := by decide +kernel
theorem dX12_opening_7 : decode cX12_opening 7 = .ok (.isub, 1) := by decide +kernel
theorem dX12_opening_8 : decode cX12_opening 8 = .ok (.invokestatic 93, 3) := by decide +kernel
theorem dX12_opening_11 : decode cX12_opening 11 = .ok (.ifCond .ne 6, 3) := by decide +kernel
theorem dX12_opening_14 : decode cX12_opening 14 = .ok (.bipush (-5), 2) := by decide +kernel
theorem dX12_opening_16 : decode cX12_opening 16 = .ok (.ireturn, 1) := by decide +kernel
theorem dX12_opening_17 : decode cX12_opening 17 = .ok (.iload_n 2, 1) := by decide +kernel
theorem dX12_opening_18 : decode cX12_opening 18 = .ok (.ifCond .ne 12, 3) := by decide +kernel
theorem dX12_opening_21 : decode cX12_opening 21 = .ok (.aload_n 0, 1) := by decide +kernel
theorem dX12_opening_22 : decode cX12_opening 22 = .ok (.getfield 29, 3) := by decide +kernel
theorem dX12_opening_25 : decode cX12_opening 25 = .ok (.iload_n 1, 1) := by decide +kernel
theorem dX12_opening_26 : decode cX12_opening 26 = .ok (.iaload, 1) := by decide +kernel
theorem dX12_opening_27 : decode cX12_opening 27 = .ok (.goto 19, 3) := by decide +kernel
theorem dX12_opening_30 : decode cX12_opening 30 = .ok (.iload_n 2, 1) := by decide +kernel
theorem dX12_opening_31 : decode cX12_opening 31 = .ok (.iconst 1, 1) := by decide +kernel
theorem dX12_opening_32 : decode cX12_opening 32 = .ok (.if_icmp .ne 12, 3) := by decide +kernel
theorem dX12_opening_35 : decode cX12_opening 35 = .ok (.aload_n 0, 1) := by decide +kernel
theorem dX12_opening_36 : decode cX12_opening 36 = .ok (.getfield 32, 3) := by decide +kernel
theorem dX12_opening_39 : decode cX12_opening 39 = .ok (.iload_n 1, 1) := by decide +kernel
theorem dX12_opening_40 : decode cX12_opening 40 = .ok (.iaload, 1) := by decide +kernel
theorem dX12_opening_41 : decode cX12_opening 41 = .ok (.goto 5, 3) := by decide +kernel
theorem dX12_opening_44 : decode cX12_opening 44 = .ok (.bipush (-7), 2) := by decide +kernel
theorem dX12_opening_46 : decode cX12_opening 46 = .ok (.ireturn, 1) := by decide +kernel
theorem dX12_shut_0 : decode cX12_shut 0 = .ok (.aload_n 0, 1) := by decide +kernel
theorem dX12_shut_1 : decode cX12_shut 1 = .ok (.getfield 100, 3) := by decide +kernel
theorem dX12_shut_4 : decode cX12_shut 4 = .ok (.istore_n 1, 1) := by decide +kernel
theorem dX12_shut_5 : decode cX12_shut 5 = .ok (.aload_n 0, 1) := by decide +kernel
theorem dX12_shut_6 : decode cX12_shut 6 = .ok (.iconst 0, 1) := by decide +kernel
theorem dX12_shut_7 : decode cX12_shut 7 = .ok (.putfield 100, 3) := by decide +kernel
theorem dX12_shut_10 : decode cX12_shut 10 = .ok (.iload_n 1, 1) := by decide +kernel
theorem dX12_shut_11 : decode cX12_shut 11 = .ok (.ireturn, 1) := by decide +kernel
theorem dX12_browner_0 : decode cX12_browner 0 = .ok (.iload_n 2, 1) := by decide +kernel
theorem dX12_browner_1 : decode cX12_browner 1 = .ok (.aload_n 0, 1) := by decide +kernel
theorem dX12_browner_2 : decode cX12_browner 2 = .ok (.getfield 20, 3) := by decide +kernel
theorem dX12_browner_5 : decode cX12_browner 5 = .ok (.iload_n 1, 1) := by decide +kernel
theorem dX12_browner_6 : decode cX12_browner 6 = .ok (.iaload, 1) := by decide +kernel
theorem dX12_browner_7 : decode cX12_browner 7 = .ok (.iconst 2, 1) := by decide +kernel
theorem dX12_browner_8 : decode cX12_browner 8 = .ok (.idiv, 1) := by decide +kernel
theorem dX12_browner_9 : decode cX12_browner 9 = .ok (.iadd, 1) := by decide +kernel
theorem dX12_browner_10 : decode cX12_browner 10 = .ok (.istore 4, 2) := by decide +kernel
theorem dX12_browner_12 : decode cX12_browner 12 = .ok (.aload_n 0, 1) := by decide +kernel
theorem dX12_browner_13 : decode cX12_browner 13 = .ok (.getfield 17, 3) := by decide +kernel
theorem dX12_browner_16 : decode cX12_browner 16 = .ok (.iload_n 1, 1) := by decide +kernel
theorem dX12_browner_17 : decode cX12_browner 17 = .ok (.iaload, 1) := by decide +kernel
theorem dX12_browner_18 : decode cX12_browner 18 = .ok (.tableswitch 65 1 4 #[30, 36, 30, 39], 30) := by decide +kernel
theorem dX12_browner_48 : decode cX12_browner 48 = .ok (.iload_n 2, 1) := by decide +kernel
theorem dX12_browner_49 : decode cX12_browner 49 = .ok (.iconst 2, 1) := by decide +kernel
theorem dX12_browner_50 : decode cX12_browner 50 = .ok (.imul, 1) := by decide +kernel
theorem dX12_browner_51 : decode cX12_browner 51 = .ok (.iconst 3, 1) := by decide +kernel
theorem dX12_browner_52 : decode cX12_browner 52 = .ok (.idiv, 1) := by decide +kernel
theorem dX12_browner_53 : decode cX12_browner 53 = .ok (.ireturn, 1) := by decide +kernel
theorem dX12_browner_54 : decode cX12_browner 54 = .ok (.iload 4, 2) := by decide +kernel
theorem dX12_browner_56 : decode cX12_browner 56 = .ok (.ireturn, 1) := by decide +kernel
theorem dX12_browner_57 : decode cX12_browner 57 = .ok (.iload_n 3, 1) := by decide +kernel
theorem dX12_browner_58 : decode cX12_browner 58 = .ok (.bipush 10, 2) := by decide +kernel
theorem dX12_browner_60 : decode cX12_browner 60 = .ok (.aload_n 0, 1) := by decide +kernel
theorem dX12_browner_61 : decode cX12_browner 61 = .ok (.getfield 20, 3) := by decide +kernel
theorem dX12_browner_64 : decode cX12_browner 64 = .ok (.iload_n 1, 1) := by decide +kernel
theorem dX12_browner_65 : decode cX12_browner 65 = .ok (.iaload, 1) := by decide +kernel
theorem dX12_browner_66 : decode cX12_browner 66 = .ok (.imul, 1) := by decide +kernel
theorem dX12_browner_67 : decode cX12_browner 67 = .ok (.bipush 20, 2) := by decide +kernel
theorem dX12_browner_69 : decode cX12_browner 69 = .ok (.iadd, 1) := by decide +kernel
theorem dX12_browner_70 : decode cX12_browner 70 = .ok (.if_icmp .le 10, 3) := by decide +kernel
theorem dX12_browner_73 : decode cX12_browner 73 = .ok (.iconst 3, 1) := by decide +kernel
theorem dX12_browner_74 : decode cX12_browner 74 = .ok (.iload 4, 2) := by decide +kernel
theorem dX12_browner_76 : decode cX12_browner 76 = .ok (.imul, 1) := by decide +kernel
theorem dX12_browner_77 : decode cX12_browner 77 = .ok (.goto 5, 3) := by decide +kernel
theorem dX12_browner_80 : decode cX12_browner 80 = .ok (.iload 4, 2) := by decide +kernel
theorem dX12_browner_82 : decode cX12_browner 82 = .ok (.ireturn, 1) := by decide +kernel
theorem dX12_browner_83 : decode cX12_browner 83 = .ok (.iload_n 2, 1) := by decide +kernel
theorem dX12_browner_84 : decode cX12_browner 84 = .ok (.ireturn, 1) := by decide +kernel
theorem dX12_turnedBy_0 : decode cX12_turnedBy 0 = .ok (.aload_n 0, 1) := by decide +kernel
theorem dX12_turnedBy_1 : decode cX12_turnedBy 1 = .ok (.getfield 97, 3) := by decide +kernel
theorem dX12_turnedBy_4 : decode cX12_turnedBy 4 = .ok (.istore_n 2, 1) := by decide +kernel
theorem dX12_turnedBy_5 : decode cX12_turnedBy 5 = .ok (.iconst 0, 1) := by decide +kernel
theorem dX12_turnedBy_6 : decode cX12_turnedBy 6 = .ok (.istore_n 3, 1) := by decide +kernel
theorem dX12_turnedBy_7 : decode cX12_turnedBy 7 = .ok (.iload_n 3, 1) := by decide +kernel
theorem dX12_turnedBy_8 : decode cX12_turnedBy 8 = .ok (.aload_n 0, 1) := by decide +kernel
theorem dX12_turnedBy_9 : decode cX12_turnedBy 9 = .ok (.getfield 100, 3) := by decide +kernel
theorem dX12_turnedBy_12 : decode cX12_turnedBy 12 = .ok (.if_icmp .ge 32, 3) := by decide +kernel
theorem dX12_turnedBy_15 : decode cX12_turnedBy 15 = .ok (.iload_n 2, 1) := by decide +kernel
theorem dX12_turnedBy_16 : decode cX12_turnedBy 16 = .ok (.aload_n 0, 1) := by decide +kernel
theorem dX12_turnedBy_17 : decode cX12_turnedBy 17 = .ok (.getfield 29, 3) := by decide +kernel
theorem dX12_turnedBy_20 : decode cX12_turnedBy 20 = .ok (.iload_n 3, 1) := by decide +kernel
theorem dX12_turnedBy_21 : decode cX12_turnedBy 21 = .ok (.iaload, 1) := by decide +kernel
theorem dX12_turnedBy_22 : decode cX12_turnedBy 22 = .ok (.iload_n 1, 1) := by decide +kernel
theorem dX12_turnedBy_23 : decode cX12_turnedBy 23 = .ok (.if_icmp .gt 12, 3) := by decide +kernel
theorem dX12_turnedBy_26 : decode cX12_turnedBy 26 = .ok (.aload_n 0, 1) := by decide +kernel
theorem dX12_turnedBy_27 : decode cX12_turnedBy 27 = .ok (.getfield 32, 3) := by decide +kernel
theorem dX12_turnedBy_30 : decode cX12_turnedBy 30 = .ok (.iload_n 3, 1) := by decide +kernel
theorem dX12_turnedBy_31 : decode cX12_turnedBy 31 = .ok (.iaload, 1) := by decide +kernel
theorem dX12_turnedBy_32 : decode cX12_turnedBy 32 = .ok (.goto 4, 3) := by decide +kernel
theorem dX12_turnedBy_35 : decode cX12_turnedBy 35 = .ok (.iconst 0, 1) := by decide +kernel
theorem dX12_turnedBy_36 : decode cX12_turnedBy 36 = .ok (.iadd, 1) := by decide +kernel
theorem dX12_turnedBy_37 : decode cX12_turnedBy 37 = .ok (.istore_n 2, 1) := by decide +kernel
theorem dX12_turnedBy_38 : decode cX12_turnedBy 38 = .ok (.iinc 3 1, 3) := by decide +kernel
theorem dX12_turnedBy_41 : decode cX12_turnedBy 41 = .ok (.goto (-34), 3) := by decide +kernel
theorem dX12_turnedBy_44 : decode cX12_turnedBy 44 = .ok (.iload_n 2, 1) := by decide +kernel
theorem dX12_turnedBy_45 : decode cX12_turnedBy 45 = .ok (.iconst 4, 1) := by decide +kernel
theorem dX12_turnedBy_46 : decode cX12_turnedBy 46 = .ok (.irem, 1) := by decide +kernel
theorem dX12_turnedBy_47 : decode cX12_turnedBy 47 = .ok (.ireturn, 1) := by decide +kernel
theorem dX12_lastBy_0 : decode cX12_lastBy 0 = .ok (.iconst (-1), 1) := by decide +kernel
theorem dX12_lastBy_1 : decode cX12_lastBy 1 = .ok (.istore_n 2, 1) := by decide +kernel
theorem dX12_lastBy_2 : decode cX12_lastBy 2 = .ok (.iconst 0, 1) := by decide +kernel
theorem dX12_lastBy_3 : decode cX12_lastBy 3 = .ok (.istore_n 3, 1) := by decide +kernel
theorem dX12_lastBy_4 : decode cX12_lastBy 4 = .ok (.iload_n 3, 1) := by decide +kernel
theorem dX12_lastBy_5 : decode cX12_lastBy 5 = .ok (.aload_n 0, 1) := by decide +kernel
theorem dX12_lastBy_6 : decode cX12_lastBy 6 = .ok (.getfield 100, 3) := by decide +kernel
theorem dX12_lastBy_9 : decode cX12_lastBy 9 = .ok (.if_icmp .ge 30, 3) := by decide +kernel
theorem dX12_lastBy_12 : decode cX12_lastBy 12 = .ok (.aload_n 0, 1) := by decide +kernel
theorem dX12_lastBy_13 : decode cX12_lastBy 13 = .ok (.getfield 29, 3) := by decide +kernel
theorem dX12_lastBy_16 : decode cX12_lastBy 16 = .ok (.iload_n 3, 1) := by decide +kernel
theorem dX12_lastBy_17 : decode cX12_lastBy 17 = .ok (.iaload, 1) := by decide +kernel
theorem dX12_lastBy_18 : decode cX12_lastBy 18 = .ok (.iload_n 1, 1) := by decide +kernel
theorem dX12_lastBy_19 : decode cX12_lastBy 19 = .ok (.if_icmp .gt 12, 3) := by decide +kernel
theorem dX12_lastBy_22 : decode cX12_lastBy 22 = .ok (.aload_n 0, 1) := by decide +kernel
theorem dX12_lastBy_23 : decode cX12_lastBy 23 = .ok (.getfield 29, 3) := by decide +kernel
theorem dX12_lastBy_26 : decode cX12_lastBy 26 = .ok (.iload_n 3, 1) := by decide +kernel
theorem dX12_lastBy_27 : decode cX12_lastBy 27 = .ok (.iaload, 1) := by decide +kernel
theorem dX12_lastBy_28 : decode cX12_lastBy 28 = .ok (.goto 4, 3) := by decide +kernel
theorem dX12_lastBy_31 : decode cX12_lastBy 31 = .ok (.iload_n 2, 1) := by decide +kernel
theorem dX12_lastBy_32 : decode cX12_lastBy 32 = .ok (.istore_n 2, 1) := by decide +kernel
theorem dX12_lastBy_33 : decode cX12_lastBy 33 = .ok (.iinc 3 1, 3) := by decide +kernel
theorem dX12_lastBy_36 : decode cX12_lastBy 36 = .ok (.goto (-32), 3) := by decide +kernel
theorem dX12_lastBy_39 : decode cX12_lastBy 39 = .ok (.iload_n 2, 1) := by decide +kernel
theorem dX12_lastBy_40 : decode cX12_lastBy 40 = .ok (.ireturn, 1) := by decide +kernel
theorem dX12_heatFor_0 : decode cX12_heatFor 0 = .ok (.aload_n 0, 1) := by decide +kernel
theorem dX12_heatFor_1 : decode cX12_heatFor 1 = .ok (.getfield 7, 3) := by decide +kernel
theorem dX12_heatFor_4 : decode cX12_heatFor 4 = .ok (.aload_n 0, 1) := by decide +kernel
theorem dX12_heatFor_5 : decode cX12_heatFor 5 = .ok (.getfield 26, 3) := by decide +kernel
theorem dX12_heatFor_8 : decode cX12_heatFor 8 = .ok (.iload_n 1, 1) := by decide +kernel
theorem dX12_heatFor_9 : decode cX12_heatFor 9 = .ok (.iaload, 1) := by decide +kernel
theorem dX12_heatFor_10 : decode cX12_heatFor 10 = .ok (.aload_n 0, 1) := by decide +kernel
theorem dX12_heatFor_11 : decode cX12_heatFor 11 = .ok (.iload_n 2, 1) := by decide +kernel
theorem dX12_heatFor_12 : decode cX12_heatFor 12 = .ok (.invokevirtual 198, 3) := by decide +kernel
theorem dX12_heatFor_15 : decode cX12_heatFor 15 = .ok (.invokestatic 113, 3) := by decide +kernel
theorem dX12_heatFor_18 : decode cX12_heatFor 18 = .ok (.iaload, 1) := by decide +kernel
theorem dX12_heatFor_19 : decode cX12_heatFor 19 = .ok (.istore 5, 2) := by decide +kernel
theorem dX12_heatFor_21 : decode cX12_heatFor 21 = .ok (.iload_n 3, 1) := by decide +kernel
theorem dX12_heatFor_22 : decode cX12_heatFor 22 = .ok (.iconst (-1), 1) := by decide +kernel
theorem dX12_heatFor_23 : decode cX12_heatFor 23 = .ok (.if_icmp .ne 6, 3) := by decide +kernel
theorem dX12_heatFor_26 : decode cX12_heatFor 26 = .ok (.iload 5, 2) := by decide +kernel
theorem dX12_heatFor_28 : decode cX12_heatFor 28 = .ok (.ireturn, 1) := by decide +kernel
theorem dX12_heatFor_29 : decode cX12_heatFor 29 = .ok (.iload 5, 2) := by decide +kernel
theorem dX12_heatFor_31 : decode cX12_heatFor 31 = .ok (.aload_n 0, 1) := by decide +kernel
theorem dX12_heatFor_32 : decode cX12_heatFor 32 = .ok (.iconst 1, 1) := by decide +kernel
theorem dX12_heatFor_33 : decode cX12_heatFor 33 = .ok (.iload 5, 2) := by decide +kernel
theorem dX12_heatFor_35 : decode cX12_heatFor 35 = .ok (.iload_n 2, 1) := by decide +kernel
theorem dX12_heatFor_36 : decode cX12_heatFor 36 = .ok (.iload 4, 2) := by decide +kernel
theorem dX12_heatFor_38 : decode cX12_heatFor 38 = .ok (.iload_n 1, 1) := by decide +kernel
theorem dX12_heatFor_39 : decode cX12_heatFor 39 = .ok (.iload_n 2, 1) := by decide +kernel
theorem dX12_heatFor_40 : decode cX12_heatFor 40 = .ok (.iload_n 3, 1) := by decide +kernel
theorem dX12_heatFor_41 : decode cX12_heatFor 41 = .ok (.isub, 1) := by decide +kernel
theorem dX12_heatFor_42 : decode cX12_heatFor 42 = .ok (.invokevirtual 188, 3) := by decide +kernel
theorem dX12_heatFor_45 : decode cX12_heatFor 45 = .ok (.isub, 1) := by decide +kernel
theorem dX12_heatFor_46 : decode cX12_heatFor 46 = .ok (.istore 6, 2) := by decide +kernel
theorem dX12_heatFor_48 : decode cX12_heatFor 48 = .ok (.iload 6, 2) := by decide +kernel
theorem dX12_heatFor_50 : decode cX12_heatFor 50 = .ok (.ifCond .ge 7, 3) := by decide +kernel
theorem dX12_heatFor_53 : decode cX12_heatFor 53 = .ok (.iconst 0, 1) := by decide +kernel
theorem dX12_heatFor_54 : decode cX12_heatFor 54 = .ok (.goto 5, 3) := by decide +kernel
theorem dX12_heatFor_57 : decode cX12_heatFor 57 = .ok (.iload 6, 2) := by decide +kernel
theorem dX12_heatFor_59 : decode cX12_heatFor 59 = .ok (.ireturn, 1) := by decide +kernel
theorem dX12_bakesOne_0 : decode cX12_bakesOne 0 = .ok (.iconst 0, 1) := by decide +kernel
theorem dX12_bakesOne_1 : decode cX12_bakesOne 1 = .ok (.istore_n 2, 1) := by decide +kernel
theorem dX12_bakesOne_2 : decode cX12_bakesOne 2 = .ok (.aload_n 0, 1) := by decide +kernel
theorem dX12_bakesOne_3 : decode cX12_bakesOne 3 = .ok (.getfield 71, 3) := by decide +kernel
theorem dX12_bakesOne_6 : decode cX12_bakesOne 6 = .ok (.bipush 41, 2) := by decide +kernel
theorem dX12_bakesOne_8 : decode cX12_bakesOne 8 = .ok (.iload_n 1, 1) := by decide +kernel
theorem dX12_bakesOne_9 : decode cX12_bakesOne 9 = .ok (.imul, 1) := by decide +kernel
theorem dX12_bakesOne_10 : decode cX12_bakesOne 10 = .ok (.iconst 0, 1) := by decide +kernel
theorem dX12_bakesOne_11 : decode cX12_bakesOne 11 = .ok (.iastore, 1) := by decide +kernel
theorem dX12_bakesOne_12 : decode cX12_bakesOne 12 = .ok (.iconst 0, 1) := by decide +kernel
theorem dX12_bakesOne_13 : decode cX12_bakesOne 13 = .ok (.istore_n 3, 1) := by decide +kernel
theorem dX12_bakesOne_14 : decode cX12_bakesOne 14 = .ok (.iload_n 3, 1) := by decide +kernel
theorem dX12_bakesOne_15 : decode cX12_bakesOne 15 = .ok (.aload_n 0, 1) := by decide +kernel
theorem dX12_bakesOne_16 : decode cX12_bakesOne 16 = .ok (.getfield 13, 3) := by decide +kernel
theorem dX12_bakesOne_19 : decode cX12_bakesOne 19 = .ok (.if_icmp .ge 94, 3) := by decide +kernel
theorem dX12_bakesOne_22 : decode cX12_bakesOne 22 = .ok (.aload_n 0, 1) := by decide +kernel
theorem dX12_bakesOne_23 : decode cX12_bakesOne 23 = .ok (.iload_n 3, 1) := by decide +kernel
theorem dX12_bakesOne_24 : decode cX12_bakesOne 24 = .ok (.invokevirtual 201, 3) := by decide +kernel
theorem dX12_bakesOne_27 : decode cX12_bakesOne 27 = .ok (.istore 4, 2) := by decide +kernel
theorem dX12_bakesOne_29 : decode cX12_bakesOne 29 = .ok (.aload_n 0, 1) := by decide +kernel
theorem dX12_bakesOne_30 : decode cX12_bakesOne 30 = .ok (.iload_n 1, 1) := by decide +kernel
theorem dX12_bakesOne_31 : decode cX12_bakesOne 31 = .ok (.iload_n 3, 1) := by decide +kernel
theorem dX12_bakesOne_32 : decode cX12_bakesOne 32 = .ok (.iload 4, 2) := by decide +kernel
theorem dX12_bakesOne_34 : decode cX12_bakesOne 34 = .ok (.iload_n 2, 1) := by decide +kernel
theorem dX12_bakesOne_35 : decode cX12_bakesOne 35 = .ok (.invokevirtual 204, 3) := by decide +kernel
theorem dX12_bakesOne_38 : decode cX12_bakesOne 38 = .ok (.istore 5, 2) := by decide +kernel
theorem dX12_bakesOne_40 : decode cX12_bakesOne 40 = .ok (.iload_n 3, 1) := by decide +kernel
theorem dX12_bakesOne_41 : decode cX12_bakesOne 41 = .ok (.aload_n 0, 1) := by decide +kernel
theorem dX12_bakesOne_42 : decode cX12_bakesOne 42 = .ok (.iload_n 1, 1) := by decide +kernel
theorem dX12_bakesOne_43 : decode cX12_bakesOne 43 = .ok (.invokevirtual 195, 3) := by decide +kernel
theorem dX12_bakesOne_46 : decode cX12_bakesOne 46 = .ok (.if_icmp .lt 47, 3) := by decide +kernel
theorem dX12_bakesOne_49 : decode cX12_bakesOne 49 = .ok (.aload_n 0, 1) := by decide +kernel
theorem dX12_bakesOne_50 : decode cX12_bakesOne 50 = .ok (.iconst 0, 1) := by decide +kernel
theorem dX12_bakesOne_51 : decode cX12_bakesOne 51 = .ok (.iload 5, 2) := by decide +kernel
theorem dX12_bakesOne_53 : decode cX12_bakesOne 53 = .ok (.iload_n 3, 1) := by decide +kernel
theorem dX12_bakesOne_54 : decode cX12_bakesOne 54 = .ok (.iload_n 2, 1) := by decide +kernel
theorem dX12_bakesOne_55 : decode cX12_bakesOne 55 = .ok (.iload_n 1, 1) := by decide +kernel
theorem dX12_bakesOne_56 : decode cX12_bakesOne 56 = .ok (.iload 4, 2) := by decide +kernel
theorem dX12_bakesOne_58 : decode cX12_bakesOne 58 = .ok (.iconst (-1), 1) := by decide +kernel
theorem dX12_bakesOne_59 : decode cX12_bakesOne 59 = .ok (.if_icmp .ne 7, 3) := by decide +kernel
theorem dX12_bakesOne_62 : decode cX12_bakesOne 62 = .ok (.iload_n 3, 1) := by decide +kernel
theorem dX12_bakesOne_63 : decode cX12_bakesOne 63 = .ok (.goto 7, 3) := by decide +kernel
theorem dX12_bakesOne_66 : decode cX12_bakesOne 66 = .ok (.iload_n 3, 1) := by decide +kernel
theorem dX12_bakesOne_67 : decode cX12_bakesOne 67 = .ok (.iload 4, 2) := by decide +kernel
theorem dX12_bakesOne_69 : decode cX12_bakesOne 69 = .ok (.isub, 1) := by decide +kernel
theorem dX12_bakesOne_70 : decode cX12_bakesOne 70 = .ok (.invokevirtual 188, 3) := by decide +kernel
theorem dX12_bakesOne_73 : decode cX12_bakesOne 73 = .ok (.istore 6, 2) := by decide +kernel
theorem dX12_bakesOne_75 : decode cX12_bakesOne 75 = .ok (.iload_n 2, 1) := by decide +kernel
theorem dX12_bakesOne_76 : decode cX12_bakesOne 76 = .ok (.aload_n 0, 1) := by decide +kernel
theorem dX12_bakesOne_77 : decode cX12_bakesOne 77 = .ok (.iload_n 1, 1) := by decide +kernel
theorem dX12_bakesOne_78 : decode cX12_bakesOne 78 = .ok (.iload 6, 2) := by decide +kernel
theorem dX12_bakesOne_80 : decode cX12_bakesOne 80 = .ok (.iload_n 2, 1) := by decide +kernel
theorem dX12_bakesOne_81 : decode cX12_bakesOne 81 = .ok (.invokevirtual 208, 3) := by decide +kernel
theorem dX12_bakesOne_84 : decode cX12_bakesOne 84 = .ok (.iadd, 1) := by decide +kernel
theorem dX12_bakesOne_85 : decode cX12_bakesOne 85 = .ok (.iconst 0, 1) := by decide +kernel
theorem dX12_bakesOne_86 : decode cX12_bakesOne 86 = .ok (.sipush 999, 3) := by decide +kernel
theorem dX12_bakesOne_89 : decode cX12_bakesOne 89 = .ok (.invokestatic 182, 3) := by decide +kernel
theorem dX12_bakesOne_92 : decode cX12_bakesOne 92 = .ok (.istore_n 2, 1) := by decide +kernel
theorem dX12_bakesOne_93 : decode cX12_bakesOne 93 = .ok (.aload_n 0, 1) := by decide +kernel
theorem dX12_bakesOne_94 : decode cX12_bakesOne 94 = .ok (.getfield 71, 3) := by decide +kernel
theorem dX12_bakesOne_97 : decode cX12_bakesOne 97 = .ok (.bipush 41, 2) := by decide +kernel
theorem dX12_bakesOne_99 : decode cX12_bakesOne 99 = .ok (.iload_n 1, 1) := by decide +kernel
theorem dX12_bakesOne_100 : decode cX12_bakesOne 100 = .ok (.imul, 1) := by decide +kernel
theorem dX12_bakesOne_101 : decode cX12_bakesOne 101 = .ok (.iload_n 3, 1) := by decide +kernel
theorem dX12_bakesOne_102 : decode cX12_bakesOne 102 = .ok (.iadd, 1) := by decide +kernel
theorem dX12_bakesOne_103 : decode cX12_bakesOne 103 = .ok (.iconst 1, 1) := by decide +kernel
theorem dX12_bakesOne_104 : decode cX12_bakesOne 104 = .ok (.iadd, 1) := by decide +kernel
theorem dX12_bakesOne_105 : decode cX12_bakesOne 105 = .ok (.iload_n 2, 1) := by decide +kernel
theorem dX12_bakesOne_106 : decode cX12_bakesOne 106 = .ok (.iastore, 1) := by decide +kernel
theorem dX12_bakesOne_107 : decode cX12_bakesOne 107 = .ok (.iinc 3 1, 3) := by decide +kernel
theorem dX12_bakesOne_110 : decode cX12_bakesOne 110 = .ok (.goto (-96), 3) := by decide +kernel
theorem dX12_bakesOne_113 : decode cX12_bakesOne 113 = .ok (.return_, 1) := by decide +kernel
theorem dX12_bakes_0 : decode cX12_bakes 0 = .ok (.iconst 0, 1) := by decide +kernel
theorem dX12_bakes_1 : decode cX12_bakes 1 = .ok (.istore_n 1, 1) := by decide +kernel
theorem dX12_bakes_2 : decode cX12_bakes 2 = .ok (.iload_n 1, 1) := by decide +kernel
theorem dX12_bakes_3 : decode cX12_bakes 3 = .ok (.aload_n 0, 1) := by decide +kernel
theorem dX12_bakes_4 : decode cX12_bakes 4 = .ok (.getfield 90, 3) := by decide +kernel
theorem dX12_bakes_7 : decode cX12_bakes 7 = .ok (.if_icmp .ge 14, 3) := by decide +kernel
theorem dX12_bakes_10 : decode cX12_bakes 10 = .ok (.aload_n 0, 1) := by decide +kernel
theorem dX12_bakes_11 : decode cX12_bakes 11 = .ok (.iload_n 1, 1) := by decide +kernel
theorem dX12_bakes_12 : decode cX12_bakes 12 = .ok (.invokevirtual 211, 3) := by decide +kernel
theorem dX12_bakes_15 : decode cX12_bakes 15 = .ok (.iinc 1 1, 3) := by decide +kernel
theorem dX12_bakes_18 : decode cX12_bakes 18 = .ok (.goto (-16), 3) := by decide +kernel
theorem dX12_bakes_21 : decode cX12_bakes 21 = .ok (.return_, 1) := by decide +kernel
theorem dX12_endOf_0 : decode cX12_endOf 0 = .ok (.aload_n 0, 1) := by decide +kernel
theorem dX12_endOf_1 : decode cX12_endOf 1 = .ok (.getfield 71, 3) := by decide +kernel
theorem dX12_endOf_4 : decode cX12_endOf 4 = .ok (.bipush 41, 2) := by decide +kernel
theorem dX12_endOf_6 : decode cX12_endOf 6 = .ok (.iload_n 1, 1) := by decide +kernel
theorem dX12_endOf_7 : decode cX12_endOf 7 = .ok (.imul, 1) := by decide +kernel
theorem dX12_endOf_8 : decode cX12_endOf 8 = .ok (.aload_n 0, 1) := by decide +kernel
theorem dX12_endOf_9 : decode cX12_endOf 9 = .ok (.getfield 13, 3) := by decide +kernel
theorem dX12_endOf_12 : decode cX12_endOf 12 = .ok (.iadd, 1) := by decide +kernel
theorem dX12_endOf_13 : decode cX12_endOf 13 = .ok (.iaload, 1) := by decide +kernel
theorem dX12_endOf_14 : decode cX12_endOf 14 = .ok (.ireturn, 1) := by decide +kernel
theorem dX12_offBy_0 : decode cX12_offBy 0 = .ok (.iload_n 2, 1) := by decide +kernel
theorem dX12_offBy_1 : decode cX12_offBy 1 = .ok (.aload_n 0, 1) := by decide +kernel
theorem dX12_offBy_2 : decode cX12_offBy 2 = .ok (.getfield 23, 3) := by decide +kernel
theorem dX12_offBy_5 : decode cX12_offBy 5 = .ok (.iload_n 1, 1) := by decide +kernel
theorem dX12_offBy_6 : decode cX12_offBy 6 = .ok (.iaload, 1) := by decide +kernel
theorem dX12_offBy_7 : decode cX12_offBy 7 = .ok (.isub, 1) := by decide +kernel
theorem dX12_offBy_8 : decode cX12_offBy 8 = .ok (.istore_n 3, 1) := by decide +kernel
theorem dX12_offBy_9 : decode cX12_offBy 9 = .ok (.iload_n 3, 1) := by decide +kernel
theorem dX12_offBy_10 : decode cX12_offBy 10 = .ok (.ifCond .ge 8, 3) := by decide +kernel
theorem dX12_offBy_13 : decode cX12_offBy 13 = .ok (.iload_n 3, 1) := by decide +kernel
theorem dX12_offBy_14 : decode cX12_offBy 14 = .ok (.ineg, 1) := by decide +kernel
theorem dX12_offBy_15 : decode cX12_offBy 15 = .ok (.goto 4, 3) := by decide +kernel
theorem dX12_offBy_18 : decode cX12_offBy 18 = .ok (.iload_n 3, 1) := by decide +kernel
theorem dX12_offBy_19 : decode cX12_offBy 19 = .ok (.istore 4, 2) := by decide +kernel
theorem dX12_offBy_21 : decode cX12_offBy 21 = .ok (.aload_n 0, 1) := by decide +kernel
theorem dX12_offBy_22 : decode cX12_offBy 22 = .ok (.getfield 17, 3) := by decide +kernel
theorem dX12_offBy_25 : decode cX12_offBy 25 = .ok (.iload_n 1, 1) := by decide +kernel
theorem dX12_offBy_26 : decode cX12_offBy 26 = .ok (.iaload, 1) := by decide +kernel
theorem dX12_offBy_27 : decode cX12_offBy 27 = .ok (.iconst 4, 1) := by decide +kernel
theorem dX12_offBy_28 : decode cX12_offBy 28 = .ok (.if_icmp .ne 14, 3) := by decide +kernel
theorem dX12_offBy_31 : decode cX12_offBy 31 = .ok (.iload_n 3, 1) := by decide +kernel
theorem dX12_offBy_32 : decode cX12_offBy 32 = .ok (.ifCond .le 10, 3) := by decide +kernel
theorem dX12_offBy_35 : decode cX12_offBy 35 = .ok (.iconst 2, 1) := by decide +kernel
theorem dX12_offBy_36 : decode cX12_offBy 36 = .ok (.iload 4, 2) := by decide +kernel
theorem dX12_offBy_38 : decode cX12_offBy 38 = .ok (.imul, 1) := by decide +kernel
theorem dX12_offBy_39 : decode cX12_offBy 39 = .ok (.goto 23, 3) := by decide +kernel
theorem dX12_offBy_42 : decode cX12_offBy 42 = .ok (.aload_n 0, 1) := by decide +kernel
theorem dX12_offBy_43 : decode cX12_offBy 43 = .ok (.getfield 17, 3) := by decide +kernel
theorem dX12_offBy_46 : decode cX12_offBy 46 = .ok (.iload_n 1, 1) := by decide +kernel
theorem dX12_offBy_47 : decode cX12_offBy 47 = .ok (.iaload, 1) := by decide +kernel
theorem dX12_offBy_48 : decode cX12_offBy 48 = .ok (.iconst 5, 1) := by decide +kernel
theorem dX12_offBy_49 : decode cX12_offBy 49 = .ok (.if_icmp .ne 11, 3) := by decide +kernel
theorem dX12_offBy_52 : decode cX12_offBy 52 = .ok (.iload_n 3, 1) := by decide +kernel
theorem dX12_offBy_53 : decode cX12_offBy 53 = .ok (.ifCond .lt 7, 3) := by decide +kernel
theorem dX12_offBy_56 : decode cX12_offBy 56 = .ok (.iconst 0, 1) := by decide +kernel
theorem dX12_offBy_57 : decode cX12_offBy 57 = .ok (.goto 5, 3) := by decide +kernel
theorem dX12_offBy_60 : decode cX12_offBy 60 = .ok (.iload 4, 2) := by decide +kernel
theorem dX12_offBy_62 : decode cX12_offBy 62 = .ok (.ireturn, 1) := by decide +kernel
theorem dX12_badBy_0 : decode cX12_badBy 0 = .ok (.aload_n 0, 1) := by decide +kernel
theorem dX12_badBy_1 : decode cX12_badBy 1 = .ok (.iload_n 1, 1) := by decide +kernel
theorem dX12_badBy_2 : decode cX12_badBy 2 = .ok (.iload_n 2, 1) := by decide +kernel
theorem dX12_badBy_3 : decode cX12_badBy 3 = .ok (.invokevirtual 214, 3) := by decide +kernel
theorem dX12_badBy_6 : decode cX12_badBy 6 = .ok (.aload_n 0, 1) := by decide +kernel
theorem dX12_badBy_7 : decode cX12_badBy 7 = .ok (.iconst 2, 1) := by decide +kernel
theorem dX12_badBy_8 : decode cX12_badBy 8 = .ok (.iconst 0, 1) := by decide +kernel
theorem dX12_badBy_9 : decode cX12_badBy 9 = .ok (.iconst 0, 1) := by decide +kernel
theorem dX12_badBy_10 : decode cX12_badBy 10 = .ok (.iload_n 2, 1) := by decide +kernel
theorem dX12_badBy_11 : decode cX12_badBy 11 = .ok (.iload_n 1, 1) := by decide +kernel
theorem dX12_badBy_12 : decode cX12_badBy 12 = .ok (.iconst 0, 1) := by decide +kernel
theorem dX12_badBy_13 : decode cX12_badBy 13 = .ok (.invokevirtual 188, 3) := by decide +kernel
theorem dX12_badBy_16 : decode cX12_badBy 16 = .ok (.imul, 1) := by decide +kernel
theorem dX12_badBy_17 : decode cX12_badBy 17 = .ok (.ireturn, 1) := by decide +kernel
theorem dX12_badOfAll_0 : decode cX12_badOfAll 0 = .ok (.iconst 0, 1) := by decide +kernel
theorem dX12_badOfAll_1 : decode cX12_badOfAll 1 = .ok (.istore_n 1, 1) := by decide +kernel
theorem dX12_badOfAll_2 : decode cX12_badOfAll 2 = .ok (.iconst 0, 1) := by decide +kernel
theorem dX12_badOfAll_3 : decode cX12_badOfAll 3 = .ok (.istore_n 2, 1) := by decide +kernel
theorem dX12_badOfAll_4 : decode cX12_badOfAll 4 = .ok (.iload_n 2, 1) := by decide +kernel
theorem dX12_badOfAll_5 : decode cX12_badOfAll 5 = .ok (.aload_n 0, 1) := by decide +kernel
theorem dX12_badOfAll_6 : decode cX12_badOfAll 6 = .ok (.getfield 90, 3) := by decide +kernel
theorem dX12_badOfAll_9 : decode cX12_badOfAll 9 = .ok (.if_icmp .ge 22, 3) := by decide +kernel
theorem dX12_badOfAll_12 : decode cX12_badOfAll 12 = .ok (.iload_n 1, 1) := by decide +kernel
theorem dX12_badOfAll_13 : decode cX12_badOfAll 13 = .ok (.aload_n 0, 1) := by decide +kernel
theorem dX12_badOfAll_14 : decode cX12_badOfAll 14 = .ok (.iload_n 2, 1) := by decide +kernel
theorem dX12_badOfAll_15 : decode cX12_badOfAll 15 = .ok (.aload_n 0, 1) := by decide +kernel
theorem dX12_badOfAll_16 : decode cX12_badOfAll 16 = .ok (.iload_n 2, 1) := by decide +kernel
theorem dX12_badOfAll_17 : decode cX12_badOfAll 17 = .ok (.invokevirtual 217, 3) := by decide +kernel
theorem dX12_badOfAll_20 : decode cX12_badOfAll 20 = .ok (.invokevirtual 220, 3) := by decide +kernel
theorem dX12_badOfAll_23 : decode cX12_badOfAll 23 = .ok (.iadd, 1) := by decide +kernel
theorem dX12_badOfAll_24 : decode cX12_badOfAll 24 = .ok (.istore_n 1, 1) := by decide +kernel
theorem dX12_badOfAll_25 : decode cX12_badOfAll 25 = .ok (.iinc 2 1, 3) := by decide +kernel
theorem dX12_badOfAll_28 : decode cX12_badOfAll 28 = .ok (.goto (-24), 3) := by decide +kernel
theorem dX12_badOfAll_31 : decode cX12_badOfAll 31 = .ok (.iload_n 1, 1) := by decide +kernel
theorem dX12_badOfAll_32 : decode cX12_badOfAll 32 = .ok (.ireturn, 1) := by decide +kernel
theorem dX12_mostBrown_0 : decode cX12_mostBrown 0 = .ok (.iconst (-1), 1) := by decide +kernel
theorem dX12_mostBrown_1 : decode cX12_mostBrown 1 = .ok (.istore_n 1, 1) := by decide +kernel
theorem dX12_mostBrown_2 : decode cX12_mostBrown 2 = .ok (.iconst 0, 1) := by decide +kernel
theorem dX12_mostBrown_3 : decode cX12_mostBrown 3 = .ok (.istore_n 2, 1) := by decide +kernel
theorem dX12_mostBrown_4 : decode cX12_mostBrown 4 = .ok (.iload_n 2, 1) := by decide +kernel
theorem dX12_mostBrown_5 : decode cX12_mostBrown 5 = .ok (.aload_n 0, 1) := by decide +kernel
theorem dX12_mostBrown_6 : decode cX12_mostBrown 6 = .ok (.getfield 90, 3) := by decide +kernel
theorem dX12_mostBrown_9 : decode cX12_mostBrown 9 = .ok (.if_icmp .ge 39, 3) := by decide +kernel
theorem dX12_mostBrown_12 : decode cX12_mostBrown 12 = .ok (.iload_n 1, 1) := by decide +kernel
theorem dX12_mostBrown_13 : decode cX12_mostBrown 13 = .ok (.iconst (-1), 1) := by decide +kernel
theorem dX12_mostBrown_14 : decode cX12_mostBrown 14 = .ok (.if_icmp .eq 22, 3) := by decide +kernel
theorem dX12_mostBrown_17 : decode cX12_mostBrown 17 = .ok (.aload_n 0, 1) := by decide +kernel
theorem dX12_mostBrown_18 : decode cX12_mostBrown 18 = .ok (.iload_n 2, 1) := by decide +kernel
theorem dX12_mostBrown_19 : decode cX12_mostBrown 19 = .ok (.invokevirtual 217, 3) := by decide +kernel
theorem dX12_mostBrown_22 : decode cX12_mostBrown 22 = .ok (.aload_n 0, 1) := by decide +kernel
theorem dX12_mostBrown_23 : decode cX12_mostBrown 23 = .ok (.iload_n 1, 1) := by decide +kernel
theorem dX12_mostBrown_24 : decode cX12_mostBrown 24 = .ok (.iconst 0, 1) := by decide +kernel
theorem dX12_mostBrown_25 : decode cX12_mostBrown 25 = .ok (.bipush 7, 2) := by decide +kernel
theorem dX12_mostBrown_27 : decode cX12_mostBrown 27 = .ok (.invokestatic 182, 3) := by decide +kernel
theorem dX12_mostBrown_30 : decode cX12_mostBrown 30 = .ok (.invokevirtual 217, 3) := by decide +kernel
theorem dX12_mostBrown_33 : decode cX12_mostBrown 33 = .ok (.if_icmp .le 7, 3) := by decide +kernel
theorem dX12_mostBrown_36 : decode cX12_mostBrown 36 = .ok (.iload_n 2, 1) := by decide +kernel
theorem dX12_mostBrown_37 : decode cX12_mostBrown 37 = .ok (.goto 4, 3) := by decide +kernel
theorem dX12_mostBrown_40 : decode cX12_mostBrown 40 = .ok (.iload_n 1, 1) := by decide +kernel
theorem dX12_mostBrown_41 : decode cX12_mostBrown 41 = .ok (.istore_n 1, 1) := by decide +kernel
theorem dX12_mostBrown_42 : decode cX12_mostBrown 42 = .ok (.iinc 2 1, 3) := by decide +kernel
theorem dX12_mostBrown_45 : decode cX12_mostBrown 45 = .ok (.goto (-41), 3) := by decide +kernel
theorem dX12_mostBrown_48 : decode cX12_mostBrown 48 = .ok (.iload_n 1, 1) := by decide +kernel
theorem dX12_mostBrown_49 : decode cX12_mostBrown 49 = .ok (.ireturn, 1) := by decide +kernel
theorem dX12_leastBrown_0 : decode cX12_leastBrown 0 = .ok (.iconst (-1), 1) := by decide +kernel
theorem dX12_leastBrown_1 : decode cX12_leastBrown 1 = .ok (.istore_n 1, 1) := by decide +kernel
theorem dX12_leastBrown_2 : decode cX12_leastBrown 2 = .ok (.iconst 0, 1) := by decide +kernel
theorem dX12_leastBrown_3 : decode cX12_leastBrown 3 = .ok (.istore_n 2, 1) := by decide +kernel
theorem dX12_leastBrown_4 : decode cX12_leastBrown 4 = .ok (.iload_n 2, 1) := by decide +kernel
theorem dX12_leastBrown_5 : decode cX12_leastBrown 5 = .ok (.aload_n 0, 1) := by decide +kernel
theorem dX12_leastBrown_6 : decode cX12_leastBrown 6 = .ok (.getfield 90, 3) := by decide +kernel
theorem dX12_leastBrown_9 : decode cX12_leastBrown 9 = .ok (.if_icmp .ge 39, 3) := by decide +kernel
theorem dX12_leastBrown_12 : decode cX12_leastBrown 12 = .ok (.iload_n 1, 1) := by decide +kernel
theorem dX12_leastBrown_13 : decode cX12_leastBrown 13 = .ok (.iconst (-1), 1) := by decide +kernel
theorem dX12_leastBrown_14 : decode cX12_leastBrown 14 = .ok (.if_icmp .eq 22, 3) := by decide +kernel
theorem dX12_leastBrown_17 : decode cX12_leastBrown 17 = .ok (.aload_n 0, 1) := by decide +kernel
theorem dX12_leastBrown_18 : decode cX12_leastBrown 18 = .ok (.iload_n 2, 1) := by decide +kernel
theorem dX12_leastBrown_19 : decode cX12_leastBrown 19 = .ok (.invokevirtual 217, 3) := by decide +kernel
theorem dX12_leastBrown_22 : decode cX12_leastBrown 22 = .ok (.aload_n 0, 1) := by decide +kernel
theorem dX12_leastBrown_23 : decode cX12_leastBrown 23 = .ok (.iload_n 1, 1) := by decide +kernel
theorem dX12_leastBrown_24 : decode cX12_leastBrown 24 = .ok (.iconst 0, 1) := by decide +kernel
theorem dX12_leastBrown_25 : decode cX12_leastBrown 25 = .ok (.bipush 7, 2) := by decide +kernel
theorem dX12_leastBrown_27 : decode cX12_leastBrown 27 = .ok (.invokestatic 182, 3) := by decide +kernel
theorem dX12_leastBrown_30 : decode cX12_leastBrown 30 = .ok (.invokevirtual 217, 3) := by decide +kernel
theorem dX12_leastBrown_33 : decode cX12_leastBrown 33 = .ok (.if_icmp .ge 7, 3) := by decide +kernel
theorem dX12_leastBrown_36 : decode cX12_leastBrown 36 = .ok (.iload_n 2, 1) := by decide +kernel
theorem dX12_leastBrown_37 : decode cX12_leastBrown 37 = .ok (.goto 4, 3) := by decide +kernel
theorem dX12_leastBrown_40 : decode cX12_leastBrown 40 = .ok (.iload_n 1, 1) := by decide +kernel
theorem dX12_leastBrown_41 : decode cX12_leastBrown 41 = .ok (.istore_n 1, 1) := by decide +kernel
theorem dX12_leastBrown_42 : decode cX12_leastBrown 42 = .ok (.iinc 2 1, 3) := by decide +kernel
theorem dX12_leastBrown_45 : decode cX12_leastBrown 45 = .ok (.goto (-41), 3) := by decide +kernel
theorem dX12_leastBrown_48 : decode cX12_leastBrown 48 = .ok (.iload_n 1, 1) := by decide +kernel
theorem dX12_leastBrown_49 : decode cX12_leastBrown 49 = .ok (.ireturn, 1) := by decide +kernel
theorem dX12_apart_0 : decode cX12_apart 0 = .ok (.aload_n 0, 1) := by decide +kernel
theorem dX12_apart_1 : decode cX12_apart 1 = .ok (.getfield 90, 3) := by decide +kernel
theorem dX12_apart_4 : decode cX12_apart 4 = .ok (.ifCond .ne 7, 3) := by decide +kernel
theorem dX12_apart_7 : decode cX12_apart 7 = .ok (.iconst 0, 1) := by decide +kernel
theorem dX12_apart_8 : decode cX12_apart 8 = .ok (.goto 20, 3) := by decide +kernel
theorem dX12_apart_11 : decode cX12_apart 11 = .ok (.aload_n 0, 1) := by decide +kernel
theorem dX12_apart_12 : decode cX12_apart 12 = .ok (.aload_n 0, 1) := by decide +kernel
theorem dX12_apart_13 : decode cX12_apart 13 = .ok (.invokevirtual 223, 3) := by decide +kernel
theorem dX12_apart_16 : decode cX12_apart 16 = .ok (.invokevirtual 217, 3) := by decide +kernel
theorem dX12_apart_19 : decode cX12_apart 19 = .ok (.aload_n 0, 1) := by decide +kernel
theorem dX12_apart_20 : decode cX12_apart 20 = .ok (.aload_n 0, 1) := by decide +kernel
theorem dX12_apart_21 : decode cX12_apart 21 = .ok (.invokevirtual 226, 3) := by decide +kernel
theorem dX12_apart_24 : decode cX12_apart 24 = .ok (.invokevirtual 217, 3) := by decide +kernel
theorem dX12_apart_27 : decode cX12_apart 27 = .ok (.isub, 1) := by decide +kernel
theorem dX12_apart_28 : decode cX12_apart 28 = .ok (.ireturn, 1) := by decide +kernel
theorem dX12_badNow_0 : decode cX12_badNow 0 = .ok (.aload_n 0, 1) := by decide +kernel
theorem dX12_badNow_1 : decode cX12_badNow 1 = .ok (.invokevirtual 229, 3) := by decide +kernel
theorem dX12_badNow_4 : decode cX12_badNow 4 = .ok (.aload_n 0, 1) := by decide +kernel
theorem dX12_badNow_5 : decode cX12_badNow 5 = .ok (.invokevirtual 232, 3) := by decide +kernel
theorem dX12_badNow_8 : decode cX12_badNow 8 = .ok (.ireturn, 1) := by decide +kernel
theorem dX12_apartNow_0 : decode cX12_apartNow 0 = .ok (.aload_n 0, 1) := by decide +kernel
theorem dX12_apartNow_1 : decode cX12_apartNow 1 = .ok (.invokevirtual 229, 3) := by decide +kernel
theorem dX12_apartNow_4 : decode cX12_apartNow 4 = .ok (.aload_n 0, 1) := by decide +kernel
theorem dX12_apartNow_5 : decode cX12_apartNow 5 = .ok (.invokevirtual 235, 3) := by decide +kernel
theorem dX12_apartNow_8 : decode cX12_apartNow 8 = .ok (.ireturn, 1) := by decide +kernel
theorem dX12_at_0 : decode cX12_at 0 = .ok (.aload_n 0, 1) := by decide +kernel
theorem dX12_at_1 : decode cX12_at 1 = .ok (.iload_n 1, 1) := by decide +kernel
theorem dX12_at_2 : decode cX12_at 2 = .ok (.invokevirtual 185, 3) := by decide +kernel
theorem dX12_at_5 : decode cX12_at 5 = .ok (.ifCond .ne 6, 3) := by decide +kernel
theorem dX12_at_8 : decode cX12_at 8 = .ok (.bipush (-5), 2) := by decide +kernel
theorem dX12_at_10 : decode cX12_at 10 = .ok (.ireturn, 1) := by decide +kernel
theorem dX12_at_11 : decode cX12_at 11 = .ok (.iload_n 2, 1) := by decide +kernel
theorem dX12_at_12 : decode cX12_at 12 = .ok (.iconst 0, 1) := by decide +kernel
theorem dX12_at_13 : decode cX12_at 13 = .ok (.aload_n 0, 1) := by decide +kernel
theorem dX12_at_14 : decode cX12_at 14 = .ok (.getfield 13, 3) := by decide +kernel
theorem dX12_at_17 : decode cX12_at 17 = .ok (.invokestatic 93, 3) := by decide +kernel
theorem dX12_at_20 : decode cX12_at 20 = .ok (.ifCond .ne 6, 3) := by decide +kernel
theorem dX12_at_23 : decode cX12_at 23 = .ok (.bipush (-7), 2) := by decide +kernel
theorem dX12_at_25 : decode cX12_at 25 = .ok (.ireturn, 1) := by decide +kernel
theorem dX12_at_26 : decode cX12_at 26 = .ok (.aload_n 0, 1) := by decide +kernel
theorem dX12_at_27 : decode cX12_at 27 = .ok (.invokevirtual 229, 3) := by decide +kernel
theorem dX12_at_30 : decode cX12_at 30 = .ok (.aload_n 0, 1) := by decide +kernel
theorem dX12_at_31 : decode cX12_at 31 = .ok (.getfield 71, 3) := by decide +kernel
theorem dX12_at_34 : decode cX12_at 34 = .ok (.bipush 41, 2) := by decide +kernel
theorem dX12_at_36 : decode cX12_at 36 = .ok (.iload_n 1, 1) := by decide +kernel
theorem dX12_at_37 : decode cX12_at 37 = .ok (.imul, 1) := by decide +kernel
theorem dX12_at_38 : decode cX12_at 38 = .ok (.iload_n 2, 1) := by decide +kernel
theorem dX12_at_39 : decode cX12_at 39 = .ok (.iadd, 1) := by decide +kernel
theorem dX12_at_40 : decode cX12_at 40 = .ok (.iaload, 1) := by decide +kernel
theorem dX12_at_41 : decode cX12_at 41 = .ok (.ireturn, 1) := by decide +kernel
theorem dX12_exact_0 : decode cX12_exact 0 = .ok (.iconst 0, 1) := by decide +kernel
theorem dX12_exact_1 : decode cX12_exact 1 = .ok (.istore_n 1, 1) := by decide +kernel
theorem dX12_exact_2 : decode cX12_exact 2 = .ok (.iconst 0, 1) := by decide +kernel
theorem dX12_exact_3 : decode cX12_exact 3 = .ok (.istore_n 2, 1) := by decide +kernel
theorem dX12_exact_4 : decode cX12_exact 4 = .ok (.iload_n 2, 1) := by decide +kernel
theorem dX12_exact_5 : decode cX12_exact 5 = .ok (.aload_n 0, 1) := by decide +kernel
theorem dX12_exact_6 : decode cX12_exact 6 = .ok (.getfield 90, 3) := by decide +kernel
theorem dX12_exact_9 : decode cX12_exact 9 = .ok (.if_icmp .ge 30, 3) := by decide +kernel
theorem dX12_exact_12 : decode cX12_exact 12 = .ok (.iload_n 1, 1) := by decide +kernel
theorem dX12_exact_13 : decode cX12_exact 13 = .ok (.aload_n 0, 1) := by decide +kernel
theorem dX12_exact_14 : decode cX12_exact 14 = .ok (.iload_n 2, 1) := by decide +kernel
theorem dX12_exact_15 : decode cX12_exact 15 = .ok (.aload_n 0, 1) := by decide +kernel
theorem dX12_exact_16 : decode cX12_exact 16 = .ok (.iload_n 2, 1) := by decide +kernel
theorem dX12_exact_17 : decode cX12_exact 17 = .ok (.invokevirtual 217, 3) := by decide +kernel
theorem dX12_exact_20 : decode cX12_exact 20 = .ok (.invokevirtual 214, 3) := by decide +kernel
theorem dX12_exact_23 : decode cX12_exact 23 = .ok (.ifCond .ne 7, 3) := by decide +kernel
theorem dX12_exact_26 : decode cX12_exact 26 = .ok (.iconst 1, 1) := by decide +kernel
theorem dX12_exact_27 : decode cX12_exact 27 = .ok (.goto 4, 3) := by decide +kernel
theorem dX12_exact_30 : decode cX12_exact 30 = .ok (.iconst 0, 1) := by decide +kernel
theorem dX12_exact_31 : decode cX12_exact 31 = .ok (.iadd, 1) := by decide +kernel
theorem dX12_exact_32 : decode cX12_exact 32 = .ok (.istore_n 1, 1) := by decide +kernel
theorem dX12_exact_33 : decode cX12_exact 33 = .ok (.iinc 2 1, 3) := by decide +kernel
theorem dX12_exact_36 : decode cX12_exact 36 = .ok (.goto (-32), 3) := by decide +kernel
theorem dX12_exact_39 : decode cX12_exact 39 = .ok (.iload_n 1, 1) := by decide +kernel
theorem dX12_exact_40 : decode cX12_exact 40 = .ok (.ireturn, 1) := by decide +kernel
theorem dX12_end_0 : decode cX12_end 0 = .ok (.iload_n 1, 1) := by decide +kernel
theorem dX12_end_1 : decode cX12_end 1 = .ok (.iconst 0, 1) := by decide +kernel
theorem dX12_end_2 : decode cX12_end 2 = .ok (.iconst 4, 1) := by decide +kernel
theorem dX12_end_3 : decode cX12_end 3 = .ok (.invokestatic 93, 3) := by decide +kernel
theorem dX12_end_6 : decode cX12_end 6 = .ok (.ifCond .ne 6, 3) := by decide +kernel
theorem dX12_end_9 : decode cX12_end 9 = .ok (.bipush (-2), 2) := by decide +kernel
theorem dX12_end_11 : decode cX12_end 11 = .ok (.ireturn, 1) := by decide +kernel
theorem dX12_end_12 : decode cX12_end 12 = .ok (.aload_n 0, 1) := by decide +kernel
theorem dX12_end_13 : decode cX12_end 13 = .ok (.invokevirtual 229, 3) := by decide +kernel
theorem dX12_end_16 : decode cX12_end 16 = .ok (.iload_n 1, 1) := by decide +kernel
theorem dX12_end_17 : decode cX12_end 17 = .ok (.ifCond .ne 10, 3) := by decide +kernel
theorem dX12_end_20 : decode cX12_end 20 = .ok (.aload_n 0, 1) := by decide +kernel
theorem dX12_end_21 : decode cX12_end 21 = .ok (.invokevirtual 232, 3) := by decide +kernel
theorem dX12_end_24 : decode cX12_end 24 = .ok (.goto 43, 3) := by decide +kernel
theorem dX12_end_27 : decode cX12_end 27 = .ok (.iload_n 1, 1) := by decide +kernel
theorem dX12_end_28 : decode cX12_end 28 = .ok (.iconst 1, 1) := by decide +kernel
theorem dX12_end_29 : decode cX12_end 29 = .ok (.if_icmp .ne 10, 3) := by decide +kernel
theorem dX12_end_32 : decode cX12_end 32 = .ok (.aload_n 0, 1) := by decide +kernel
theorem dX12_end_33 : decode cX12_end 33 = .ok (.invokevirtual 235, 3) := by decide +kernel
theorem dX12_end_36 : decode cX12_end 36 = .ok (.goto 31, 3) := by decide +kernel
theorem dX12_end_39 : decode cX12_end 39 = .ok (.iload_n 1, 1) := by decide +kernel
theorem dX12_end_40 : decode cX12_end 40 = .ok (.iconst 2, 1) := by decide +kernel
theorem dX12_end_41 : decode cX12_end 41 = .ok (.if_icmp .ne 10, 3) := by decide +kernel
theorem dX12_end_44 : decode cX12_end 44 = .ok (.aload_n 0, 1) := by decide +kernel
theorem dX12_end_45 : decode cX12_end 45 = .ok (.invokevirtual 223, 3) := by decide +kernel
theorem dX12_end_48 : decode cX12_end 48 = .ok (.goto 19, 3) := by decide +kernel
theorem dX12_end_51 : decode cX12_end 51 = .ok (.iload_n 1, 1) := by decide +kernel
theorem dX12_end_52 : decode cX12_end 52 = .ok (.iconst 3, 1) := by decide +kernel
theorem dX12_end_53 : decode cX12_end 53 = .ok (.if_icmp .ne 10, 3) := by decide +kernel
theorem dX12_end_56 : decode cX12_end 56 = .ok (.aload_n 0, 1) := by decide +kernel
theorem dX12_end_57 : decode cX12_end 57 = .ok (.invokevirtual 226, 3) := by decide +kernel
theorem dX12_end_60 : decode cX12_end 60 = .ok (.goto 7, 3) := by decide +kernel
theorem dX12_end_63 : decode cX12_end 63 = .ok (.aload_n 0, 1) := by decide +kernel
theorem dX12_end_64 : decode cX12_end 64 = .ok (.invokevirtual 238, 3) := by decide +kernel
theorem dX12_end_67 : decode cX12_end 67 = .ok (.ireturn, 1) := by decide +kernel
theorem dX12_off_0 : decode cX12_off 0 = .ok (.aload_n 0, 1) := by decide +kernel
theorem dX12_off_1 : decode cX12_off 1 = .ok (.iload_n 1, 1) := by decide +kernel
theorem dX12_off_2 : decode cX12_off 2 = .ok (.invokevirtual 185, 3) := by decide +kernel
theorem dX12_off_5 : decode cX12_off 5 = .ok (.ifCond .ne 6, 3) := by decide +kernel
theorem dX12_off_8 : decode cX12_off 8 = .ok (.bipush (-5), 2) := by decide +kernel
theorem dX12_off_10 : decode cX12_off 10 = .ok (.ireturn, 1) := by decide +kernel
theorem dX12_off_11 : decode cX12_off 11 = .ok (.iload_n 2, 1) := by decide +kernel
theorem dX12_off_12 : decode cX12_off 12 = .ok (.iconst 0, 1) := by decide +kernel
theorem dX12_off_13 : decode cX12_off 13 = .ok (.iconst 1, 1) := by decide +kernel
theorem dX12_off_14 : decode cX12_off 14 = .ok (.invokestatic 93, 3) := by decide +kernel
theorem dX12_off_17 : decode cX12_off 17 = .ok (.ifCond .ne 6, 3) := by decide +kernel
theorem dX12_off_20 : decode cX12_off 20 = .ok (.bipush (-7), 2) := by decide +kernel
theorem dX12_off_22 : decode cX12_off 22 = .ok (.ireturn, 1) := by decide +kernel
theorem dX12_off_23 : decode cX12_off 23 = .ok (.aload_n 0, 1) := by decide +kernel
theorem dX12_off_24 : decode cX12_off 24 = .ok (.invokevirtual 229, 3) := by decide +kernel
theorem dX12_off_27 : decode cX12_off 27 = .ok (.iload_n 2, 1) := by decide +kernel
theorem dX12_off_28 : decode cX12_off 28 = .ok (.ifCond .ne 16, 3) := by decide +kernel
theorem dX12_off_31 : decode cX12_off 31 = .ok (.aload_n 0, 1) := by decide +kernel
theorem dX12_off_32 : decode cX12_off 32 = .ok (.iload_n 1, 1) := by decide +kernel
theorem dX12_off_33 : decode cX12_off 33 = .ok (.aload_n 0, 1) := by decide +kernel
theorem dX12_off_34 : decode cX12_off 34 = .ok (.iload_n 1, 1) := by decide +kernel
theorem dX12_off_35 : decode cX12_off 35 = .ok (.invokevirtual 217, 3) := by decide +kernel
theorem dX12_off_38 : decode cX12_off 38 = .ok (.invokevirtual 214, 3) := by decide +kernel
theorem dX12_off_41 : decode cX12_off 41 = .ok (.goto 13, 3) := by decide +kernel
theorem dX12_off_44 : decode cX12_off 44 = .ok (.aload_n 0, 1) := by decide +kernel
theorem dX12_off_45 : decode cX12_off 45 = .ok (.iload_n 1, 1) := by decide +kernel
theorem dX12_off_46 : decode cX12_off 46 = .ok (.aload_n 0, 1) := by decide +kernel
theorem dX12_off_47 : decode cX12_off 47 = .ok (.iload_n 1, 1) := by decide +kernel
theorem dX12_off_48 : decode cX12_off 48 = .ok (.invokevirtual 217, 3) := by decide +kernel
theorem dX12_off_51 : decode cX12_off 51 = .ok (.invokevirtual 220, 3) := by decide +kernel
theorem dX12_off_54 : decode cX12_off 54 = .ok (.ireturn, 1) := by decide +kernel
theorem dX12_keepsPlan_0 : decode cX12_keepsPlan 0 = .ok (.aload_n 0, 1) := by decide +kernel
theorem dX12_keepsPlan_1 : decode cX12_keepsPlan 1 = .ok (.aload_n 0, 1) := by decide +kernel
theorem dX12_keepsPlan_2 : decode cX12_keepsPlan 2 = .ok (.getfield 100, 3) := by decide +kernel
theorem dX12_keepsPlan_5 : decode cX12_keepsPlan 5 = .ok (.putfield 241, 3) := by decide +kernel
theorem dX12_keepsPlan_8 : decode cX12_keepsPlan 8 = .ok (.iconst 0, 1) := by decide +kernel
theorem dX12_keepsPlan_9 : decode cX12_keepsPlan 9 = .ok (.istore_n 1, 1) := by decide +kernel
theorem dX12_keepsPlan_10 : decode cX12_keepsPlan 10 = .ok (.iload_n 1, 1) := by decide +kernel
theorem dX12_keepsPlan_11 : decode cX12_keepsPlan 11 = .ok (.bipush 6, 2) := by decide +kernel
theorem dX12_keepsPlan_13 : decode cX12_keepsPlan 13 = .ok (.if_icmp .ge 33, 3) := by decide +kernel
theorem dX12_keepsPlan_16 : decode cX12_keepsPlan 16 = .ok (.aload_n 0, 1) := by decide +kernel
theorem dX12_keepsPlan_17 : decode cX12_keepsPlan 17 = .ok (.getfield 74, 3) := by decide +kernel
theorem dX12_keepsPlan_20 : decode cX12_keepsPlan 20 = .ok (.iload_n 1, 1) := by decide +kernel
theorem dX12_keepsPlan_21 : decode cX12_keepsPlan 21 = .ok (.aload_n 0, 1) := by decide +kernel
theorem dX12_keepsPlan_22 : decode cX12_keepsPlan 22 = .ok (.getfield 29, 3) := by decide +kernel
theorem dX12_keepsPlan_25 : decode cX12_keepsPlan 25 = .ok (.iload_n 1, 1) := by decide +kernel
theorem dX12_keepsPlan_26 : decode cX12_keepsPlan 26 = .ok (.iaload, 1) := by decide +kernel
theorem dX12_keepsPlan_27 : decode cX12_keepsPlan 27 = .ok (.iastore, 1) := by decide +kernel
theorem dX12_keepsPlan_28 : decode cX12_keepsPlan 28 = .ok (.aload_n 0, 1) := by decide +kernel
theorem dX12_keepsPlan_29 : decode cX12_keepsPlan 29 = .ok (.getfield 77, 3) := by decide +kernel
theorem dX12_keepsPlan_32 : decode cX12_keepsPlan 32 = .ok (.iload_n 1, 1) := by decide +kernel
theorem dX12_keepsPlan_33 : decode cX12_keepsPlan 33 = .ok (.aload_n 0, 1) := by decide +kernel
theorem dX12_keepsPlan_34 : decode cX12_keepsPlan 34 = .ok (.getfield 32, 3) := by decide +kernel
theorem dX12_keepsPlan_37 : decode cX12_keepsPlan 37 = .ok (.iload_n 1, 1) := by decide +kernel
theorem dX12_keepsPlan_38 : decode cX12_keepsPlan 38 = .ok (.iaload, 1) := by decide +kernel
theorem dX12_keepsPlan_39 : decode cX12_keepsPlan 39 = .ok (.iastore, 1) := by decide +kernel
theorem dX12_keepsPlan_40 : decode cX12_keepsPlan 40 = .ok (.iinc 1 1, 3) := by decide +kernel
theorem dX12_keepsPlan_43 : decode cX12_keepsPlan 43 = .ok (.goto (-33), 3) := by decide +kernel
theorem dX12_keepsPlan_46 : decode cX12_keepsPlan 46 = .ok (.return_, 1) := by decide +kernel
theorem dX12_laysPlan_0 : decode cX12_laysPlan 0 = .ok (.aload_n 0, 1) := by decide +kernel
theorem dX12_laysPlan_1 : decode cX12_laysPlan 1 = .ok (.aload_n 0, 1) := by decide +kernel
theorem dX12_laysPlan_2 : decode cX12_laysPlan 2 = .ok (.getfield 241, 3) := by decide +kernel
theorem dX12_laysPlan_5 : decode cX12_laysPlan 5 = .ok (.putfield 100, 3) := by decide +kernel
theorem dX12_laysPlan_8 : decode cX12_laysPlan 8 = .ok (.iconst 0, 1) := by decide +kernel
theorem dX12_laysPlan_9 : decode cX12_laysPlan 9 = .ok (.istore_n 1, 1) := by decide +kernel
theorem dX12_laysPlan_10 : decode cX12_laysPlan 10 = .ok (.iload_n 1, 1) := by decide +kernel
theorem dX12_laysPlan_11 : decode cX12_laysPlan 11 = .ok (.bipush 6, 2) := by decide +kernel
theorem dX12_laysPlan_13 : decode cX12_laysPlan 13 = .ok (.if_icmp .ge 33, 3) := by decide +kernel
theorem dX12_laysPlan_16 : decode cX12_laysPlan 16 = .ok (.aload_n 0, 1) := by decide +kernel
theorem dX12_laysPlan_17 : decode cX12_laysPlan 17 = .ok (.getfield 29, 3) := by decide +kernel
theorem dX12_laysPlan_20 : decode cX12_laysPlan 20 = .ok (.iload_n 1, 1) := by decide +kernel
theorem dX12_laysPlan_21 : decode cX12_laysPlan 21 = .ok (.aload_n 0, 1) := by decide +kernel
theorem dX12_laysPlan_22 : decode cX12_laysPlan 22 = .ok (.getfield 74, 3) := by decide +kernel
theorem dX12_laysPlan_25 : decode cX12_laysPlan 25 = .ok (.iload_n 1, 1) := by decide +kernel
theorem dX12_laysPlan_26 : decode cX12_laysPlan 26 = .ok (.iaload, 1) := by decide +kernel
theorem dX12_laysPlan_27 : decode cX12_laysPlan 27 = .ok (.iastore, 1) := by decide +kernel
theorem dX12_laysPlan_28 : decode cX12_laysPlan 28 = .ok (.aload_n 0, 1) := by decide +kernel
theorem dX12_laysPlan_29 : decode cX12_laysPlan 29 = .ok (.getfield 32, 3) := by decide +kernel
theorem dX12_laysPlan_32 : decode cX12_laysPlan 32 = .ok (.iload_n 1, 1) := by decide +kernel
theorem dX12_laysPlan_33 : decode cX12_laysPlan 33 = .ok (.aload_n 0, 1) := by decide +kernel
theorem dX12_laysPlan_34 : decode cX12_laysPlan 34 = .ok (.getfield 77, 3) := by decide +kernel
theorem dX12_laysPlan_37 : decode cX12_laysPlan 37 = .ok (.iload_n 1, 1) := by decide +kernel
theorem dX12_laysPlan_38 : decode cX12_laysPlan 38 = .ok (.iaload, 1) := by decide +kernel
theorem dX12_laysPlan_39 : decode cX12_laysPlan 39 = .ok (.iastore, 1) := by decide +kernel
theorem dX12_laysPlan_40 : decode cX12_laysPlan 40 = .ok (.iinc 1 1, 3) := by decide +kernel
theorem dX12_laysPlan_43 : decode cX12_laysPlan 43 = .ok (.goto (-33), 3) := by decide +kernel
theorem dX12_laysPlan_46 : decode cX12_laysPlan 46 = .ok (.return_, 1) := by decide +kernel
theorem dX12_plans_0 : decode cX12_plans 0 = .ok (.aload_n 0, 1) := by decide +kernel
theorem dX12_plans_1 : decode cX12_plans 1 = .ok (.getfield 29, 3) := by decide +kernel
theorem dX12_plans_4 : decode cX12_plans 4 = .ok (.iload_n 1, 1) := by decide +kernel
theorem dX12_plans_5 : decode cX12_plans 5 = .ok (.iload_n 2, 1) := by decide +kernel
theorem dX12_plans_6 : decode cX12_plans 6 = .ok (.iastore, 1) := by decide +kernel
theorem dX12_plans_7 : decode cX12_plans 7 = .ok (.aload_n 0, 1) := by decide +kernel
theorem dX12_plans_8 : decode cX12_plans 8 = .ok (.getfield 32, 3) := by decide +kernel
theorem dX12_plans_11 : decode cX12_plans 11 = .ok (.iload_n 1, 1) := by decide +kernel
theorem dX12_plans_12 : decode cX12_plans 12 = .ok (.iload_n 3, 1) := by decide +kernel
theorem dX12_plans_13 : decode cX12_plans 13 = .ok (.iastore, 1) := by decide +kernel
theorem dX12_plans_14 : decode cX12_plans 14 = .ok (.aload_n 0, 1) := by decide +kernel
theorem dX12_plans_15 : decode cX12_plans 15 = .ok (.iload_n 1, 1) := by decide +kernel
theorem dX12_plans_16 : decode cX12_plans 16 = .ok (.iconst 1, 1) := by decide +kernel
theorem dX12_plans_17 : decode cX12_plans 17 = .ok (.iadd, 1) := by decide +kernel
theorem dX12_plans_18 : decode cX12_plans 18 = .ok (.putfield 100, 3) := by decide +kernel
theorem dX12_plans_21 : decode cX12_plans 21 = .ok (.return_, 1) := by decide +kernel
theorem dX12_when_0 : decode cX12_when 0 = .ok (.iload_n 1, 1) := by decide +kernel
theorem dX12_when_1 : decode cX12_when 1 = .ok (.iconst 0, 1) := by decide +kernel
theorem dX12_when_2 : decode cX12_when 2 = .ok (.iconst 1, 1) := by decide +kernel
theorem dX12_when_3 : decode cX12_when 3 = .ok (.invokestatic 93, 3) := by decide +kernel
theorem dX12_when_6 : decode cX12_when 6 = .ok (.ifCond .eq 12, 3) := by decide +kernel
theorem dX12_when_9 : decode cX12_when 9 = .ok (.iload_n 2, 1) := by decide +kernel
theorem dX12_when_10 : decode cX12_when 10 = .ok (.iconst 0, 1) := by decide +kernel
theorem dX12_when_11 : decode cX12_when 11 = .ok (.iconst 1, 1) := by decide +kernel
theorem dX12_when_12 : decode cX12_when 12 = .ok (.invokestatic 93, 3) := by decide +kernel
theorem dX12_when_15 : decode cX12_when 15 = .ok (.ifCond .ne 6, 3) := by decide +kernel
theorem dX12_when_18 : decode cX12_when 18 = .ok (.bipush (-2), 2) := by decide +kernel
theorem dX12_when_20 : decode cX12_when 20 = .ok (.ireturn, 1) := by decide +kernel
theorem dX12_when_21 : decode cX12_when 21 = .ok (.iconst (-1), 1) := by decide +kernel
theorem dX12_when_22 : decode cX12_when 22 = .ok (.istore_n 3, 1) := by decide +kernel
theorem dX12_when_23 : decode cX12_when 23 = .ok (.iconst 0, 1) := by decide +kernel
theorem dX12_when_24 : decode cX12_when 24 = .ok (.istore 4, 2) := by decide +kernel
theorem dX12_when_26 : decode cX12_when 26 = .ok (.aload_n 0, 1) := by decide +kernel
theorem dX12_when_27 : decode cX12_when 27 = .ok (.invokevirtual 244, 3) := by decide +kernel
theorem dX12_when_30 : decode cX12_when 30 = .ok (.iconst 0, 1) := by decide +kernel
theorem dX12_when_31 : decode cX12_when 31 = .ok (.istore 5, 2) := by decide +kernel
theorem dX12_when_33 : decode cX12_when 33 = .ok (.iload 5, 2) := by decide +kernel
theorem dX12_when_35 : decode cX12_when 35 = .ok (.iconst 4, 1) := by decide +kernel
theorem dX12_when_36 : decode cX12_when 36 = .ok (.aload_n 0, 1) := by decide +kernel
theorem dX12_when_37 : decode cX12_when 37 = .ok (.getfield 13, 3) := by decide +kernel
theorem dX12_when_40 : decode cX12_when 40 = .ok (.imul, 1) := by decide +kernel
theorem dX12_when_41 : decode cX12_when 41 = .ok (.if_icmp .ge 94, 3) := by decide +kernel
theorem dX12_when_44 : decode cX12_when 44 = .ok (.aload_n 0, 1) := by decide +kernel
theorem dX12_when_45 : decode cX12_when 45 = .ok (.iconst 0, 1) := by decide +kernel
theorem dX12_when_46 : decode cX12_when 46 = .ok (.iload 5, 2) := by decide +kernel
theorem dX12_when_48 : decode cX12_when 48 = .ok (.iconst 4, 1) := by decide +kernel
theorem dX12_when_49 : decode cX12_when 49 = .ok (.idiv, 1) := by decide +kernel
theorem dX12_when_50 : decode cX12_when 50 = .ok (.iload 5, 2) := by decide +kernel
theorem dX12_when_52 : decode cX12_when 52 = .ok (.iconst 4, 1) := by decide +kernel
theorem dX12_when_53 : decode cX12_when 53 = .ok (.irem, 1) := by decide +kernel
theorem dX12_when_54 : decode cX12_when 54 = .ok (.invokevirtual 247, 3) := by decide +kernel
theorem dX12_when_57 : decode cX12_when 57 = .ok (.iload_n 1, 1) := by decide +kernel
theorem dX12_when_58 : decode cX12_when 58 = .ok (.ifCond .ne 10, 3) := by decide +kernel
theorem dX12_when_61 : decode cX12_when 61 = .ok (.aload_n 0, 1) := by decide +kernel
theorem dX12_when_62 : decode cX12_when 62 = .ok (.invokevirtual 251, 3) := by decide +kernel
theorem dX12_when_65 : decode cX12_when 65 = .ok (.goto 7, 3) := by decide +kernel
theorem dX12_when_68 : decode cX12_when 68 = .ok (.aload_n 0, 1) := by decide +kernel
theorem dX12_when_69 : decode cX12_when 69 = .ok (.invokevirtual 254, 3) := by decide +kernel
theorem dX12_when_72 : decode cX12_when 72 = .ok (.istore 6, 2) := by decide +kernel
theorem dX12_when_74 : decode cX12_when 74 = .ok (.iload_n 3, 1) := by decide +kernel
theorem dX12_when_75 : decode cX12_when 75 = .ok (.iconst (-1), 1) := by decide +kernel
theorem dX12_when_76 : decode cX12_when 76 = .ok (.if_icmp .eq 10, 3) := by decide +kernel
theorem dX12_when_79 : decode cX12_when 79 = .ok (.iload 6, 2) := by decide +kernel
theorem dX12_when_81 : decode cX12_when 81 = .ok (.iload 4, 2) := by decide +kernel
theorem dX12_when_83 : decode cX12_when 83 = .ok (.if_icmp .ge 7, 3) := by decide +kernel
theorem dX12_when_86 : decode cX12_when 86 = .ok (.iconst 1, 1) := by decide +kernel
theorem dX12_when_87 : decode cX12_when 87 = .ok (.goto 4, 3) := by decide +kernel
theorem dX12_when_90 : decode cX12_when 90 = .ok (.iconst 0, 1) := by decide +kernel
theorem dX12_when_91 : decode cX12_when 91 = .ok (.istore 7, 2) := by decide +kernel
theorem dX12_when_93 : decode cX12_when 93 = .ok (.iload 7, 2) := by decide +kernel
theorem dX12_when_95 : decode cX12_when 95 = .ok (.ifCond .eq 18, 3) := by decide +kernel
theorem dX12_when_98 : decode cX12_when 98 = .ok (.bipush 100, 2) := by decide +kernel
theorem dX12_when_100 : decode cX12_when 100 = .ok (.iload 5, 2) := by decide +kernel
theorem dX12_when_102 : decode cX12_when 102 = .ok (.iconst 4, 1) := by decide +kernel
theorem dX12_when_103 : decode cX12_when 103 = .ok (.idiv, 1) := by decide +kernel
theorem dX12_when_104 : decode cX12_when 104 = .ok (.imul, 1) := by decide +kernel
theorem dX12_when_105 : decode cX12_when 105 = .ok (.iload 5, 2) := by decide +kernel
theorem dX12_when_107 : decode cX12_when 107 = .ok (.iconst 4, 1) := by decide +kernel
theorem dX12_when_108 : decode cX12_when 108 = .ok (.irem, 1) := by decide +kernel
theorem dX12_when_109 : decode cX12_when 109 = .ok (.iadd, 1) := by decide +kernel
theorem dX12_when_110 : decode cX12_when 110 = .ok (.goto 4, 3) := by decide +kernel
theorem dX12_when_113 : decode cX12_when 113 = .ok (.iload_n 3, 1) := by decide +kernel
theorem dX12_when_114 : decode cX12_when 114 = .ok (.istore_n 3, 1) := by decide +kernel
theorem dX12_when_115 : decode cX12_when 115 = .ok (.iload 7, 2) := by decide +kernel
theorem dX12_when_117 : decode cX12_when 117 = .ok (.ifCond .eq 8, 3) := by decide +kernel
theorem dX12_when_120 : decode cX12_when 120 = .ok (.iload 6, 2) := by decide +kernel
theorem dX12_when_122 : decode cX12_when 122 = .ok (.goto 5, 3) := by decide +kernel
theorem dX12_when_125 : decode cX12_when 125 = .ok (.iload 4, 2) := by decide +kernel
theorem dX12_when_127 : decode cX12_when 127 = .ok (.istore 4, 2) := by decide +kernel
theorem dX12_when_129 : decode cX12_when 129 = .ok (.iinc 5 1, 3) := by decide +kernel
theorem dX12_when_132 : decode cX12_when 132 = .ok (.goto (-99), 3) := by decide +kernel
theorem dX12_when_135 : decode cX12_when 135 = .ok (.aload_n 0, 1) := by decide +kernel
theorem dX12_when_136 : decode cX12_when 136 = .ok (.invokevirtual 257, 3) := by decide +kernel
theorem dX12_when_139 : decode cX12_when 139 = .ok (.iload_n 2, 1) := by decide +kernel
theorem dX12_when_140 : decode cX12_when 140 = .ok (.ifCond .ne 7, 3) := by decide +kernel
theorem dX12_when_143 : decode cX12_when 143 = .ok (.iload_n 3, 1) := by decide +kernel
theorem dX12_when_144 : decode cX12_when 144 = .ok (.goto 5, 3) := by decide +kernel
theorem dX12_when_147 : decode cX12_when 147 = .ok (.iload 4, 2) := by decide +kernel
theorem dX12_when_149 : decode cX12_when 149 = .ok (.ireturn, 1) := by decide +kernel
theorem dX12_twice_0 : decode cX12_twice 0 = .ok (.iload_n 1, 1) := by decide +kernel
theorem dX12_twice_1 : decode cX12_twice 1 = .ok (.iconst 0, 1) := by decide +kernel
theorem dX12_twice_2 : decode cX12_twice 2 = .ok (.iconst 1, 1) := by decide +kernel
theorem dX12_twice_3 : decode cX12_twice 3 = .ok (.invokestatic 93, 3) := by decide +kernel
theorem dX12_twice_6 : decode cX12_twice 6 = .ok (.ifCond .ne 6, 3) := by decide +kernel
theorem dX12_twice_9 : decode cX12_twice 9 = .ok (.bipush (-2), 2) := by decide +kernel
theorem dX12_twice_11 : decode cX12_twice 11 = .ok (.ireturn, 1) := by decide +kernel
theorem dX12_twice_12 : decode cX12_twice 12 = .ok (.iconst (-1), 1) := by decide +kernel
theorem dX12_twice_13 : decode cX12_twice 13 = .ok (.istore_n 2, 1) := by decide +kernel
theorem dX12_twice_14 : decode cX12_twice 14 = .ok (.iconst (-1), 1) := by decide +kernel
theorem dX12_twice_15 : decode cX12_twice 15 = .ok (.istore_n 3, 1) := by decide +kernel
theorem dX12_twice_16 : decode cX12_twice 16 = .ok (.aload_n 0, 1) := by decide +kernel
theorem dX12_twice_17 : decode cX12_twice 17 = .ok (.invokevirtual 244, 3) := by decide +kernel
theorem dX12_twice_20 : decode cX12_twice 20 = .ok (.iconst 0, 1) := by decide +kernel
theorem dX12_twice_21 : decode cX12_twice 21 = .ok (.istore 4, 2) := by decide +kernel
theorem dX12_twice_23 : decode cX12_twice 23 = .ok (.iload 4, 2) := by decide +kernel
theorem dX12_twice_25 : decode cX12_twice 25 = .ok (.aload_n 0, 1) := by decide +kernel
theorem dX12_twice_26 : decode cX12_twice 26 = .ok (.getfield 13, 3) := by decide +kernel
theorem dX12_twice_29 : decode cX12_twice 29 = .ok (.if_icmp .ge 100, 3) := by decide +kernel
theorem dX12_twice_32 : decode cX12_twice 32 = .ok (.iload 4, 2) := by decide +kernel
theorem dX12_twice_34 : decode cX12_twice 34 = .ok (.iconst 1, 1) := by decide +kernel
theorem dX12_twice_35 : decode cX12_twice 35 = .ok (.iadd, 1) := by decide +kernel
theorem dX12_twice_36 : decode cX12_twice 36 = .ok (.istore 5, 2) := by decide +kernel
theorem dX12_twice_38 : decode cX12_twice 38 = .ok (.iload 5, 2) := by decide +kernel
theorem dX12_twice_40 : decode cX12_twice 40 = .ok (.aload_n 0, 1) := by decide +kernel
theorem dX12_twice_41 : decode cX12_twice 41 = .ok (.getfield 13, 3) := by decide +kernel
theorem dX12_twice_44 : decode cX12_twice 44 = .ok (.if_icmp .ge 79, 3) := by decide +kernel
theorem dX12_twice_47 : decode cX12_twice 47 = .ok (.aload_n 0, 1) := by decide +kernel
theorem dX12_twice_48 : decode cX12_twice 48 = .ok (.iconst 0, 1) := by decide +kernel
theorem dX12_twice_49 : decode cX12_twice 49 = .ok (.iload 4, 2) := by decide +kernel
theorem dX12_twice_51 : decode cX12_twice 51 = .ok (.iconst 2, 1) := by decide +kernel
theorem dX12_twice_52 : decode cX12_twice 52 = .ok (.invokevirtual 247, 3) := by decide +kernel
theorem dX12_twice_55 : decode cX12_twice 55 = .ok (.aload_n 0, 1) := by decide +kernel
theorem dX12_twice_56 : decode cX12_twice 56 = .ok (.iconst 1, 1) := by decide +kernel
theorem dX12_twice_57 : decode cX12_twice 57 = .ok (.iload 5, 2) := by decide +kernel
theorem dX12_twice_59 : decode cX12_twice 59 = .ok (.iconst 2, 1) := by decide +kernel
theorem dX12_twice_60 : decode cX12_twice 60 = .ok (.invokevirtual 247, 3) := by decide +kernel
theorem dX12_twice_63 : decode cX12_twice 63 = .ok (.aload_n 0, 1) := by decide +kernel
theorem dX12_twice_64 : decode cX12_twice 64 = .ok (.invokevirtual 251, 3) := by decide +kernel
theorem dX12_twice_67 : decode cX12_twice 67 = .ok (.istore 6, 2) := by decide +kernel
theorem dX12_twice_69 : decode cX12_twice 69 = .ok (.iload_n 2, 1) := by decide +kernel
theorem dX12_twice_70 : decode cX12_twice 70 = .ok (.iconst (-1), 1) := by decide +kernel
theorem dX12_twice_71 : decode cX12_twice 71 = .ok (.if_icmp .eq 9, 3) := by decide +kernel
theorem dX12_twice_74 : decode cX12_twice 74 = .ok (.iload 6, 2) := by decide +kernel
theorem dX12_twice_76 : decode cX12_twice 76 = .ok (.iload_n 3, 1) := by decide +kernel
theorem dX12_twice_77 : decode cX12_twice 77 = .ok (.if_icmp .ge 7, 3) := by decide +kernel
theorem dX12_twice_80 : decode cX12_twice 80 = .ok (.iconst 1, 1) := by decide +kernel
theorem dX12_twice_81 : decode cX12_twice 81 = .ok (.goto 4, 3) := by decide +kernel
theorem dX12_twice_84 : decode cX12_twice 84 = .ok (.iconst 0, 1) := by decide +kernel
theorem dX12_twice_85 : decode cX12_twice 85 = .ok (.istore 7, 2) := by decide +kernel
theorem dX12_twice_87 : decode cX12_twice 87 = .ok (.iload 7, 2) := by decide +kernel
theorem dX12_twice_89 : decode cX12_twice 89 = .ok (.ifCond .eq 14, 3) := by decide +kernel
theorem dX12_twice_92 : decode cX12_twice 92 = .ok (.bipush 100, 2) := by decide +kernel
theorem dX12_twice_94 : decode cX12_twice 94 = .ok (.iload 4, 2) := by decide +kernel
theorem dX12_twice_96 : decode cX12_twice 96 = .ok (.imul, 1) := by decide +kernel
theorem dX12_twice_97 : decode cX12_twice 97 = .ok (.iload 5, 2) := by decide +kernel
theorem dX12_twice_99 : decode cX12_twice 99 = .ok (.iadd, 1) := by decide +kernel
theorem dX12_twice_100 : decode cX12_twice 100 = .ok (.goto 4, 3) := by decide +kernel
theorem dX12_twice_103 : decode cX12_twice 103 = .ok (.iload_n 2, 1) := by decide +kernel
theorem dX12_twice_104 : decode cX12_twice 104 = .ok (.istore_n 2, 1) := by decide +kernel
theorem dX12_twice_105 : decode cX12_twice 105 = .ok (.iload 7, 2) := by decide +kernel
theorem dX12_twice_107 : decode cX12_twice 107 = .ok (.ifCond .eq 8, 3) := by decide +kernel
theorem dX12_twice_110 : decode cX12_twice 110 = .ok (.iload 6, 2) := by decide +kernel
theorem dX12_twice_112 : decode cX12_twice 112 = .ok (.goto 4, 3) := by decide +kernel
theorem dX12_twice_115 : decode cX12_twice 115 = .ok (.iload_n 3, 1) := by decide +kernel
theorem dX12_twice_116 : decode cX12_twice 116 = .ok (.istore_n 3, 1) := by decide +kernel
theorem dX12_twice_117 : decode cX12_twice 117 = .ok (.iinc 5 1, 3) := by decide +kernel
theorem dX12_twice_120 : decode cX12_twice 120 = .ok (.goto (-82), 3) := by decide +kernel
theorem dX12_twice_123 : decode cX12_twice 123 = .ok (.iinc 4 1, 3) := by decide +kernel
theorem dX12_twice_126 : decode cX12_twice 126 = .ok (.goto (-103), 3) := by decide +kernel
theorem dX12_twice_129 : decode cX12_twice 129 = .ok (.aload_n 0, 1) := by decide +kernel
theorem dX12_twice_130 : decode cX12_twice 130 = .ok (.invokevirtual 257, 3) := by decide +kernel
theorem dX12_twice_133 : decode cX12_twice 133 = .ok (.iload_n 1, 1) := by decide +kernel
theorem dX12_twice_134 : decode cX12_twice 134 = .ok (.ifCond .ne 7, 3) := by decide +kernel
theorem dX12_twice_137 : decode cX12_twice 137 = .ok (.iload_n 2, 1) := by decide +kernel
theorem dX12_twice_138 : decode cX12_twice 138 = .ok (.goto 4, 3) := by decide +kernel
theorem dX12_twice_141 : decode cX12_twice 141 = .ok (.iload_n 3, 1) := by decide +kernel
theorem dX12_twice_142 : decode cX12_twice 142 = .ok (.ireturn, 1) := by decide +kernel
theorem dX12_until_0 : decode cX12_until 0 = .ok (.iload_n 1, 1) := by decide +kernel
theorem dX12_until_1 : decode cX12_until 1 = .ok (.iconst 0, 1) := by decide +kernel
theorem dX12_until_2 : decode cX12_until 2 = .ok (.iconst 1, 1) := by decide +kernel
theorem dX12_until_3 : decode cX12_until 3 = .ok (.invokestatic 93, 3) := by decide +kernel
theorem dX12_until_6 : decode cX12_until 6 = .ok (.ifCond .ne 6, 3) := by decide +kernel
theorem dX12_until_9 : decode cX12_until 9 = .ok (.bipush (-2), 2) := by decide +kernel
theorem dX12_until_11 : decode cX12_until 11 = .ok (.ireturn, 1) := by decide +kernel
theorem dX12_until_12 : decode cX12_until 12 = .ok (.aload_n 0, 1) := by decide +kernel
theorem dX12_until_13 : decode cX12_until 13 = .ok (.getfield 13, 3) := by decide +kernel
theorem dX12_until_16 : decode cX12_until 16 = .ok (.istore_n 2, 1) := by decide +kernel
theorem dX12_until_17 : decode cX12_until 17 = .ok (.iconst (-1), 1) := by decide +kernel
theorem dX12_until_18 : decode cX12_until 18 = .ok (.istore_n 3, 1) := by decide +kernel
theorem dX12_until_19 : decode cX12_until 19 = .ok (.iconst 0, 1) := by decide +kernel
theorem dX12_until_20 : decode cX12_until 20 = .ok (.istore 4, 2) := by decide +kernel
theorem dX12_until_22 : decode cX12_until 22 = .ok (.iconst 1, 1) := by decide +kernel
theorem dX12_until_23 : decode cX12_until 23 = .ok (.istore 5, 2) := by decide +kernel
theorem dX12_until_25 : decode cX12_until 25 = .ok (.iload 5, 2) := by decide +kernel
theorem dX12_until_27 : decode cX12_until 27 = .ok (.bipush 40, 2) := by decide +kernel
theorem dX12_until_29 : decode cX12_until 29 = .ok (.if_icmp .gt 66, 3) := by decide +kernel
theorem dX12_until_32 : decode cX12_until 32 = .ok (.aload_n 0, 1) := by decide +kernel
theorem dX12_until_33 : decode cX12_until 33 = .ok (.iload 5, 2) := by decide +kernel
theorem dX12_until_35 : decode cX12_until 35 = .ok (.putfield 13, 3) := by decide +kernel
theorem dX12_until_38 : decode cX12_until 38 = .ok (.aload_n 0, 1) := by decide +kernel
theorem dX12_until_39 : decode cX12_until 39 = .ok (.invokevirtual 254, 3) := by decide +kernel
theorem dX12_until_42 : decode cX12_until 42 = .ok (.istore 6, 2) := by decide +kernel
theorem dX12_until_44 : decode cX12_until 44 = .ok (.iload_n 3, 1) := by decide +kernel
theorem dX12_until_45 : decode cX12_until 45 = .ok (.iconst (-1), 1) := by decide +kernel
theorem dX12_until_46 : decode cX12_until 46 = .ok (.if_icmp .eq 10, 3) := by decide +kernel
theorem dX12_until_49 : decode cX12_until 49 = .ok (.iload 6, 2) := by decide +kernel
theorem dX12_until_51 : decode cX12_until 51 = .ok (.iload 4, 2) := by decide +kernel
theorem dX12_until_53 : decode cX12_until 53 = .ok (.if_icmp .ge 7, 3) := by decide +kernel
theorem dX12_until_56 : decode cX12_until 56 = .ok (.iconst 1, 1) := by decide +kernel
theorem dX12_until_57 : decode cX12_until 57 = .ok (.goto 4, 3) := by decide +kernel
theorem dX12_until_60 : decode cX12_until 60 = .ok (.iconst 0, 1) := by decide +kernel
theorem dX12_until_61 : decode cX12_until 61 = .ok (.istore 7, 2) := by decide +kernel
theorem dX12_until_63 : decode cX12_until 63 = .ok (.iload 7, 2) := by decide +kernel
theorem dX12_until_65 : decode cX12_until 65 = .ok (.ifCond .eq 8, 3) := by decide +kernel
theorem dX12_until_68 : decode cX12_until 68 = .ok (.iload 5, 2) := by decide +kernel
theorem dX12_until_70 : decode cX12_until 70 = .ok (.goto 4, 3) := by decide +kernel
theorem dX12_until_73 : decode cX12_until 73 = .ok (.iload_n 3, 1) := by decide +kernel
theorem dX12_until_74 : decode cX12_until 74 = .ok (.istore_n 3, 1) := by decide +kernel
theorem dX12_until_75 : decode cX12_until 75 = .ok (.iload 7, 2) := by decide +kernel
theorem dX12_until_77 : decode cX12_until 77 = .ok (.ifCond .eq 8, 3) := by decide +kernel
theorem dX12_until_80 : decode cX12_until 80 = .ok (.iload 6, 2) := by decide +kernel
theorem dX12_until_82 : decode cX12_until 82 = .ok (.goto 5, 3) := by decide +kernel
theorem dX12_until_85 : decode cX12_until 85 = .ok (.iload 4, 2) := by decide +kernel
theorem dX12_until_87 : decode cX12_until 87 = .ok (.istore 4, 2) := by decide +kernel
theorem dX12_until_89 : decode cX12_until 89 = .ok (.iinc 5 1, 3) := by decide +kernel
theorem dX12_until_92 : decode cX12_until 92 = .ok (.goto (-67), 3) := by decide +kernel
theorem dX12_until_95 : decode cX12_until 95 = .ok (.aload_n 0, 1) := by decide +kernel
theorem dX12_until_96 : decode cX12_until 96 = .ok (.iload_n 2, 1) := by decide +kernel
theorem dX12_until_97 : decode cX12_until 97 = .ok (.putfield 13, 3) := by decide +kernel
theorem dX12_until_100 : decode cX12_until 100 = .ok (.iload_n 1, 1) := by decide +kernel
theorem dX12_until_101 : decode cX12_until 101 = .ok (.ifCond .ne 7, 3) := by decide +kernel
theorem dX12_until_104 : decode cX12_until 104 = .ok (.iload_n 3, 1) := by decide +kernel
theorem dX12_until_105 : decode cX12_until 105 = .ok (.goto 5, 3) := by decide +kernel
theorem dX12_until_108 : decode cX12_until 108 = .ok (.iload 4, 2) := by decide +kernel
theorem dX12_until_110 : decode cX12_until 110 = .ok (.ireturn, 1) := by decide +kernel
theorem dX12_outOf_0 : decode cX12_outOf 0 = .ok (.iconst 0, 1) := by decide +kernel
theorem dX12_outOf_1 : decode cX12_outOf 1 = .ok (.istore_n 2, 1) := by decide +kernel
theorem dX12_outOf_2 : decode cX12_outOf 2 = .ok (.aload_n 0, 1) := by decide +kernel
theorem dX12_outOf_3 : decode cX12_outOf 3 = .ok (.iconst (-1), 1) := by decide +kernel
theorem dX12_outOf_4 : decode cX12_outOf 4 = .ok (.putfield 260, 3) := by decide +kernel
theorem dX12_outOf_7 : decode cX12_outOf 7 = .ok (.iconst 0, 1) := by decide +kernel
theorem dX12_outOf_8 : decode cX12_outOf 8 = .ok (.istore_n 3, 1) := by decide +kernel
theorem dX12_outOf_9 : decode cX12_outOf 9 = .ok (.iload_n 3, 1) := by decide +kernel
theorem dX12_outOf_10 : decode cX12_outOf 10 = .ok (.aload_n 0, 1) := by decide +kernel
theorem dX12_outOf_11 : decode cX12_outOf 11 = .ok (.getfield 13, 3) := by decide +kernel
theorem dX12_outOf_14 : decode cX12_outOf 14 = .ok (.if_icmp .gt 77, 3) := by decide +kernel
theorem dX12_outOf_17 : decode cX12_outOf 17 = .ok (.aload_n 0, 1) := by decide +kernel
theorem dX12_outOf_18 : decode cX12_outOf 18 = .ok (.iload_n 1, 1) := by decide +kernel
theorem dX12_outOf_19 : decode cX12_outOf 19 = .ok (.aload_n 0, 1) := by decide +kernel
theorem dX12_outOf_20 : decode cX12_outOf 20 = .ok (.getfield 71, 3) := by decide +kernel
theorem dX12_outOf_23 : decode cX12_outOf 23 = .ok (.bipush 41, 2) := by decide +kernel
theorem dX12_outOf_25 : decode cX12_outOf 25 = .ok (.iload_n 1, 1) := by decide +kernel
theorem dX12_outOf_26 : decode cX12_outOf 26 = .ok (.imul, 1) := by decide +kernel
theorem dX12_outOf_27 : decode cX12_outOf 27 = .ok (.iload_n 3, 1) := by decide +kernel
theorem dX12_outOf_28 : decode cX12_outOf 28 = .ok (.iadd, 1) := by decide +kernel
theorem dX12_outOf_29 : decode cX12_outOf 29 = .ok (.iaload, 1) := by decide +kernel
theorem dX12_outOf_30 : decode cX12_outOf 30 = .ok (.invokevirtual 220, 3) := by decide +kernel
theorem dX12_outOf_33 : decode cX12_outOf 33 = .ok (.istore 4, 2) := by decide +kernel
theorem dX12_outOf_35 : decode cX12_outOf 35 = .ok (.aload_n 0, 1) := by decide +kernel
theorem dX12_outOf_36 : decode cX12_outOf 36 = .ok (.getfield 260, 3) := by decide +kernel
theorem dX12_outOf_39 : decode cX12_outOf 39 = .ok (.iconst (-1), 1) := by decide +kernel
theorem dX12_outOf_40 : decode cX12_outOf 40 = .ok (.if_icmp .eq 9, 3) := by decide +kernel
theorem dX12_outOf_43 : decode cX12_outOf 43 = .ok (.iload 4, 2) := by decide +kernel
theorem dX12_outOf_45 : decode cX12_outOf 45 = .ok (.iload_n 2, 1) := by decide +kernel
theorem dX12_outOf_46 : decode cX12_outOf 46 = .ok (.if_icmp .ge 7, 3) := by decide +kernel
theorem dX12_outOf_49 : decode cX12_outOf 49 = .ok (.iconst 1, 1) := by decide +kernel
theorem dX12_outOf_50 : decode cX12_outOf 50 = .ok (.goto 4, 3) := by decide +kernel
theorem dX12_outOf_53 : decode cX12_outOf 53 = .ok (.iconst 0, 1) := by decide +kernel
theorem dX12_outOf_54 : decode cX12_outOf 54 = .ok (.istore 5, 2) := by decide +kernel
theorem dX12_outOf_56 : decode cX12_outOf 56 = .ok (.aload_n 0, 1) := by decide +kernel
theorem dX12_outOf_57 : decode cX12_outOf 57 = .ok (.iload 5, 2) := by decide +kernel
theorem dX12_outOf_59 : decode cX12_outOf 59 = .ok (.ifCond .eq 7, 3) := by decide +kernel
theorem dX12_outOf_62 : decode cX12_outOf 62 = .ok (.iload_n 3, 1) := by decide +kernel
theorem dX12_outOf_63 : decode cX12_outOf 63 = .ok (.goto 7, 3) := by decide +kernel
theorem dX12_outOf_66 : decode cX12_outOf 66 = .ok (.aload_n 0, 1) := by decide +kernel
theorem dX12_outOf_67 : decode cX12_outOf 67 = .ok (.getfield 260, 3) := by decide +kernel
theorem dX12_outOf_70 : decode cX12_outOf 70 = .ok (.putfield 260, 3) := by decide +kernel
theorem dX12_outOf_73 : decode cX12_outOf 73 = .ok (.iload 5, 2) := by decide +kernel
theorem dX12_outOf_75 : decode cX12_outOf 75 = .ok (.ifCond .eq 8, 3) := by decide +kernel
theorem dX12_outOf_78 : decode cX12_outOf 78 = .ok (.iload 4, 2) := by decide +kernel
theorem dX12_outOf_80 : decode cX12_outOf 80 = .ok (.goto 4, 3) := by decide +kernel
theorem dX12_outOf_83 : decode cX12_outOf 83 = .ok (.iload_n 2, 1) := by decide +kernel
theorem dX12_outOf_84 : decode cX12_outOf 84 = .ok (.istore_n 2, 1) := by decide +kernel
theorem dX12_outOf_85 : decode cX12_outOf 85 = .ok (.iinc 3 1, 3) := by decide +kernel
theorem dX12_outOf_88 : decode cX12_outOf 88 = .ok (.goto (-79), 3) := by decide +kernel
theorem dX12_outOf_91 : decode cX12_outOf 91 = .ok (.iload_n 2, 1) := by decide +kernel
theorem dX12_outOf_92 : decode cX12_outOf 92 = .ok (.ireturn, 1) := by decide +kernel
theorem dX12_out_0 : decode cX12_out 0 = .ok (.aload_n 0, 1) := by decide +kernel
theorem dX12_out_1 : decode cX12_out 1 = .ok (.iload_n 1, 1) := by decide +kernel
theorem dX12_out_2 : decode cX12_out 2 = .ok (.invokevirtual 185, 3) := by decide +kernel
theorem dX12_out_5 : decode cX12_out 5 = .ok (.ifCond .ne 6, 3) := by decide +kernel
theorem dX12_out_8 : decode cX12_out 8 = .ok (.bipush (-5), 2) := by decide +kernel
theorem dX12_out_10 : decode cX12_out 10 = .ok (.ireturn, 1) := by decide +kernel
theorem dX12_out_11 : decode cX12_out 11 = .ok (.iload_n 2, 1) := by decide +kernel
theorem dX12_out_12 : decode cX12_out 12 = .ok (.iconst 0, 1) := by decide +kernel
theorem dX12_out_13 : decode cX12_out 13 = .ok (.iconst 1, 1) := by decide +kernel
theorem dX12_out_14 : decode cX12_out 14 = .ok (.invokestatic 93, 3) := by decide +kernel
theorem dX12_out_17 : decode cX12_out 17 = .ok (.ifCond .ne 6, 3) := by decide +kernel
theorem dX12_out_20 : decode cX12_out 20 = .ok (.bipush (-7), 2) := by decide +kernel
theorem dX12_out_22 : decode cX12_out 22 = .ok (.ireturn, 1) := by decide +kernel
theorem dX12_out_23 : decode cX12_out 23 = .ok (.aload_n 0, 1) := by decide +kernel
theorem dX12_out_24 : decode cX12_out 24 = .ok (.invokevirtual 229, 3) := by decide +kernel
theorem dX12_out_27 : decode cX12_out 27 = .ok (.aload_n 0, 1) := by decide +kernel
theorem dX12_out_28 : decode cX12_out 28 = .ok (.iload_n 1, 1) := by decide +kernel
theorem dX12_out_29 : decode cX12_out 29 = .ok (.invokevirtual 263, 3) := by decide +kernel
theorem dX12_out_32 : decode cX12_out 32 = .ok (.istore_n 3, 1) := by decide +kernel
theorem dX12_out_33 : decode cX12_out 33 = .ok (.iload_n 2, 1) := by decide +kernel
theorem dX12_out_34 : decode cX12_out 34 = .ok (.ifCond .ne 10, 3) := by decide +kernel
theorem dX12_out_37 : decode cX12_out 37 = .ok (.aload_n 0, 1) := by decide +kernel
theorem dX12_out_38 : decode cX12_out 38 = .ok (.getfield 260, 3) := by decide +kernel
theorem dX12_out_41 : decode cX12_out 41 = .ok (.goto 4, 3) := by decide +kernel
theorem dX12_out_44 : decode cX12_out 44 = .ok (.iload_n 3, 1) := by decide +kernel
theorem dX12_out_45 : decode cX12_out 45 = .ok (.ireturn, 1) := by decide +kernel
theorem dX12_singly_0 : decode cX12_singly 0 = .ok (.aload_n 0, 1) := by decide +kernel
theorem dX12_singly_1 : decode cX12_singly 1 = .ok (.invokevirtual 229, 3) := by decide +kernel
theorem dX12_singly_4 : decode cX12_singly 4 = .ok (.iconst 0, 1) := by decide +kernel
theorem dX12_singly_5 : decode cX12_singly 5 = .ok (.istore_n 1, 1) := by decide +kernel
theorem dX12_singly_6 : decode cX12_singly 6 = .ok (.iconst 0, 1) := by decide +kernel
theorem dX12_singly_7 : decode cX12_singly 7 = .ok (.istore_n 2, 1) := by decide +kernel
theorem dX12_singly_8 : decode cX12_singly 8 = .ok (.iload_n 2, 1) := by decide +kernel
theorem dX12_singly_9 : decode cX12_singly 9 = .ok (.aload_n 0, 1) := by decide +kernel
theorem dX12_singly_10 : decode cX12_singly 10 = .ok (.getfield 90, 3) := by decide +kernel
theorem dX12_singly_13 : decode cX12_singly 13 = .ok (.if_icmp .ge 17, 3) := by decide +kernel
theorem dX12_singly_16 : decode cX12_singly 16 = .ok (.iload_n 1, 1) := by decide +kernel
theorem dX12_singly_17 : decode cX12_singly 17 = .ok (.aload_n 0, 1) := by decide +kernel
theorem dX12_singly_18 : decode cX12_singly 18 = .ok (.iload_n 2, 1) := by decide +kernel
theorem dX12_singly_19 : decode cX12_singly 19 = .ok (.invokevirtual 263, 3) := by decide +kernel
theorem dX12_singly_22 : decode cX12_singly 22 = .ok (.iadd, 1) := by decide +kernel
theorem dX12_singly_23 : decode cX12_singly 23 = .ok (.istore_n 1, 1) := by decide +kernel
theorem dX12_singly_24 : decode cX12_singly 24 = .ok (.iinc 2 1, 3) := by decide +kernel
theorem dX12_singly_27 : decode cX12_singly 27 = .ok (.goto (-19), 3) := by decide +kernel
theorem dX12_singly_30 : decode cX12_singly 30 = .ok (.iload_n 1, 1) := by decide +kernel
theorem dX12_singly_31 : decode cX12_singly 31 = .ok (.ireturn, 1) := by decide +kernel
theorem dX12_soon_0 : decode cX12_soon 0 = .ok (.aload_n 0, 1) := by decide +kernel
theorem dX12_soon_1 : decode cX12_soon 1 = .ok (.iload_n 1, 1) := by decide +kernel
theorem dX12_soon_2 : decode cX12_soon 2 = .ok (.invokevirtual 185, 3) := by decide +kernel
theorem dX12_soon_5 : decode cX12_soon 5 = .ok (.ifCond .ne 6, 3) := by decide +kernel
theorem dX12_soon_8 : decode cX12_soon 8 = .ok (.bipush (-5), 2) := by decide +kernel
theorem dX12_soon_10 : decode cX12_soon 10 = .ok (.ireturn, 1) := by decide +kernel
theorem dX12_soon_11 : decode cX12_soon 11 = .ok (.iload_n 2, 1) := by decide +kernel
theorem dX12_soon_12 : decode cX12_soon 12 = .ok (.iconst 0, 1) := by decide +kernel
theorem dX12_soon_13 : decode cX12_soon 13 = .ok (.sipush 999, 3) := by decide +kernel
theorem dX12_soon_16 : decode cX12_soon 16 = .ok (.invokestatic 93, 3) := by decide +kernel
theorem dX12_soon_19 : decode cX12_soon 19 = .ok (.ifCond .ne 6, 3) := by decide +kernel
theorem dX12_soon_22 : decode cX12_soon 22 = .ok (.bipush (-7), 2) := by decide +kernel
theorem dX12_soon_24 : decode cX12_soon 24 = .ok (.ireturn, 1) := by decide +kernel
theorem dX12_soon_25 : decode cX12_soon 25 = .ok (.aload_n 0, 1) := by decide +kernel
theorem dX12_soon_26 : decode cX12_soon 26 = .ok (.invokevirtual 229, 3) := by decide +kernel
theorem dX12_soon_29 : decode cX12_soon 29 = .ok (.iconst 0, 1) := by decide +kernel
theorem dX12_soon_30 : decode cX12_soon 30 = .ok (.istore_n 3, 1) := by decide +kernel
theorem dX12_soon_31 : decode cX12_soon 31 = .ok (.iload_n 3, 1) := by decide +kernel
theorem dX12_soon_32 : decode cX12_soon 32 = .ok (.aload_n 0, 1) := by decide +kernel
theorem dX12_soon_33 : decode cX12_soon 33 = .ok (.getfield 13, 3) := by decide +kernel
theorem dX12_soon_36 : decode cX12_soon 36 = .ok (.if_icmp .gt 26, 3) := by decide +kernel
theorem dX12_soon_39 : decode cX12_soon 39 = .ok (.aload_n 0, 1) := by decide +kernel
theorem dX12_soon_40 : decode cX12_soon 40 = .ok (.getfield 71, 3) := by decide +kernel
theorem dX12_soon_43 : decode cX12_soon 43 = .ok (.bipush 41, 2) := by decide +kernel
theorem dX12_soon_45 : decode cX12_soon 45 = .ok (.iload_n 1, 1) := by decide +kernel
theorem dX12_soon_46 : decode cX12_soon 46 = .ok (.imul, 1) := by decide +kernel
theorem dX12_soon_47 : decode cX12_soon 47 = .ok (.iload_n 3, 1) := by decide +kernel
theorem dX12_soon_48 : decode cX12_soon 48 = .ok (.iadd, 1) := by decide +kernel
theorem dX12_soon_49 : decode cX12_soon 49 = .ok (.iaload, 1) := by decide +kernel
theorem dX12_soon_50 : decode cX12_soon 50 = .ok (.iload_n 2, 1) := by decide +kernel
theorem dX12_soon_51 : decode cX12_soon 51 = .ok (.if_icmp .lt 5, 3) := by decide +kernel
theorem dX12_soon_54 : decode cX12_soon 54 = .ok (.iload_n 3, 1) := by decide +kernel
theorem dX12_soon_55 : decode cX12_soon 55 = .ok (.ireturn, 1) := by decide +kernel
theorem dX12_soon_56 : decode cX12_soon 56 = .ok (.iinc 3 1, 3) := by decide +kernel
theorem dX12_soon_59 : decode cX12_soon 59 = .ok (.goto (-28), 3) := by decide +kernel
theorem dX12_soon_62 : decode cX12_soon 62 = .ok (.iconst (-1), 1) := by decide +kernel
theorem dX12_soon_63 : decode cX12_soon 63 = .ok (.ireturn, 1) := by decide +kernel
theorem dX12_few_0 : decode cX12_few 0 = .ok (.iload_n 1, 1) := by decide +kernel
theorem dX12_few_1 : decode cX12_few 1 = .ok (.iconst 0, 1) := by decide +kernel
theorem dX12_few_2 : decode cX12_few 2 = .ok (.sipush 999, 3) := by decide +kernel
theorem dX12_few_5 : decode cX12_few 5 = .ok (.invokestatic 93, 3) := by decide +kernel
theorem dX12_few_8 : decode cX12_few 8 = .ok (.ifCond .ne 6, 3) := by decide +kernel
theorem dX12_few_11 : decode cX12_few 11 = .ok (.bipush (-2), 2) := by decide +kernel
theorem dX12_few_13 : decode cX12_few 13 = .ok (.ireturn, 1) := by decide +kernel
theorem dX12_few_14 : decode cX12_few 14 = .ok (.aload_n 0, 1) := by decide +kernel
theorem dX12_few_15 : decode cX12_few 15 = .ok (.getfield 100, 3) := by decide +kernel
theorem dX12_few_18 : decode cX12_few 18 = .ok (.istore_n 2, 1) := by decide +kernel
theorem dX12_few_19 : decode cX12_few 19 = .ok (.iconst (-1), 1) := by decide +kernel
theorem dX12_few_20 : decode cX12_few 20 = .ok (.istore_n 3, 1) := by decide +kernel
theorem dX12_few_21 : decode cX12_few 21 = .ok (.iload_n 2, 1) := by decide +kernel
theorem dX12_few_22 : decode cX12_few 22 = .ok (.istore 4, 2) := by decide +kernel
theorem dX12_few_24 : decode cX12_few 24 = .ok (.iload 4, 2) := by decide +kernel
theorem dX12_few_26 : decode cX12_few 26 = .ok (.ifCond .lt 30, 3) := by decide +kernel
theorem dX12_few_29 : decode cX12_few 29 = .ok (.aload_n 0, 1) := by decide +kernel
theorem dX12_few_30 : decode cX12_few 30 = .ok (.iload 4, 2) := by decide +kernel
theorem dX12_few_32 : decode cX12_few 32 = .ok (.putfield 100, 3) := by decide +kernel
theorem dX12_few_35 : decode cX12_few 35 = .ok (.aload_n 0, 1) := by decide +kernel
theorem dX12_few_36 : decode cX12_few 36 = .ok (.invokevirtual 251, 3) := by decide +kernel
theorem dX12_few_39 : decode cX12_few 39 = .ok (.iload_n 1, 1) := by decide +kernel
theorem dX12_few_40 : decode cX12_few 40 = .ok (.if_icmp .gt 8, 3) := by decide +kernel
theorem dX12_few_43 : decode cX12_few 43 = .ok (.iload 4, 2) := by decide +kernel
theorem dX12_few_45 : decode cX12_few 45 = .ok (.goto 4, 3) := by decide +kernel
theorem dX12_few_48 : decode cX12_few 48 = .ok (.iload_n 3, 1) := by decide +kernel
theorem dX12_few_49 : decode cX12_few 49 = .ok (.istore_n 3, 1) := by decide +kernel
theorem dX12_few_50 : decode cX12_few 50 = .ok (.iinc 4 (-1), 3) := by decide +kernel
theorem dX12_few_53 : decode cX12_few 53 = .ok (.goto (-29), 3) := by decide +kernel
theorem dX12_few_56 : decode cX12_few 56 = .ok (.aload_n 0, 1) := by decide +kernel
theorem dX12_few_57 : decode cX12_few 57 = .ok (.iload_n 2, 1) := by decide +kernel
theorem dX12_few_58 : decode cX12_few 58 = .ok (.putfield 100, 3) := by decide +kernel
theorem dX12_few_61 : decode cX12_few 61 = .ok (.iload_n 3, 1) := by decide +kernel
theorem dX12_few_62 : decode cX12_few 62 = .ok (.ireturn, 1) := by decide +kernel
theorem dX12_keepsHot_0 : decode cX12_keepsHot 0 = .ok (.iconst 0, 1) := by decide +kernel
theorem dX12_keepsHot_1 : decode cX12_keepsHot 1 = .ok (.istore_n 1, 1) := by decide +kernel
theorem dX12_keepsHot_2 : decode cX12_keepsHot 2 = .ok (.iload_n 1, 1) := by decide +kernel
theorem dX12_keepsHot_3 : decode cX12_keepsHot 3 = .ok (.bipush 16, 2) := by decide +kernel
theorem dX12_keepsHot_5 : decode cX12_keepsHot 5 = .ok (.if_icmp .ge 21, 3) := by decide +kernel
theorem dX12_keepsHot_8 : decode cX12_keepsHot 8 = .ok (.aload_n 0, 1) := by decide +kernel
theorem dX12_keepsHot_9 : decode cX12_keepsHot 9 = .ok (.getfield 80, 3) := by decide +kernel
theorem dX12_keepsHot_12 : decode cX12_keepsHot 12 = .ok (.iload_n 1, 1) := by decide +kernel
theorem dX12_keepsHot_13 : decode cX12_keepsHot 13 = .ok (.aload_n 0, 1) := by decide +kernel
theorem dX12_keepsHot_14 : decode cX12_keepsHot 14 = .ok (.getfield 7, 3) := by decide +kernel
theorem dX12_keepsHot_17 : decode cX12_keepsHot 17 = .ok (.iload_n 1, 1) := by decide +kernel
theorem dX12_keepsHot_18 : decode cX12_keepsHot 18 = .ok (.iaload, 1) := by decide +kernel
theorem dX12_keepsHot_19 : decode cX12_keepsHot 19 = .ok (.iastore, 1) := by decide +kernel
theorem dX12_keepsHot_20 : decode cX12_keepsHot 20 = .ok (.iinc 1 1, 3) := by decide +kernel
theorem dX12_keepsHot_23 : decode cX12_keepsHot 23 = .ok (.goto (-21), 3) := by decide +kernel
theorem dX12_keepsHot_26 : decode cX12_keepsHot 26 = .ok (.return_, 1) := by decide +kernel
theorem dX12_laysHot_0 : decode cX12_laysHot 0 = .ok (.iconst 0, 1) := by decide +kernel
theorem dX12_laysHot_1 : decode cX12_laysHot 1 = .ok (.istore_n 1, 1) := by decide +kernel
theorem dX12_laysHot_2 : decode cX12_laysHot 2 = .ok (.iload_n 1, 1) := by decide +kernel
theorem dX12_laysHot_3 : decode cX12_laysHot 3 = .ok (.bipush 16, 2) := by decide +kernel
theorem dX12_laysHot_5 : decode cX12_laysHot 5 = .ok (.if_icmp .ge 21, 3) := by decide +kernel
theorem dX12_laysHot_8 : decode cX12_laysHot 8 = .ok (.aload_n 0, 1) := by decide +kernel
theorem dX12_laysHot_9 : decode cX12_laysHot 9 = .ok (.getfield 7, 3) := by decide +kernel
theorem dX12_laysHot_12 : decode cX12_laysHot 12 = .ok (.iload_n 1, 1) := by decide +kernel
theorem dX12_laysHot_13 : decode cX12_laysHot 13 = .ok (.aload_n 0, 1) := by decide +kernel
theorem dX12_laysHot_14 : decode cX12_laysHot 14 = .ok (.getfield 80, 3) := by decide +kernel
theorem dX12_laysHot_17 : decode cX12_laysHot 17 = .ok (.iload_n 1, 1) := by decide +kernel
theorem dX12_laysHot_18 : decode cX12_laysHot 18 = .ok (.iaload, 1) := by decide +kernel
theorem dX12_laysHot_19 : decode cX12_laysHot 19 = .ok (.iastore, 1) := by decide +kernel
theorem dX12_laysHot_20 : decode cX12_laysHot 20 = .ok (.iinc 1 1, 3) := by decide +kernel
theorem dX12_laysHot_23 : decode cX12_laysHot 23 = .ok (.goto (-21), 3) := by decide +kernel
theorem dX12_laysHot_26 : decode cX12_laysHot 26 = .ok (.return_, 1) := by decide +kernel
theorem dX12_fan_0 : decode cX12_fan 0 = .ok (.aload_n 0, 1) := by decide +kernel
theorem dX12_fan_1 : decode cX12_fan 1 = .ok (.invokevirtual 254, 3) := by decide +kernel
theorem dX12_fan_4 : decode cX12_fan 4 = .ok (.istore_n 1, 1) := by decide +kernel
theorem dX12_fan_5 : decode cX12_fan 5 = .ok (.iconst 0, 1) := by decide +kernel
theorem dX12_fan_6 : decode cX12_fan 6 = .ok (.istore_n 2, 1) := by decide +kernel
theorem dX12_fan_7 : decode cX12_fan 7 = .ok (.aload_n 0, 1) := by decide +kernel
theorem dX12_fan_8 : decode cX12_fan 8 = .ok (.invokevirtual 266, 3) := by decide +kernel
theorem dX12_fan_11 : decode cX12_fan 11 = .ok (.iconst 0, 1) := by decide +kernel
theorem dX12_fan_12 : decode cX12_fan 12 = .ok (.istore_n 3, 1) := by decide +kernel
theorem dX12_fan_13 : decode cX12_fan 13 = .ok (.iload_n 3, 1) := by decide +kernel
theorem dX12_fan_14 : decode cX12_fan 14 = .ok (.bipush 16, 2) := by decide +kernel
theorem dX12_fan_16 : decode cX12_fan 16 = .ok (.if_icmp .ge 18, 3) := by decide +kernel
theorem dX12_fan_19 : decode cX12_fan 19 = .ok (.iload_n 2, 1) := by decide +kernel
theorem dX12_fan_20 : decode cX12_fan 20 = .ok (.aload_n 0, 1) := by decide +kernel
theorem dX12_fan_21 : decode cX12_fan 21 = .ok (.getfield 7, 3) := by decide +kernel
theorem dX12_fan_24 : decode cX12_fan 24 = .ok (.iload_n 3, 1) := by decide +kernel
theorem dX12_fan_25 : decode cX12_fan 25 = .ok (.iaload, 1) := by decide +kernel
theorem dX12_fan_26 : decode cX12_fan 26 = .ok (.iadd, 1) := by decide +kernel
theorem dX12_fan_27 : decode cX12_fan 27 = .ok (.istore_n 2, 1) := by decide +kernel
theorem dX12_fan_28 : decode cX12_fan 28 = .ok (.iinc 3 1, 3) := by decide +kernel
theorem dX12_fan_31 : decode cX12_fan 31 = .ok (.goto (-18), 3) := by decide +kernel
theorem dX12_fan_34 : decode cX12_fan 34 = .ok (.iconst 0, 1) := by decide +kernel
theorem dX12_fan_35 : decode cX12_fan 35 = .ok (.istore_n 3, 1) := by decide +kernel
theorem dX12_fan_36 : decode cX12_fan 36 = .ok (.iload_n 3, 1) := by decide +kernel
theorem dX12_fan_37 : decode cX12_fan 37 = .ok (.bipush 16, 2) := by decide +kernel
theorem dX12_fan_39 : decode cX12_fan 39 = .ok (.if_icmp .ge 19, 3) := by decide +kernel
theorem dX12_fan_42 : decode cX12_fan 42 = .ok (.aload_n 0, 1) := by decide +kernel
theorem dX12_fan_43 : decode cX12_fan 43 = .ok (.getfield 7, 3) := by decide +kernel
theorem dX12_fan_46 : decode cX12_fan 46 = .ok (.iload_n 3, 1) := by decide +kernel
theorem dX12_fan_47 : decode cX12_fan 47 = .ok (.iload_n 2, 1) := by decide +kernel
theorem dX12_fan_48 : decode cX12_fan 48 = .ok (.bipush 16, 2) := by decide +kernel
theorem dX12_fan_50 : decode cX12_fan 50 = .ok (.idiv, 1) := by decide +kernel
theorem dX12_fan_51 : decode cX12_fan 51 = .ok (.iastore, 1) := by decide +kernel
theorem dX12_fan_52 : decode cX12_fan 52 = .ok (.iinc 3 1, 3) := by decide +kernel
theorem dX12_fan_55 : decode cX12_fan 55 = .ok (.goto (-19), 3) := by decide +kernel
theorem dX12_fan_58 : decode cX12_fan 58 = .ok (.aload_n 0, 1) := by decide +kernel
theorem dX12_fan_59 : decode cX12_fan 59 = .ok (.invokevirtual 254, 3) := by decide +kernel
theorem dX12_fan_62 : decode cX12_fan 62 = .ok (.istore_n 3, 1) := by decide +kernel
theorem dX12_fan_63 : decode cX12_fan 63 = .ok (.aload_n 0, 1) := by decide +kernel
theorem dX12_fan_64 : decode cX12_fan 64 = .ok (.invokevirtual 269, 3) := by decide +kernel
theorem dX12_fan_67 : decode cX12_fan 67 = .ok (.iload_n 1, 1) := by decide +kernel
theorem dX12_fan_68 : decode cX12_fan 68 = .ok (.iload_n 3, 1) := by decide +kernel
theorem dX12_fan_69 : decode cX12_fan 69 = .ok (.isub, 1) := by decide +kernel
theorem dX12_fan_70 : decode cX12_fan 70 = .ok (.ireturn, 1) := by decide +kernel
theorem dX12_cost_0 : decode cX12_cost 0 = .ok (.aload_n 0, 1) := by decide +kernel
theorem dX12_cost_1 : decode cX12_cost 1 = .ok (.invokevirtual 254, 3) := by decide +kernel
theorem dX12_cost_4 : decode cX12_cost 4 = .ok (.istore_n 1, 1) := by decide +kernel
theorem dX12_cost_5 : decode cX12_cost 5 = .ok (.aload_n 0, 1) := by decide +kernel
theorem dX12_cost_6 : decode cX12_cost 6 = .ok (.getfield 100, 3) := by decide +kernel
theorem dX12_cost_9 : decode cX12_cost 9 = .ok (.istore_n 2, 1) := by decide +kernel
theorem dX12_cost_10 : decode cX12_cost 10 = .ok (.aload_n 0, 1) := by decide +kernel
theorem dX12_cost_11 : decode cX12_cost 11 = .ok (.iconst 0, 1) := by decide +kernel
theorem dX12_cost_12 : decode cX12_cost 12 = .ok (.putfield 100, 3) := by decide +kernel
theorem dX12_cost_15 : decode cX12_cost 15 = .ok (.aload_n 0, 1) := by decide +kernel
theorem dX12_cost_16 : decode cX12_cost 16 = .ok (.invokevirtual 254, 3) := by decide +kernel
theorem dX12_cost_19 : decode cX12_cost 19 = .ok (.istore_n 3, 1) := by decide +kernel
theorem dX12_cost_20 : decode cX12_cost 20 = .ok (.aload_n 0, 1) := by decide +kernel
theorem dX12_cost_21 : decode cX12_cost 21 = .ok (.iload_n 2, 1) := by decide +kernel
theorem dX12_cost_22 : decode cX12_cost 22 = .ok (.putfield 100, 3) := by decide +kernel
theorem dX12_cost_25 : decode cX12_cost 25 = .ok (.iload_n 1, 1) := by decide +kernel
theorem dX12_cost_26 : decode cX12_cost 26 = .ok (.iload_n 3, 1) := by decide +kernel
theorem dX12_cost_27 : decode cX12_cost 27 = .ok (.isub, 1) := by decide +kernel
theorem dX12_cost_28 : decode cX12_cost 28 = .ok (.ireturn, 1) := by decide +kernel
theorem dX12_lay_0 : decode cX12_lay 0 = .ok (.aload_n 0, 1) := by decide +kernel
theorem dX12_lay_1 : decode cX12_lay 1 = .ok (.iload_n 1, 1) := by decide +kernel
theorem dX12_lay_2 : decode cX12_lay 2 = .ok (.invokevirtual 185, 3) := by decide +kernel
theorem dX12_lay_5 : decode cX12_lay 5 = .ok (.ifCond .ne 6, 3) := by decide +kernel
theorem dX12_lay_8 : decode cX12_lay 8 = .ok (.bipush (-5), 2) := by decide +kernel
theorem dX12_lay_10 : decode cX12_lay 10 = .ok (.ireturn, 1) := by decide +kernel
theorem dX12_lay_11 : decode cX12_lay 11 = .ok (.iload_n 2, 1) := by decide +kernel
theorem dX12_lay_12 : decode cX12_lay 12 = .ok (.iconst 0, 1) := by decide +kernel
theorem dX12_lay_13 : decode cX12_lay 13 = .ok (.iconst 1, 1) := by decide +kernel
theorem dX12_lay_14 : decode cX12_lay 14 = .ok (.invokestatic 93, 3) := by decide +kernel
theorem dX12_lay_17 : decode cX12_lay 17 = .ok (.ifCond .ne 6, 3) := by decide +kernel
theorem dX12_lay_20 : decode cX12_lay 20 = .ok (.bipush (-7), 2) := by decide +kernel
theorem dX12_lay_22 : decode cX12_lay 22 = .ok (.ireturn, 1) := by decide +kernel
theorem dX12_lay_23 : decode cX12_lay 23 = .ok (.aload_n 0, 1) := by decide +kernel
theorem dX12_lay_24 : decode cX12_lay 24 = .ok (.getfield 26, 3) := by decide +kernel
theorem dX12_lay_27 : decode cX12_lay 27 = .ok (.iload_n 1, 1) := by decide +kernel
theorem dX12_lay_28 : decode cX12_lay 28 = .ok (.iaload, 1) := by decide +kernel
theorem dX12_lay_29 : decode cX12_lay 29 = .ok (.istore_n 3, 1) := by decide +kernel
theorem dX12_lay_30 : decode cX12_lay 30 = .ok (.iconst (-1), 1) := by decide +kernel
theorem dX12_lay_31 : decode cX12_lay 31 = .ok (.istore 4, 2) := by decide +kernel
theorem dX12_lay_33 : decode cX12_lay 33 = .ok (.iconst 0, 1) := by decide +kernel
theorem dX12_lay_34 : decode cX12_lay 34 = .ok (.istore 5, 2) := by decide +kernel
theorem dX12_lay_36 : decode cX12_lay 36 = .ok (.iconst 0, 1) := by decide +kernel
theorem dX12_lay_37 : decode cX12_lay 37 = .ok (.istore 6, 2) := by decide +kernel
theorem dX12_lay_39 : decode cX12_lay 39 = .ok (.iload 6, 2) := by decide +kernel
theorem dX12_lay_41 : decode cX12_lay 41 = .ok (.bipush 16, 2) := by decide +kernel
theorem dX12_lay_43 : decode cX12_lay 43 = .ok (.if_icmp .ge 115, 3) := by decide +kernel
theorem dX12_lay_46 : decode cX12_lay 46 = .ok (.aload_n 0, 1) := by decide +kernel
theorem dX12_lay_47 : decode cX12_lay 47 = .ok (.iload 6, 2) := by decide +kernel
theorem dX12_lay_49 : decode cX12_lay 49 = .ok (.invokevirtual 192, 3) := by decide +kernel
theorem dX12_lay_52 : decode cX12_lay 52 = .ok (.istore 7, 2) := by decide +kernel
theorem dX12_lay_54 : decode cX12_lay 54 = .ok (.iload 6, 2) := by decide +kernel
theorem dX12_lay_56 : decode cX12_lay 56 = .ok (.iload_n 3, 1) := by decide +kernel
theorem dX12_lay_57 : decode cX12_lay 57 = .ok (.if_icmp .eq 15, 3) := by decide +kernel
theorem dX12_lay_60 : decode cX12_lay 60 = .ok (.iload 7, 2) := by decide +kernel
theorem dX12_lay_62 : decode cX12_lay 62 = .ok (.iconst (-1), 1) := by decide +kernel
theorem dX12_lay_63 : decode cX12_lay 63 = .ok (.if_icmp .eq 9, 3) := by decide +kernel
theorem dX12_lay_66 : decode cX12_lay 66 = .ok (.iload 7, 2) := by decide +kernel
theorem dX12_lay_68 : decode cX12_lay 68 = .ok (.iload_n 1, 1) := by decide +kernel
theorem dX12_lay_69 : decode cX12_lay 69 = .ok (.if_icmp .ne 83, 3) := by decide +kernel
theorem dX12_lay_72 : decode cX12_lay 72 = .ok (.aload_n 0, 1) := by decide +kernel
theorem dX12_lay_73 : decode cX12_lay 73 = .ok (.getfield 26, 3) := by decide +kernel
theorem dX12_lay_76 : decode cX12_lay 76 = .ok (.iload_n 1, 1) := by decide +kernel
theorem dX12_lay_77 : decode cX12_lay 77 = .ok (.iload 6, 2) := by decide +kernel
theorem dX12_lay_79 : decode cX12_lay 79 = .ok (.iastore, 1) := by decide +kernel
theorem dX12_lay_80 : decode cX12_lay 80 = .ok (.aload_n 0, 1) := by decide +kernel
theorem dX12_lay_81 : decode cX12_lay 81 = .ok (.iload_n 1, 1) := by decide +kernel
theorem dX12_lay_82 : decode cX12_lay 82 = .ok (.invokevirtual 211, 3) := by decide +kernel
theorem dX12_lay_85 : decode cX12_lay 85 = .ok (.aload_n 0, 1) := by decide +kernel
theorem dX12_lay_86 : decode cX12_lay 86 = .ok (.iload_n 1, 1) := by decide +kernel
theorem dX12_lay_87 : decode cX12_lay 87 = .ok (.aload_n 0, 1) := by decide +kernel
theorem dX12_lay_88 : decode cX12_lay 88 = .ok (.iload_n 1, 1) := by decide +kernel
theorem dX12_lay_89 : decode cX12_lay 89 = .ok (.invokevirtual 217, 3) := by decide +kernel
theorem dX12_lay_92 : decode cX12_lay 92 = .ok (.invokevirtual 220, 3) := by decide +kernel
theorem dX12_lay_95 : decode cX12_lay 95 = .ok (.istore 8, 2) := by decide +kernel
theorem dX12_lay_97 : decode cX12_lay 97 = .ok (.aload_n 0, 1) := by decide +kernel
theorem dX12_lay_98 : decode cX12_lay 98 = .ok (.getfield 26, 3) := by decide +kernel
theorem dX12_lay_101 : decode cX12_lay 101 = .ok (.iload_n 1, 1) := by decide +kernel
theorem dX12_lay_102 : decode cX12_lay 102 = .ok (.iload_n 3, 1) := by decide +kernel
theorem dX12_lay_103 : decode cX12_lay 103 = .ok (.iastore, 1) := by decide +kernel
theorem dX12_lay_104 : decode cX12_lay 104 = .ok (.iload 4, 2) := by decide +kernel
theorem dX12_lay_106 : decode cX12_lay 106 = .ok (.iconst (-1), 1) := by decide +kernel
theorem dX12_lay_107 : decode cX12_lay 107 = .ok (.if_icmp .eq 10, 3) := by decide +kernel
theorem dX12_lay_110 : decode cX12_lay 110 = .ok (.iload 8, 2) := by decide +kernel
theorem dX12_lay_112 : decode cX12_lay 112 = .ok (.iload 5, 2) := by decide +kernel
theorem dX12_lay_114 : decode cX12_lay 114 = .ok (.if_icmp .ge 7, 3) := by decide +kernel
theorem dX12_lay_117 : decode cX12_lay 117 = .ok (.iconst 1, 1) := by decide +kernel
theorem dX12_lay_118 : decode cX12_lay 118 = .ok (.goto 4, 3) := by decide +kernel
theorem dX12_lay_121 : decode cX12_lay 121 = .ok (.iconst 0, 1) := by decide +kernel
theorem dX12_lay_122 : decode cX12_lay 122 = .ok (.istore 9, 2) := by decide +kernel
theorem dX12_lay_124 : decode cX12_lay 124 = .ok (.iload 9, 2) := by decide +kernel
theorem dX12_lay_126 : decode cX12_lay 126 = .ok (.ifCond .eq 8, 3) := by decide +kernel
theorem dX12_lay_129 : decode cX12_lay 129 = .ok (.iload 6, 2) := by decide +kernel
theorem dX12_lay_131 : decode cX12_lay 131 = .ok (.goto 5, 3) := by decide +kernel
theorem dX12_lay_134 : decode cX12_lay 134 = .ok (.iload 4, 2) := by decide +kernel
theorem dX12_lay_136 : decode cX12_lay 136 = .ok (.istore 4, 2) := by decide +kernel
theorem dX12_lay_138 : decode cX12_lay 138 = .ok (.iload 9, 2) := by decide +kernel
theorem dX12_lay_140 : decode cX12_lay 140 = .ok (.ifCond .eq 8, 3) := by decide +kernel
theorem dX12_lay_143 : decode cX12_lay 143 = .ok (.iload 8, 2) := by decide +kernel
theorem dX12_lay_145 : decode cX12_lay 145 = .ok (.goto 5, 3) := by decide +kernel
theorem dX12_lay_148 : decode cX12_lay 148 = .ok (.iload 5, 2) := by decide +kernel
theorem dX12_lay_150 : decode cX12_lay 150 = .ok (.istore 5, 2) := by decide +kernel
theorem dX12_lay_152 : decode cX12_lay 152 = .ok (.iinc 6 1, 3) := by decide +kernel
theorem dX12_lay_155 : decode cX12_lay 155 = .ok (.goto (-116), 3) := by decide +kernel
theorem dX12_lay_158 : decode cX12_lay 158 = .ok (.iload_n 2, 1) := by decide +kernel
theorem dX12_lay_159 : decode cX12_lay 159 = .ok (.ifCond .ne 8, 3) := by decide +kernel
theorem dX12_lay_162 : decode cX12_lay 162 = .ok (.iload 4, 2) := by decide +kernel
theorem dX12_lay_164 : decode cX12_lay 164 = .ok (.goto 5, 3) := by decide +kernel
theorem dX12_lay_167 : decode cX12_lay 167 = .ok (.iload 5, 2) := by decide +kernel
theorem dX12_lay_169 : decode cX12_lay 169 = .ok (.ireturn, 1) := by decide +kernel
theorem dX12_swaps_0 : decode cX12_swaps 0 = .ok (.aload_n 0, 1) := by decide +kernel
theorem dX12_swaps_1 : decode cX12_swaps 1 = .ok (.getfield 26, 3) := by decide +kernel
theorem dX12_swaps_4 : decode cX12_swaps 4 = .ok (.iload_n 1, 1) := by decide +kernel
theorem dX12_swaps_5 : decode cX12_swaps 5 = .ok (.iaload, 1) := by decide +kernel
theorem dX12_swaps_6 : decode cX12_swaps 6 = .ok (.istore_n 3, 1) := by decide +kernel
theorem dX12_swaps_7 : decode cX12_swaps 7 = .ok (.aload_n 0, 1) := by decide +kernel
theorem dX12_swaps_8 : decode cX12_swaps 8 = .ok (.getfield 26, 3) := by decide +kernel
theorem dX12_swaps_11 : decode cX12_swaps 11 = .ok (.iload_n 1, 1) := by decide +kernel
theorem dX12_swaps_12 : decode cX12_swaps 12 = .ok (.aload_n 0, 1) := by decide +kernel
theorem dX12_swaps_13 : decode cX12_swaps 13 = .ok (.getfield 26, 3) := by decide +kernel
theorem dX12_swaps_16 : decode cX12_swaps 16 = .ok (.iload_n 2, 1) := by decide +kernel
theorem dX12_swaps_17 : decode cX12_swaps 17 = .ok (.iaload, 1) := by decide +kernel
theorem dX12_swaps_18 : decode cX12_swaps 18 = .ok (.iastore, 1) := by decide +kernel
theorem dX12_swaps_19 : decode cX12_swaps 19 = .ok (.aload_n 0, 1) := by decide +kernel
theorem dX12_swaps_20 : decode cX12_swaps 20 = .ok (.getfield 26, 3) := by decide +kernel
theorem dX12_swaps_23 : decode cX12_swaps 23 = .ok (.iload_n 2, 1) := by decide +kernel
theorem dX12_swaps_24 : decode cX12_swaps 24 = .ok (.iload_n 3, 1) := by decide +kernel
theorem dX12_swaps_25 : decode cX12_swaps 25 = .ok (.iastore, 1) := by decide +kernel
theorem dX12_swaps_26 : decode cX12_swaps 26 = .ok (.return_, 1) := by decide +kernel
theorem dX12_swap_0 : decode cX12_swap 0 = .ok (.iload_n 1, 1) := by decide +kernel
theorem dX12_swap_1 : decode cX12_swap 1 = .ok (.iconst 0, 1) := by decide +kernel
theorem dX12_swap_2 : decode cX12_swap 2 = .ok (.iconst 1, 1) := by decide +kernel
theorem dX12_swap_3 : decode cX12_swap 3 = .ok (.invokestatic 93, 3) := by decide +kernel
theorem dX12_swap_6 : decode cX12_swap 6 = .ok (.ifCond .ne 6, 3) := by decide +kernel
theorem dX12_swap_9 : decode cX12_swap 9 = .ok (.bipush (-2), 2) := by decide +kernel
theorem dX12_swap_11 : decode cX12_swap 11 = .ok (.ireturn, 1) := by decide +kernel
theorem dX12_swap_12 : decode cX12_swap 12 = .ok (.iconst (-1), 1) := by decide +kernel
theorem dX12_swap_13 : decode cX12_swap 13 = .ok (.istore_n 2, 1) := by decide +kernel
theorem dX12_swap_14 : decode cX12_swap 14 = .ok (.aload_n 0, 1) := by decide +kernel
theorem dX12_swap_15 : decode cX12_swap 15 = .ok (.invokevirtual 254, 3) := by decide +kernel
theorem dX12_swap_18 : decode cX12_swap 18 = .ok (.istore_n 3, 1) := by decide +kernel
theorem dX12_swap_19 : decode cX12_swap 19 = .ok (.iconst 0, 1) := by decide +kernel
theorem dX12_swap_20 : decode cX12_swap 20 = .ok (.istore 4, 2) := by decide +kernel
theorem dX12_swap_22 : decode cX12_swap 22 = .ok (.iload 4, 2) := by decide +kernel
theorem dX12_swap_24 : decode cX12_swap 24 = .ok (.aload_n 0, 1) := by decide +kernel
theorem dX12_swap_25 : decode cX12_swap 25 = .ok (.getfield 90, 3) := by decide +kernel
theorem dX12_swap_28 : decode cX12_swap 28 = .ok (.if_icmp .ge 84, 3) := by decide +kernel
theorem dX12_swap_31 : decode cX12_swap 31 = .ok (.iload 4, 2) := by decide +kernel
theorem dX12_swap_33 : decode cX12_swap 33 = .ok (.iconst 1, 1) := by decide +kernel
theorem dX12_swap_34 : decode cX12_swap 34 = .ok (.iadd, 1) := by decide +kernel
theorem dX12_swap_35 : decode cX12_swap 35 = .ok (.istore 5, 2) := by decide +kernel
theorem dX12_swap_37 : decode cX12_swap 37 = .ok (.iload 5, 2) := by decide +kernel
theorem dX12_swap_39 : decode cX12_swap 39 = .ok (.aload_n 0, 1) := by decide +kernel
theorem dX12_swap_40 : decode cX12_swap 40 = .ok (.getfield 90, 3) := by decide +kernel
theorem dX12_swap_43 : decode cX12_swap 43 = .ok (.if_icmp .ge 63, 3) := by decide +kernel
theorem dX12_swap_46 : decode cX12_swap 46 = .ok (.aload_n 0, 1) := by decide +kernel
theorem dX12_swap_47 : decode cX12_swap 47 = .ok (.iload 4, 2) := by decide +kernel
theorem dX12_swap_49 : decode cX12_swap 49 = .ok (.iload 5, 2) := by decide +kernel
theorem dX12_swap_51 : decode cX12_swap 51 = .ok (.invokevirtual 272, 3) := by decide +kernel
theorem dX12_swap_54 : decode cX12_swap 54 = .ok (.aload_n 0, 1) := by decide +kernel
theorem dX12_swap_55 : decode cX12_swap 55 = .ok (.invokevirtual 254, 3) := by decide +kernel
theorem dX12_swap_58 : decode cX12_swap 58 = .ok (.istore 6, 2) := by decide +kernel
theorem dX12_swap_60 : decode cX12_swap 60 = .ok (.aload_n 0, 1) := by decide +kernel
theorem dX12_swap_61 : decode cX12_swap 61 = .ok (.iload 4, 2) := by decide +kernel
theorem dX12_swap_63 : decode cX12_swap 63 = .ok (.iload 5, 2) := by decide +kernel
theorem dX12_swap_65 : decode cX12_swap 65 = .ok (.invokevirtual 272, 3) := by decide +kernel
theorem dX12_swap_68 : decode cX12_swap 68 = .ok (.iload 6, 2) := by decide +kernel
theorem dX12_swap_70 : decode cX12_swap 70 = .ok (.iload_n 3, 1) := by decide +kernel
theorem dX12_swap_71 : decode cX12_swap 71 = .ok (.if_icmp .ge 14, 3) := by decide +kernel
theorem dX12_swap_74 : decode cX12_swap 74 = .ok (.bipush 10, 2) := by decide +kernel
theorem dX12_swap_76 : decode cX12_swap 76 = .ok (.iload 4, 2) := by decide +kernel
theorem dX12_swap_78 : decode cX12_swap 78 = .ok (.imul, 1) := by decide +kernel
theorem dX12_swap_79 : decode cX12_swap 79 = .ok (.iload 5, 2) := by decide +kernel
theorem dX12_swap_81 : decode cX12_swap 81 = .ok (.iadd, 1) := by decide +kernel
