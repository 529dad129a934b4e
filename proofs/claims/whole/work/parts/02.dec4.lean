theorem dX7_common_158 : decode cX7_common 158 = .ok (.iload 5, 2) := by decide +kernel
theorem dX7_common_160 : decode cX7_common 160 = .ok (.iload 6, 2) := by decide +kernel
theorem dX7_common_162 : decode cX7_common 162 = .ok (.invokevirtual 129, 3) := by decide +kernel
theorem dX7_common_165 : decode cX7_common 165 = .ok (.istore 8, 2) := by decide +kernel
theorem dX7_common_167 : decode cX7_common 167 = .ok (.goto (-83), 3) := by decide +kernel
theorem dX7_common_170 : decode cX7_common 170 = .ok (.aload_n 0, 1) := by decide +kernel
theorem dX7_common_171 : decode cX7_common 171 = .ok (.bipush 20, 2) := by decide +kernel
theorem dX7_common_173 : decode cX7_common 173 = .ok (.iload 6, 2) := by decide +kernel
theorem dX7_common_175 : decode cX7_common 175 = .ok (.invokevirtual 61, 3) := by decide +kernel
theorem dX7_common_178 : decode cX7_common 178 = .ok (.iload 7, 2) := by decide +kernel
theorem dX7_common_180 : decode cX7_common 180 = .ok (.iconst 1, 1) := by decide +kernel
theorem dX7_common_181 : decode cX7_common 181 = .ok (.iadd, 1) := by decide +kernel
theorem dX7_common_182 : decode cX7_common 182 = .ok (.istore 4, 2) := by decide +kernel
theorem dX7_common_184 : decode cX7_common 184 = .ok (.iload 8, 2) := by decide +kernel
theorem dX7_common_186 : decode cX7_common 186 = .ok (.iconst 1, 1) := by decide +kernel
theorem dX7_common_187 : decode cX7_common 187 = .ok (.iadd, 1) := by decide +kernel
theorem dX7_common_188 : decode cX7_common 188 = .ok (.istore 5, 2) := by decide +kernel
theorem dX7_common_190 : decode cX7_common 190 = .ok (.goto (-147), 3) := by decide +kernel
theorem dX7_common_193 : decode cX7_common 193 = .ok (.aload_n 0, 1) := by decide +kernel
theorem dX7_common_194 : decode cX7_common 194 = .ok (.iload_n 1, 1) := by decide +kernel
theorem dX7_common_195 : decode cX7_common 195 = .ok (.bipush 20, 2) := by decide +kernel
theorem dX7_common_197 : decode cX7_common 197 = .ok (.invokevirtual 69, 3) := by decide +kernel
theorem dX7_common_200 : decode cX7_common 200 = .ok (.aload_n 0, 1) := by decide +kernel
theorem dX7_common_201 : decode cX7_common 201 = .ok (.getfield 13, 3) := by decide +kernel
theorem dX7_common_204 : decode cX7_common 204 = .ok (.iload_n 1, 1) := by decide +kernel
theorem dX7_common_205 : decode cX7_common 205 = .ok (.iaload, 1) := by decide +kernel
theorem dX7_common_206 : decode cX7_common 206 = .ok (.ireturn, 1) := by decide +kernel
theorem dX7_commons_0 : decode cX7_commons 0 = .ok (.iload_n 1, 1) := by decide +kernel
theorem dX7_commons_1 : decode cX7_commons 1 = .ok (.invokestatic 53, 3) := by decide +kernel
theorem dX7_commons_4 : decode cX7_commons 4 = .ok (.ifCond .eq 10, 3) := by decide +kernel
theorem dX7_commons_7 : decode cX7_commons 7 = .ok (.iload_n 2, 1) := by decide +kernel
theorem dX7_commons_8 : decode cX7_commons 8 = .ok (.invokestatic 53, 3) := by decide +kernel
theorem dX7_commons_11 : decode cX7_commons 11 = .ok (.ifCond .ne 7, 3) := by decide +kernel
theorem dX7_commons_14 : decode cX7_commons 14 = .ok (.ldc2_w 124, 3) := by decide +kernel
theorem dX7_commons_17 : decode cX7_commons 17 = .ok (.lreturn, 1) := by decide +kernel
theorem dX7_commons_18 : decode cX7_commons 18 = .ok (.aload_n 0, 1) := by decide +kernel
theorem dX7_commons_19 : decode cX7_commons 19 = .ok (.iload_n 1, 1) := by decide +kernel
theorem dX7_commons_20 : decode cX7_commons 20 = .ok (.iload_n 2, 1) := by decide +kernel
theorem dX7_commons_21 : decode cX7_commons 21 = .ok (.invokevirtual 126, 3) := by decide +kernel
theorem dX7_commons_24 : decode cX7_commons 24 = .ok (.aload_n 0, 1) := by decide +kernel
theorem dX7_commons_25 : decode cX7_commons 25 = .ok (.getfield 13, 3) := by decide +kernel
theorem dX7_commons_28 : decode cX7_commons 28 = .ok (.iload_n 1, 1) := by decide +kernel
theorem dX7_commons_29 : decode cX7_commons 29 = .ok (.iaload, 1) := by decide +kernel
theorem dX7_commons_30 : decode cX7_commons 30 = .ok (.istore_n 3, 1) := by decide +kernel
theorem dX7_commons_31 : decode cX7_commons 31 = .ok (.iload_n 3, 1) := by decide +kernel
theorem dX7_commons_32 : decode cX7_commons 32 = .ok (.ifCond .lt 214, 3) := by decide +kernel
theorem dX7_commons_35 : decode cX7_commons 35 = .ok (.aload_n 0, 1) := by decide +kernel
theorem dX7_commons_36 : decode cX7_commons 36 = .ok (.getfield 13, 3) := by decide +kernel
theorem dX7_commons_39 : decode cX7_commons 39 = .ok (.iload_n 2, 1) := by decide +kernel
theorem dX7_commons_40 : decode cX7_commons 40 = .ok (.iaload, 1) := by decide +kernel
theorem dX7_commons_41 : decode cX7_commons 41 = .ok (.istore 4, 2) := by decide +kernel
theorem dX7_commons_43 : decode cX7_commons 43 = .ok (.iload 4, 2) := by decide +kernel
theorem dX7_commons_45 : decode cX7_commons 45 = .ok (.ifCond .lt 195, 3) := by decide +kernel
theorem dX7_commons_48 : decode cX7_commons 48 = .ok (.aload_n 0, 1) := by decide +kernel
theorem dX7_commons_49 : decode cX7_commons 49 = .ok (.getfield 34, 3) := by decide +kernel
theorem dX7_commons_52 : decode cX7_commons 52 = .ok (.bipush 30, 2) := by decide +kernel
theorem dX7_commons_54 : decode cX7_commons 54 = .ok (.iload_n 3, 1) := by decide +kernel
theorem dX7_commons_55 : decode cX7_commons 55 = .ok (.imul, 1) := by decide +kernel
theorem dX7_commons_56 : decode cX7_commons 56 = .ok (.iload 4, 2) := by decide +kernel
theorem dX7_commons_58 : decode cX7_commons 58 = .ok (.iadd, 1) := by decide +kernel
theorem dX7_commons_59 : decode cX7_commons 59 = .ok (.iaload, 1) := by decide +kernel
theorem dX7_commons_60 : decode cX7_commons 60 = .ok (.ifCond .ne 7, 3) := by decide +kernel
theorem dX7_commons_63 : decode cX7_commons 63 = .ok (.lconst 1, 1) := by decide +kernel
theorem dX7_commons_64 : decode cX7_commons 64 = .ok (.goto 4, 3) := by decide +kernel
theorem dX7_commons_67 : decode cX7_commons 67 = .ok (.lconst 0, 1) := by decide +kernel
theorem dX7_commons_68 : decode cX7_commons 68 = .ok (.lstore 5, 2) := by decide +kernel
theorem dX7_commons_70 : decode cX7_commons 70 = .ok (.iconst 0, 1) := by decide +kernel
theorem dX7_commons_71 : decode cX7_commons 71 = .ok (.istore 7, 2) := by decide +kernel
theorem dX7_commons_73 : decode cX7_commons 73 = .ok (.iload 7, 2) := by decide +kernel
theorem dX7_commons_75 : decode cX7_commons 75 = .ok (.aload_n 0, 1) := by decide +kernel
theorem dX7_commons_76 : decode cX7_commons 76 = .ok (.getfield 7, 3) := by decide +kernel
theorem dX7_commons_79 : decode cX7_commons 79 = .ok (.if_icmp .ge 141, 3) := by decide +kernel
theorem dX7_commons_82 : decode cX7_commons 82 = .ok (.aload_n 0, 1) := by decide +kernel
theorem dX7_commons_83 : decode cX7_commons 83 = .ok (.iload_n 1, 1) := by decide +kernel
theorem dX7_commons_84 : decode cX7_commons 84 = .ok (.iload_n 3, 1) := by decide +kernel
theorem dX7_commons_85 : decode cX7_commons 85 = .ok (.iload 7, 2) := by decide +kernel
theorem dX7_commons_87 : decode cX7_commons 87 = .ok (.invokevirtual 129, 3) := by decide +kernel
theorem dX7_commons_90 : decode cX7_commons 90 = .ok (.istore 8, 2) := by decide +kernel
theorem dX7_commons_92 : decode cX7_commons 92 = .ok (.aload_n 0, 1) := by decide +kernel
theorem dX7_commons_93 : decode cX7_commons 93 = .ok (.iload_n 2, 1) := by decide +kernel
theorem dX7_commons_94 : decode cX7_commons 94 = .ok (.iload 4, 2) := by decide +kernel
theorem dX7_commons_96 : decode cX7_commons 96 = .ok (.iload 7, 2) := by decide +kernel
theorem dX7_commons_98 : decode cX7_commons 98 = .ok (.invokevirtual 129, 3) := by decide +kernel
theorem dX7_commons_101 : decode cX7_commons 101 = .ok (.istore 9, 2) := by decide +kernel
theorem dX7_commons_103 : decode cX7_commons 103 = .ok (.aload_n 0, 1) := by decide +kernel
theorem dX7_commons_104 : decode cX7_commons 104 = .ok (.getfield 34, 3) := by decide +kernel
theorem dX7_commons_107 : decode cX7_commons 107 = .ok (.bipush 30, 2) := by decide +kernel
theorem dX7_commons_109 : decode cX7_commons 109 = .ok (.iload_n 3, 1) := by decide +kernel
theorem dX7_commons_110 : decode cX7_commons 110 = .ok (.imul, 1) := by decide +kernel
theorem dX7_commons_111 : decode cX7_commons 111 = .ok (.iload 4, 2) := by decide +kernel
theorem dX7_commons_113 : decode cX7_commons 113 = .ok (.iadd, 1) := by decide +kernel
theorem dX7_commons_114 : decode cX7_commons 114 = .ok (.iaload, 1) := by decide +kernel
theorem dX7_commons_115 : decode cX7_commons 115 = .ok (.ifCond .le 64, 3) := by decide +kernel
theorem dX7_commons_118 : decode cX7_commons 118 = .ok (.iload 8, 2) := by decide +kernel
theorem dX7_commons_120 : decode cX7_commons 120 = .ok (.aload_n 0, 1) := by decide +kernel
theorem dX7_commons_121 : decode cX7_commons 121 = .ok (.getfield 13, 3) := by decide +kernel
theorem dX7_commons_124 : decode cX7_commons 124 = .ok (.iload_n 1, 1) := by decide +kernel
theorem dX7_commons_125 : decode cX7_commons 125 = .ok (.iaload, 1) := by decide +kernel
theorem dX7_commons_126 : decode cX7_commons 126 = .ok (.if_icmp .ge 53, 3) := by decide +kernel
theorem dX7_commons_129 : decode cX7_commons 129 = .ok (.iload 9, 2) := by decide +kernel
theorem dX7_commons_131 : decode cX7_commons 131 = .ok (.aload_n 0, 1) := by decide +kernel
theorem dX7_commons_132 : decode cX7_commons 132 = .ok (.getfield 13, 3) := by decide +kernel
theorem dX7_commons_135 : decode cX7_commons 135 = .ok (.iload_n 2, 1) := by decide +kernel
theorem dX7_commons_136 : decode cX7_commons 136 = .ok (.iaload, 1) := by decide +kernel
theorem dX7_commons_137 : decode cX7_commons 137 = .ok (.if_icmp .ge 42, 3) := by decide +kernel
theorem dX7_commons_140 : decode cX7_commons 140 = .ok (.aload_n 0, 1) := by decide +kernel
theorem dX7_commons_141 : decode cX7_commons 141 = .ok (.getfield 34, 3) := by decide +kernel
theorem dX7_commons_144 : decode cX7_commons 144 = .ok (.bipush 30, 2) := by decide +kernel
theorem dX7_commons_146 : decode cX7_commons 146 = .ok (.iload 8, 2) := by decide +kernel
theorem dX7_commons_148 : decode cX7_commons 148 = .ok (.imul, 1) := by decide +kernel
theorem dX7_commons_149 : decode cX7_commons 149 = .ok (.bipush 30, 2) := by decide +kernel
theorem dX7_commons_151 : decode cX7_commons 151 = .ok (.iadd, 1) := by decide +kernel
theorem dX7_commons_152 : decode cX7_commons 152 = .ok (.iload 9, 2) := by decide +kernel
theorem dX7_commons_154 : decode cX7_commons 154 = .ok (.iadd, 1) := by decide +kernel
theorem dX7_commons_155 : decode cX7_commons 155 = .ok (.iconst 1, 1) := by decide +kernel
theorem dX7_commons_156 : decode cX7_commons 156 = .ok (.iadd, 1) := by decide +kernel
theorem dX7_commons_157 : decode cX7_commons 157 = .ok (.iaload, 1) := by decide +kernel
theorem dX7_commons_158 : decode cX7_commons 158 = .ok (.iconst 1, 1) := by decide +kernel
theorem dX7_commons_159 : decode cX7_commons 159 = .ok (.iadd, 1) := by decide +kernel
theorem dX7_commons_160 : decode cX7_commons 160 = .ok (.aload_n 0, 1) := by decide +kernel
theorem dX7_commons_161 : decode cX7_commons 161 = .ok (.getfield 34, 3) := by decide +kernel
theorem dX7_commons_164 : decode cX7_commons 164 = .ok (.bipush 30, 2) := by decide +kernel
theorem dX7_commons_166 : decode cX7_commons 166 = .ok (.iload_n 3, 1) := by decide +kernel
theorem dX7_commons_167 : decode cX7_commons 167 = .ok (.imul, 1) := by decide +kernel
theorem dX7_commons_168 : decode cX7_commons 168 = .ok (.iload 4, 2) := by decide +kernel
theorem dX7_commons_170 : decode cX7_commons 170 = .ok (.iadd, 1) := by decide +kernel
theorem dX7_commons_171 : decode cX7_commons 171 = .ok (.iaload, 1) := by decide +kernel
theorem dX7_commons_172 : decode cX7_commons 172 = .ok (.if_icmp .ne 7, 3) := by decide +kernel
theorem dX7_commons_175 : decode cX7_commons 175 = .ok (.iconst 1, 1) := by decide +kernel
theorem dX7_commons_176 : decode cX7_commons 176 = .ok (.goto 4, 3) := by decide +kernel
theorem dX7_commons_179 : decode cX7_commons 179 = .ok (.iconst 0, 1) := by decide +kernel
theorem dX7_commons_180 : decode cX7_commons 180 = .ok (.istore 10, 2) := by decide +kernel
theorem dX7_commons_182 : decode cX7_commons 182 = .ok (.lload 5, 2) := by decide +kernel
theorem dX7_commons_184 : decode cX7_commons 184 = .ok (.iload 10, 2) := by decide +kernel
theorem dX7_commons_186 : decode cX7_commons 186 = .ok (.ifCond .eq 24, 3) := by decide +kernel
theorem dX7_commons_189 : decode cX7_commons 189 = .ok (.aload_n 0, 1) := by decide +kernel
theorem dX7_commons_190 : decode cX7_commons 190 = .ok (.getfield 30, 3) := by decide +kernel
theorem dX7_commons_193 : decode cX7_commons 193 = .ok (.bipush 30, 2) := by decide +kernel
theorem dX7_commons_195 : decode cX7_commons 195 = .ok (.iload 8, 2) := by decide +kernel
theorem dX7_commons_197 : decode cX7_commons 197 = .ok (.imul, 1) := by decide +kernel
theorem dX7_commons_198 : decode cX7_commons 198 = .ok (.bipush 30, 2) := by decide +kernel
theorem dX7_commons_200 : decode cX7_commons 200 = .ok (.iadd, 1) := by decide +kernel
theorem dX7_commons_201 : decode cX7_commons 201 = .ok (.iload 9, 2) := by decide +kernel
theorem dX7_commons_203 : decode cX7_commons 203 = .ok (.iadd, 1) := by decide +kernel
theorem dX7_commons_204 : decode cX7_commons 204 = .ok (.iconst 1, 1) := by decide +kernel
theorem dX7_commons_205 : decode cX7_commons 205 = .ok (.iadd, 1) := by decide +kernel
theorem dX7_commons_206 : decode cX7_commons 206 = .ok (.laload, 1) := by decide +kernel
theorem dX7_commons_207 : decode cX7_commons 207 = .ok (.goto 4, 3) := by decide +kernel
theorem dX7_commons_210 : decode cX7_commons 210 = .ok (.lconst 0, 1) := by decide +kernel
theorem dX7_commons_211 : decode cX7_commons 211 = .ok (.ladd, 1) := by decide +kernel
theorem dX7_commons_212 : decode cX7_commons 212 = .ok (.lstore 5, 2) := by decide +kernel
theorem dX7_commons_214 : decode cX7_commons 214 = .ok (.iinc 7 1, 3) := by decide +kernel
theorem dX7_commons_217 : decode cX7_commons 217 = .ok (.goto (-144), 3) := by decide +kernel
theorem dX7_commons_220 : decode cX7_commons 220 = .ok (.aload_n 0, 1) := by decide +kernel
theorem dX7_commons_221 : decode cX7_commons 221 = .ok (.getfield 30, 3) := by decide +kernel
theorem dX7_commons_224 : decode cX7_commons 224 = .ok (.bipush 30, 2) := by decide +kernel
theorem dX7_commons_226 : decode cX7_commons 226 = .ok (.iload_n 3, 1) := by decide +kernel
theorem dX7_commons_227 : decode cX7_commons 227 = .ok (.imul, 1) := by decide +kernel
theorem dX7_commons_228 : decode cX7_commons 228 = .ok (.iload 4, 2) := by decide +kernel
theorem dX7_commons_230 : decode cX7_commons 230 = .ok (.iadd, 1) := by decide +kernel
theorem dX7_commons_231 : decode cX7_commons 231 = .ok (.lload 5, 2) := by decide +kernel
theorem dX7_commons_233 : decode cX7_commons 233 = .ok (.lastore, 1) := by decide +kernel
theorem dX7_commons_234 : decode cX7_commons 234 = .ok (.iinc 4 (-1), 3) := by decide +kernel
theorem dX7_commons_237 : decode cX7_commons 237 = .ok (.goto (-194), 3) := by decide +kernel
theorem dX7_commons_240 : decode cX7_commons 240 = .ok (.iinc 3 (-1), 3) := by decide +kernel
theorem dX7_commons_243 : decode cX7_commons 243 = .ok (.goto (-212), 3) := by decide +kernel
theorem dX7_commons_246 : decode cX7_commons 246 = .ok (.aload_n 0, 1) := by decide +kernel
theorem dX7_commons_247 : decode cX7_commons 247 = .ok (.getfield 30, 3) := by decide +kernel
theorem dX7_commons_250 : decode cX7_commons 250 = .ok (.iconst 0, 1) := by decide +kernel
theorem dX7_commons_251 : decode cX7_commons 251 = .ok (.laload, 1) := by decide +kernel
theorem dX7_commons_252 : decode cX7_commons 252 = .ok (.lreturn, 1) := by decide +kernel
theorem dX7_editsBetween_0 : decode cX7_editsBetween 0 = .ok (.aload_n 0, 1) := by decide +kernel
theorem dX7_editsBetween_1 : decode cX7_editsBetween 1 = .ok (.getfield 13, 3) := by decide +kernel
theorem dX7_editsBetween_4 : decode cX7_editsBetween 4 = .ok (.iload_n 1, 1) := by decide +kernel
theorem dX7_editsBetween_5 : decode cX7_editsBetween 5 = .ok (.iaload, 1) := by decide +kernel
theorem dX7_editsBetween_6 : decode cX7_editsBetween 6 = .ok (.istore_n 3, 1) := by decide +kernel
theorem dX7_editsBetween_7 : decode cX7_editsBetween 7 = .ok (.iload_n 3, 1) := by decide +kernel
theorem dX7_editsBetween_8 : decode cX7_editsBetween 8 = .ok (.ifCond .lt 203, 3) := by decide +kernel
theorem dX7_editsBetween_11 : decode cX7_editsBetween 11 = .ok (.aload_n 0, 1) := by decide +kernel
theorem dX7_editsBetween_12 : decode cX7_editsBetween 12 = .ok (.getfield 13, 3) := by decide +kernel
theorem dX7_editsBetween_15 : decode cX7_editsBetween 15 = .ok (.iload_n 2, 1) := by decide +kernel
theorem dX7_editsBetween_16 : decode cX7_editsBetween 16 = .ok (.iaload, 1) := by decide +kernel
theorem dX7_editsBetween_17 : decode cX7_editsBetween 17 = .ok (.istore 4, 2) := by decide +kernel
theorem dX7_editsBetween_19 : decode cX7_editsBetween 19 = .ok (.iload 4, 2) := by decide +kernel
theorem dX7_editsBetween_21 : decode cX7_editsBetween 21 = .ok (.ifCond .lt 184, 3) := by decide +kernel
theorem dX7_editsBetween_24 : decode cX7_editsBetween 24 = .ok (.aload_n 0, 1) := by decide +kernel
theorem dX7_editsBetween_25 : decode cX7_editsBetween 25 = .ok (.getfield 13, 3) := by decide +kernel
theorem dX7_editsBetween_28 : decode cX7_editsBetween 28 = .ok (.iload_n 1, 1) := by decide +kernel
theorem dX7_editsBetween_29 : decode cX7_editsBetween 29 = .ok (.iaload, 1) := by decide +kernel
theorem dX7_editsBetween_30 : decode cX7_editsBetween 30 = .ok (.iload_n 3, 1) := by decide +kernel
theorem dX7_editsBetween_31 : decode cX7_editsBetween 31 = .ok (.isub, 1) := by decide +kernel
theorem dX7_editsBetween_32 : decode cX7_editsBetween 32 = .ok (.aload_n 0, 1) := by decide +kernel
theorem dX7_editsBetween_33 : decode cX7_editsBetween 33 = .ok (.getfield 13, 3) := by decide +kernel
theorem dX7_editsBetween_36 : decode cX7_editsBetween 36 = .ok (.iload_n 2, 1) := by decide +kernel
theorem dX7_editsBetween_37 : decode cX7_editsBetween 37 = .ok (.iaload, 1) := by decide +kernel
theorem dX7_editsBetween_38 : decode cX7_editsBetween 38 = .ok (.iadd, 1) := by decide +kernel
theorem dX7_editsBetween_39 : decode cX7_editsBetween 39 = .ok (.iload 4, 2) := by decide +kernel
theorem dX7_editsBetween_41 : decode cX7_editsBetween 41 = .ok (.isub, 1) := by decide +kernel
theorem dX7_editsBetween_42 : decode cX7_editsBetween 42 = .ok (.istore 5, 2) := by decide +kernel
theorem dX7_editsBetween_44 : decode cX7_editsBetween 44 = .ok (.iload_n 3, 1) := by decide +kernel
theorem dX7_editsBetween_45 : decode cX7_editsBetween 45 = .ok (.aload_n 0, 1) := by decide +kernel
theorem dX7_editsBetween_46 : decode cX7_editsBetween 46 = .ok (.getfield 13, 3) := by decide +kernel
theorem dX7_editsBetween_49 : decode cX7_editsBetween 49 = .ok (.iload_n 1, 1) := by decide +kernel
theorem dX7_editsBetween_50 : decode cX7_editsBetween 50 = .ok (.iaload, 1) := by decide +kernel
theorem dX7_editsBetween_51 : decode cX7_editsBetween 51 = .ok (.if_icmp .ge 134, 3) := by decide +kernel
theorem dX7_editsBetween_54 : decode cX7_editsBetween 54 = .ok (.iload 4, 2) := by decide +kernel
theorem dX7_editsBetween_56 : decode cX7_editsBetween 56 = .ok (.aload_n 0, 1) := by decide +kernel
theorem dX7_editsBetween_57 : decode cX7_editsBetween 57 = .ok (.getfield 13, 3) := by decide +kernel
theorem dX7_editsBetween_60 : decode cX7_editsBetween 60 = .ok (.iload_n 2, 1) := by decide +kernel
theorem dX7_editsBetween_61 : decode cX7_editsBetween 61 = .ok (.iaload, 1) := by decide +kernel
theorem dX7_editsBetween_62 : decode cX7_editsBetween 62 = .ok (.if_icmp .ge 123, 3) := by decide +kernel
theorem dX7_editsBetween_65 : decode cX7_editsBetween 65 = .ok (.aload_n 0, 1) := by decide +kernel
theorem dX7_editsBetween_66 : decode cX7_editsBetween 66 = .ok (.getfield 34, 3) := by decide +kernel
theorem dX7_editsBetween_69 : decode cX7_editsBetween 69 = .ok (.bipush 30, 2) := by decide +kernel
theorem dX7_editsBetween_71 : decode cX7_editsBetween 71 = .ok (.iload_n 3, 1) := by decide +kernel
theorem dX7_editsBetween_72 : decode cX7_editsBetween 72 = .ok (.imul, 1) := by decide +kernel
theorem dX7_editsBetween_73 : decode cX7_editsBetween 73 = .ok (.bipush 30, 2) := by decide +kernel
theorem dX7_editsBetween_75 : decode cX7_editsBetween 75 = .ok (.iadd, 1) := by decide +kernel
theorem dX7_editsBetween_76 : decode cX7_editsBetween 76 = .ok (.iload 4, 2) := by decide +kernel
theorem dX7_editsBetween_78 : decode cX7_editsBetween 78 = .ok (.iadd, 1) := by decide +kernel
theorem dX7_editsBetween_79 : decode cX7_editsBetween 79 = .ok (.iconst 1, 1) := by decide +kernel
theorem dX7_editsBetween_80 : decode cX7_editsBetween 80 = .ok (.iadd, 1) := by decide +kernel
theorem dX7_editsBetween_81 : decode cX7_editsBetween 81 = .ok (.iaload, 1) := by decide +kernel
theorem dX7_editsBetween_82 : decode cX7_editsBetween 82 = .ok (.aload_n 0, 1) := by decide +kernel
theorem dX7_editsBetween_83 : decode cX7_editsBetween 83 = .ok (.getfield 17, 3) := by decide +kernel
theorem dX7_editsBetween_86 : decode cX7_editsBetween 86 = .ok (.bipush 30, 2) := by decide +kernel
theorem dX7_editsBetween_88 : decode cX7_editsBetween 88 = .ok (.iload_n 1, 1) := by decide +kernel
theorem dX7_editsBetween_89 : decode cX7_editsBetween 89 = .ok (.imul, 1) := by decide +kernel
theorem dX7_editsBetween_90 : decode cX7_editsBetween 90 = .ok (.iload_n 3, 1) := by decide +kernel
theorem dX7_editsBetween_91 : decode cX7_editsBetween 91 = .ok (.iadd, 1) := by decide +kernel
theorem dX7_editsBetween_92 : decode cX7_editsBetween 92 = .ok (.iaload, 1) := by decide +kernel
theorem dX7_editsBetween_93 : decode cX7_editsBetween 93 = .ok (.aload_n 0, 1) := by decide +kernel
theorem dX7_editsBetween_94 : decode cX7_editsBetween 94 = .ok (.getfield 17, 3) := by decide +kernel
theorem dX7_editsBetween_97 : decode cX7_editsBetween 97 = .ok (.bipush 30, 2) := by decide +kernel
theorem dX7_editsBetween_99 : decode cX7_editsBetween 99 = .ok (.iload_n 2, 1) := by decide +kernel
theorem dX7_editsBetween_100 : decode cX7_editsBetween 100 = .ok (.imul, 1) := by decide +kernel
theorem dX7_editsBetween_101 : decode cX7_editsBetween 101 = .ok (.iload 4, 2) := by decide +kernel
theorem dX7_editsBetween_103 : decode cX7_editsBetween 103 = .ok (.iadd, 1) := by decide +kernel
theorem dX7_editsBetween_104 : decode cX7_editsBetween 104 = .ok (.iaload, 1) := by decide +kernel
theorem dX7_editsBetween_105 : decode cX7_editsBetween 105 = .ok (.if_icmp .ne 7, 3) := by decide +kernel
theorem dX7_editsBetween_108 : decode cX7_editsBetween 108 = .ok (.iconst 0, 1) := by decide +kernel
theorem dX7_editsBetween_109 : decode cX7_editsBetween 109 = .ok (.goto 4, 3) := by decide +kernel
theorem dX7_editsBetween_112 : decode cX7_editsBetween 112 = .ok (.iconst 1, 1) := by decide +kernel
theorem dX7_editsBetween_113 : decode cX7_editsBetween 113 = .ok (.iadd, 1) := by decide +kernel
theorem dX7_editsBetween_114 : decode cX7_editsBetween 114 = .ok (.istore 6, 2) := by decide +kernel
theorem dX7_editsBetween_116 : decode cX7_editsBetween 116 = .ok (.aload_n 0, 1) := by decide +kernel
theorem dX7_editsBetween_117 : decode cX7_editsBetween 117 = .ok (.getfield 34, 3) := by decide +kernel
theorem dX7_editsBetween_120 : decode cX7_editsBetween 120 = .ok (.bipush 30, 2) := by decide +kernel
theorem dX7_editsBetween_122 : decode cX7_editsBetween 122 = .ok (.iload_n 3, 1) := by decide +kernel
theorem dX7_editsBetween_123 : decode cX7_editsBetween 123 = .ok (.imul, 1) := by decide +kernel
theorem dX7_editsBetween_124 : decode cX7_editsBetween 124 = .ok (.bipush 30, 2) := by decide +kernel
theorem dX7_editsBetween_126 : decode cX7_editsBetween 126 = .ok (.iadd, 1) := by decide +kernel
theorem dX7_editsBetween_127 : decode cX7_editsBetween 127 = .ok (.iload 4, 2) := by decide +kernel
theorem dX7_editsBetween_129 : decode cX7_editsBetween 129 = .ok (.iadd, 1) := by decide +kernel
theorem dX7_editsBetween_130 : decode cX7_editsBetween 130 = .ok (.iaload, 1) := by decide +kernel
theorem dX7_editsBetween_131 : decode cX7_editsBetween 131 = .ok (.iconst 1, 1) := by decide +kernel
theorem dX7_editsBetween_132 : decode cX7_editsBetween 132 = .ok (.iadd, 1) := by decide +kernel
theorem dX7_editsBetween_133 : decode cX7_editsBetween 133 = .ok (.istore 7, 2) := by decide +kernel
theorem dX7_editsBetween_135 : decode cX7_editsBetween 135 = .ok (.aload_n 0, 1) := by decide +kernel
theorem dX7_editsBetween_136 : decode cX7_editsBetween 136 = .ok (.getfield 34, 3) := by decide +kernel
theorem dX7_editsBetween_139 : decode cX7_editsBetween 139 = .ok (.bipush 30, 2) := by decide +kernel
theorem dX7_editsBetween_141 : decode cX7_editsBetween 141 = .ok (.iload_n 3, 1) := by decide +kernel
theorem dX7_editsBetween_142 : decode cX7_editsBetween 142 = .ok (.imul, 1) := by decide +kernel
theorem dX7_editsBetween_143 : decode cX7_editsBetween 143 = .ok (.iload 4, 2) := by decide +kernel
theorem dX7_editsBetween_145 : decode cX7_editsBetween 145 = .ok (.iadd, 1) := by decide +kernel
theorem dX7_editsBetween_146 : decode cX7_editsBetween 146 = .ok (.iconst 1, 1) := by decide +kernel
theorem dX7_editsBetween_147 : decode cX7_editsBetween 147 = .ok (.iadd, 1) := by decide +kernel
theorem dX7_editsBetween_148 : decode cX7_editsBetween 148 = .ok (.iaload, 1) := by decide +kernel
theorem dX7_editsBetween_149 : decode cX7_editsBetween 149 = .ok (.iconst 1, 1) := by decide +kernel
theorem dX7_editsBetween_150 : decode cX7_editsBetween 150 = .ok (.iadd, 1) := by decide +kernel
theorem dX7_editsBetween_151 : decode cX7_editsBetween 151 = .ok (.istore 8, 2) := by decide +kernel
theorem dX7_editsBetween_153 : decode cX7_editsBetween 153 = .ok (.iload 6, 2) := by decide +kernel
theorem dX7_editsBetween_155 : decode cX7_editsBetween 155 = .ok (.iload 7, 2) := by decide +kernel
theorem dX7_editsBetween_157 : decode cX7_editsBetween 157 = .ok (.if_icmp .ge 8, 3) := by decide +kernel
theorem dX7_editsBetween_160 : decode cX7_editsBetween 160 = .ok (.iload 6, 2) := by decide +kernel
theorem dX7_editsBetween_162 : decode cX7_editsBetween 162 = .ok (.goto 5, 3) := by decide +kernel
theorem dX7_editsBetween_165 : decode cX7_editsBetween 165 = .ok (.iload 7, 2) := by decide +kernel
theorem dX7_editsBetween_167 : decode cX7_editsBetween 167 = .ok (.istore 5, 2) := by decide +kernel
theorem dX7_editsBetween_169 : decode cX7_editsBetween 169 = .ok (.iload 8, 2) := by decide +kernel
theorem dX7_editsBetween_171 : decode cX7_editsBetween 171 = .ok (.iload 5, 2) := by decide +kernel
theorem dX7_editsBetween_173 : decode cX7_editsBetween 173 = .ok (.if_icmp .ge 8, 3) := by decide +kernel
theorem dX7_editsBetween_176 : decode cX7_editsBetween 176 = .ok (.iload 8, 2) := by decide +kernel
theorem dX7_editsBetween_178 : decode cX7_editsBetween 178 = .ok (.goto 5, 3) := by decide +kernel
theorem dX7_editsBetween_181 : decode cX7_editsBetween 181 = .ok (.iload 5, 2) := by decide +kernel
theorem dX7_editsBetween_183 : decode cX7_editsBetween 183 = .ok (.istore 5, 2) := by decide +kernel
theorem dX7_editsBetween_185 : decode cX7_editsBetween 185 = .ok (.aload_n 0, 1) := by decide +kernel
theorem dX7_editsBetween_186 : decode cX7_editsBetween 186 = .ok (.getfield 34, 3) := by decide +kernel
theorem dX7_editsBetween_189 : decode cX7_editsBetween 189 = .ok (.bipush 30, 2) := by decide +kernel
theorem dX7_editsBetween_191 : decode cX7_editsBetween 191 = .ok (.iload_n 3, 1) := by decide +kernel
theorem dX7_editsBetween_192 : decode cX7_editsBetween 192 = .ok (.imul, 1) := by decide +kernel
theorem dX7_editsBetween_193 : decode cX7_editsBetween 193 = .ok (.iload 4, 2) := by decide +kernel
theorem dX7_editsBetween_195 : decode cX7_editsBetween 195 = .ok (.iadd, 1) := by decide +kernel
theorem dX7_editsBetween_196 : decode cX7_editsBetween 196 = .ok (.iload 5, 2) := by decide +kernel
theorem dX7_editsBetween_198 : decode cX7_editsBetween 198 = .ok (.iastore, 1) := by decide +kernel
theorem dX7_editsBetween_199 : decode cX7_editsBetween 199 = .ok (.iinc 4 (-1), 3) := by decide +kernel
theorem dX7_editsBetween_202 : decode cX7_editsBetween 202 = .ok (.goto (-183), 3) := by decide +kernel
theorem dX7_editsBetween_205 : decode cX7_editsBetween 205 = .ok (.iinc 3 (-1), 3) := by decide +kernel
theorem dX7_editsBetween_208 : decode cX7_editsBetween 208 = .ok (.goto (-201), 3) := by decide +kernel
theorem dX7_editsBetween_211 : decode cX7_editsBetween 211 = .ok (.aload_n 0, 1) := by decide +kernel
theorem dX7_editsBetween_212 : decode cX7_editsBetween 212 = .ok (.getfield 34, 3) := by decide +kernel
theorem dX7_editsBetween_215 : decode cX7_editsBetween 215 = .ok (.iconst 0, 1) := by decide +kernel
theorem dX7_editsBetween_216 : decode cX7_editsBetween 216 = .ok (.iaload, 1) := by decide +kernel
theorem dX7_editsBetween_217 : decode cX7_editsBetween 217 = .ok (.ireturn, 1) := by decide +kernel
theorem dX7_between_0 : decode cX7_between 0 = .ok (.iload_n 1, 1) := by decide +kernel
theorem dX7_between_1 : decode cX7_between 1 = .ok (.invokestatic 53, 3) := by decide +kernel
theorem dX7_between_4 : decode cX7_between 4 = .ok (.ifCond .eq 20, 3) := by decide +kernel
theorem dX7_between_7 : decode cX7_between 7 = .ok (.iload_n 2, 1) := by decide +kernel
theorem dX7_between_8 : decode cX7_between 8 = .ok (.invokestatic 53, 3) := by decide +kernel
theorem dX7_between_11 : decode cX7_between 11 = .ok (.ifCond .eq 13, 3) := by decide +kernel
theorem dX7_between_14 : decode cX7_between 14 = .ok (.iload_n 3, 1) := by decide +kernel
theorem dX7_between_15 : decode cX7_between 15 = .ok (.i2l, 1) := by decide +kernel
theorem dX7_between_16 : decode cX7_between 16 = .ok (.lconst 0, 1) := by decide +kernel
theorem dX7_between_17 : decode cX7_between 17 = .ok (.lconst 1, 1) := by decide +kernel
theorem dX7_between_18 : decode cX7_between 18 = .ok (.invokestatic 39, 3) := by decide +kernel
theorem dX7_between_21 : decode cX7_between 21 = .ok (.ifCond .ne 5, 3) := by decide +kernel
theorem dX7_between_24 : decode cX7_between 24 = .ok (.iconst (-1), 1) := by decide +kernel
theorem dX7_between_25 : decode cX7_between 25 = .ok (.ireturn, 1) := by decide +kernel
theorem dX7_between_26 : decode cX7_between 26 = .ok (.iload_n 3, 1) := by decide +kernel
theorem dX7_between_27 : decode cX7_between 27 = .ok (.ifCond .ne 10, 3) := by decide +kernel
theorem dX7_between_30 : decode cX7_between 30 = .ok (.aload_n 0, 1) := by decide +kernel
theorem dX7_between_31 : decode cX7_between 31 = .ok (.iload_n 1, 1) := by decide +kernel
theorem dX7_between_32 : decode cX7_between 32 = .ok (.iload_n 2, 1) := by decide +kernel
theorem dX7_between_33 : decode cX7_between 33 = .ok (.invokevirtual 132, 3) := by decide +kernel
theorem dX7_between_36 : decode cX7_between 36 = .ok (.ireturn, 1) := by decide +kernel
theorem dX7_between_37 : decode cX7_between 37 = .ok (.aload_n 0, 1) := by decide +kernel
theorem dX7_between_38 : decode cX7_between 38 = .ok (.iload_n 1, 1) := by decide +kernel
theorem dX7_between_39 : decode cX7_between 39 = .ok (.iload_n 2, 1) := by decide +kernel
theorem dX7_between_40 : decode cX7_between 40 = .ok (.invokevirtual 126, 3) := by decide +kernel
theorem dX7_between_43 : decode cX7_between 43 = .ok (.aload_n 0, 1) := by decide +kernel
theorem dX7_between_44 : decode cX7_between 44 = .ok (.getfield 13, 3) := by decide +kernel
theorem dX7_between_47 : decode cX7_between 47 = .ok (.iload_n 1, 1) := by decide +kernel
theorem dX7_between_48 : decode cX7_between 48 = .ok (.iaload, 1) := by decide +kernel
theorem dX7_between_49 : decode cX7_between 49 = .ok (.aload_n 0, 1) := by decide +kernel
theorem dX7_between_50 : decode cX7_between 50 = .ok (.getfield 13, 3) := by decide +kernel
theorem dX7_between_53 : decode cX7_between 53 = .ok (.iload_n 2, 1) := by decide +kernel
theorem dX7_between_54 : decode cX7_between 54 = .ok (.iaload, 1) := by decide +kernel
theorem dX7_between_55 : decode cX7_between 55 = .ok (.iadd, 1) := by decide +kernel
theorem dX7_between_56 : decode cX7_between 56 = .ok (.aload_n 0, 1) := by decide +kernel
theorem dX7_between_57 : decode cX7_between 57 = .ok (.getfield 34, 3) := by decide +kernel
theorem dX7_between_60 : decode cX7_between 60 = .ok (.iconst 0, 1) := by decide +kernel
theorem dX7_between_61 : decode cX7_between 61 = .ok (.iaload, 1) := by decide +kernel
theorem dX7_between_62 : decode cX7_between 62 = .ok (.isub, 1) := by decide +kernel
theorem dX7_between_63 : decode cX7_between 63 = .ok (.ireturn, 1) := by decide +kernel
theorem dX7_parts_0 : decode cX7_parts 0 = .ok (.aload_n 0, 1) := by decide +kernel
theorem dX7_parts_1 : decode cX7_parts 1 = .ok (.getfield 13, 3) := by decide +kernel
theorem dX7_parts_4 : decode cX7_parts 4 = .ok (.iload_n 1, 1) := by decide +kernel
theorem dX7_parts_5 : decode cX7_parts 5 = .ok (.iaload, 1) := by decide +kernel
theorem dX7_parts_6 : decode cX7_parts 6 = .ok (.istore_n 3, 1) := by decide +kernel
theorem dX7_parts_7 : decode cX7_parts 7 = .ok (.iload_n 3, 1) := by decide +kernel
theorem dX7_parts_8 : decode cX7_parts 8 = .ok (.ifCond .lt 121, 3) := by decide +kernel
theorem dX7_parts_11 : decode cX7_parts 11 = .ok (.iconst 0, 1) := by decide +kernel
theorem dX7_parts_12 : decode cX7_parts 12 = .ok (.istore 4, 2) := by decide +kernel
theorem dX7_parts_14 : decode cX7_parts 14 = .ok (.iload 4, 2) := by decide +kernel
theorem dX7_parts_16 : decode cX7_parts 16 = .ok (.iload_n 2, 1) := by decide +kernel
theorem dX7_parts_17 : decode cX7_parts 17 = .ok (.if_icmp .gt 106, 3) := by decide +kernel
theorem dX7_parts_20 : decode cX7_parts 20 = .ok (.iload 4, 2) := by decide +kernel
theorem dX7_parts_22 : decode cX7_parts 22 = .ok (.ifCond .ne 7, 3) := by decide +kernel
theorem dX7_parts_25 : decode cX7_parts 25 = .ok (.lconst 1, 1) := by decide +kernel
theorem dX7_parts_26 : decode cX7_parts 26 = .ok (.goto 4, 3) := by decide +kernel
theorem dX7_parts_29 : decode cX7_parts 29 = .ok (.lconst 0, 1) := by decide +kernel
theorem dX7_parts_30 : decode cX7_parts 30 = .ok (.lstore 5, 2) := by decide +kernel
theorem dX7_parts_32 : decode cX7_parts 32 = .ok (.iconst 0, 1) := by decide +kernel
theorem dX7_parts_33 : decode cX7_parts 33 = .ok (.istore 7, 2) := by decide +kernel
theorem dX7_parts_35 : decode cX7_parts 35 = .ok (.iload 7, 2) := by decide +kernel
theorem dX7_parts_37 : decode cX7_parts 37 = .ok (.aload_n 0, 1) := by decide +kernel
theorem dX7_parts_38 : decode cX7_parts 38 = .ok (.getfield 7, 3) := by decide +kernel
theorem dX7_parts_41 : decode cX7_parts 41 = .ok (.if_icmp .ge 62, 3) := by decide +kernel
theorem dX7_parts_44 : decode cX7_parts 44 = .ok (.iload 4, 2) := by decide +kernel
theorem dX7_parts_46 : decode cX7_parts 46 = .ok (.ifCond .le 57, 3) := by decide +kernel
theorem dX7_parts_49 : decode cX7_parts 49 = .ok (.aload_n 0, 1) := by decide +kernel
theorem dX7_parts_50 : decode cX7_parts 50 = .ok (.iload_n 1, 1) := by decide +kernel
theorem dX7_parts_51 : decode cX7_parts 51 = .ok (.iload_n 3, 1) := by decide +kernel
theorem dX7_parts_52 : decode cX7_parts 52 = .ok (.iload 7, 2) := by decide +kernel
theorem dX7_parts_54 : decode cX7_parts 54 = .ok (.invokevirtual 129, 3) := by decide +kernel
theorem dX7_parts_57 : decode cX7_parts 57 = .ok (.istore 8, 2) := by decide +kernel
theorem dX7_parts_59 : decode cX7_parts 59 = .ok (.lload 5, 2) := by decide +kernel
theorem dX7_parts_61 : decode cX7_parts 61 = .ok (.iload 8, 2) := by decide +kernel
theorem dX7_parts_63 : decode cX7_parts 63 = .ok (.aload_n 0, 1) := by decide +kernel
theorem dX7_parts_64 : decode cX7_parts 64 = .ok (.getfield 13, 3) := by decide +kernel
theorem dX7_parts_67 : decode cX7_parts 67 = .ok (.iload_n 1, 1) := by decide +kernel
theorem dX7_parts_68 : decode cX7_parts 68 = .ok (.iaload, 1) := by decide +kernel
theorem dX7_parts_69 : decode cX7_parts 69 = .ok (.if_icmp .ge 24, 3) := by decide +kernel
theorem dX7_parts_72 : decode cX7_parts 72 = .ok (.aload_n 0, 1) := by decide +kernel
theorem dX7_parts_73 : decode cX7_parts 73 = .ok (.getfield 30, 3) := by decide +kernel
theorem dX7_parts_76 : decode cX7_parts 76 = .ok (.bipush 30, 2) := by decide +kernel
theorem dX7_parts_78 : decode cX7_parts 78 = .ok (.iload 8, 2) := by decide +kernel
theorem dX7_parts_80 : decode cX7_parts 80 = .ok (.imul, 1) := by decide +kernel
theorem dX7_parts_81 : decode cX7_parts 81 = .ok (.bipush 30, 2) := by decide +kernel
theorem dX7_parts_83 : decode cX7_parts 83 = .ok (.iadd, 1) := by decide +kernel
theorem dX7_parts_84 : decode cX7_parts 84 = .ok (.iload 4, 2) := by decide +kernel
theorem dX7_parts_86 : decode cX7_parts 86 = .ok (.iadd, 1) := by decide +kernel
theorem dX7_parts_87 : decode cX7_parts 87 = .ok (.iconst 1, 1) := by decide +kernel
theorem dX7_parts_88 : decode cX7_parts 88 = .ok (.isub, 1) := by decide +kernel
theorem dX7_parts_89 : decode cX7_parts 89 = .ok (.laload, 1) := by decide +kernel
theorem dX7_parts_90 : decode cX7_parts 90 = .ok (.goto 4, 3) := by decide +kernel
theorem dX7_parts_93 : decode cX7_parts 93 = .ok (.lconst 0, 1) := by decide +kernel
theorem dX7_parts_94 : decode cX7_parts 94 = .ok (.ladd, 1) := by decide +kernel
theorem dX7_parts_95 : decode cX7_parts 95 = .ok (.lstore 5, 2) := by decide +kernel
theorem dX7_parts_97 : decode cX7_parts 97 = .ok (.iinc 7 1, 3) := by decide +kernel
theorem dX7_parts_100 : decode cX7_parts 100 = .ok (.goto (-65), 3) := by decide +kernel
theorem dX7_parts_103 : decode cX7_parts 103 = .ok (.aload_n 0, 1) := by decide +kernel
theorem dX7_parts_104 : decode cX7_parts 104 = .ok (.getfield 30, 3) := by decide +kernel
theorem dX7_parts_107 : decode cX7_parts 107 = .ok (.bipush 30, 2) := by decide +kernel
theorem dX7_parts_109 : decode cX7_parts 109 = .ok (.iload_n 3, 1) := by decide +kernel
theorem dX7_parts_110 : decode cX7_parts 110 = .ok (.imul, 1) := by decide +kernel
theorem dX7_parts_111 : decode cX7_parts 111 = .ok (.iload 4, 2) := by decide +kernel
theorem dX7_parts_113 : decode cX7_parts 113 = .ok (.iadd, 1) := by decide +kernel
theorem dX7_parts_114 : decode cX7_parts 114 = .ok (.lload 5, 2) := by decide +kernel
theorem dX7_parts_116 : decode cX7_parts 116 = .ok (.lastore, 1) := by decide +kernel
theorem dX7_parts_117 : decode cX7_parts 117 = .ok (.iinc 4 1, 3) := by decide +kernel
theorem dX7_parts_120 : decode cX7_parts 120 = .ok (.goto (-106), 3) := by decide +kernel
theorem dX7_parts_123 : decode cX7_parts 123 = .ok (.iinc 3 (-1), 3) := by decide +kernel
theorem dX7_parts_126 : decode cX7_parts 126 = .ok (.goto (-119), 3) := by decide +kernel
theorem dX7_parts_129 : decode cX7_parts 129 = .ok (.aload_n 0, 1) := by decide +kernel
theorem dX7_parts_130 : decode cX7_parts 130 = .ok (.getfield 30, 3) := by decide +kernel
theorem dX7_parts_133 : decode cX7_parts 133 = .ok (.iload_n 2, 1) := by decide +kernel
theorem dX7_parts_134 : decode cX7_parts 134 = .ok (.laload, 1) := by decide +kernel
theorem dX7_parts_135 : decode cX7_parts 135 = .ok (.lreturn, 1) := by decide +kernel
theorem dX7_gained_0 : decode cX7_gained 0 = .ok (.lconst 0, 1) := by decide +kernel
theorem dX7_gained_1 : decode cX7_gained 1 = .ok (.lstore_n 3, 1) := by decide +kernel
theorem dX7_gained_2 : decode cX7_gained 2 = .ok (.aload_n 0, 1) := by decide +kernel
theorem dX7_gained_3 : decode cX7_gained 3 = .ok (.getfield 13, 3) := by decide +kernel
theorem dX7_gained_6 : decode cX7_gained 6 = .ok (.iload_n 1, 1) := by decide +kernel
theorem dX7_gained_7 : decode cX7_gained 7 = .ok (.iaload, 1) := by decide +kernel
theorem dX7_gained_8 : decode cX7_gained 8 = .ok (.iload_n 2, 1) := by decide +kernel
theorem dX7_gained_9 : decode cX7_gained 9 = .ok (.iadd, 1) := by decide +kernel
theorem dX7_gained_10 : decode cX7_gained 10 = .ok (.istore 5, 2) := by decide +kernel
theorem dX7_gained_12 : decode cX7_gained 12 = .ok (.iconst 0, 1) := by decide +kernel
theorem dX7_gained_13 : decode cX7_gained 13 = .ok (.istore 6, 2) := by decide +kernel
theorem dX7_gained_15 : decode cX7_gained 15 = .ok (.iload 6, 2) := by decide +kernel
theorem dX7_gained_17 : decode cX7_gained 17 = .ok (.iload_n 2, 1) := by decide +kernel
theorem dX7_gained_18 : decode cX7_gained 18 = .ok (.if_icmp .gt 78, 3) := by decide +kernel
theorem dX7_gained_21 : decode cX7_gained 21 = .ok (.lconst 1, 1) := by decide +kernel
theorem dX7_gained_22 : decode cX7_gained 22 = .ok (.lstore 7, 2) := by decide +kernel
theorem dX7_gained_24 : decode cX7_gained 24 = .ok (.iconst 0, 1) := by decide +kernel
theorem dX7_gained_25 : decode cX7_gained 25 = .ok (.istore 9, 2) := by decide +kernel
theorem dX7_gained_27 : decode cX7_gained 27 = .ok (.iload 9, 2) := by decide +kernel
theorem dX7_gained_29 : decode cX7_gained 29 = .ok (.iload 6, 2) := by decide +kernel
theorem dX7_gained_31 : decode cX7_gained 31 = .ok (.if_icmp .ge 26, 3) := by decide +kernel
theorem dX7_gained_34 : decode cX7_gained 34 = .ok (.lload 7, 2) := by decide +kernel
theorem dX7_gained_36 : decode cX7_gained 36 = .ok (.iload 5, 2) := by decide +kernel
theorem dX7_gained_38 : decode cX7_gained 38 = .ok (.iload 9, 2) := by decide +kernel
theorem dX7_gained_40 : decode cX7_gained 40 = .ok (.isub, 1) := by decide +kernel
theorem dX7_gained_41 : decode cX7_gained 41 = .ok (.i2l, 1) := by decide +kernel
theorem dX7_gained_42 : decode cX7_gained 42 = .ok (.lmul, 1) := by decide +kernel
theorem dX7_gained_43 : decode cX7_gained 43 = .ok (.iload 9, 2) := by decide +kernel
theorem dX7_gained_45 : decode cX7_gained 45 = .ok (.iconst 1, 1) := by decide +kernel
theorem dX7_gained_46 : decode cX7_gained 46 = .ok (.iadd, 1) := by decide +kernel
theorem dX7_gained_47 : decode cX7_gained 47 = .ok (.i2l, 1) := by decide +kernel
theorem dX7_gained_48 : decode cX7_gained 48 = .ok (.ldiv, 1) := by decide +kernel
theorem dX7_gained_49 : decode cX7_gained 49 = .ok (.lstore 7, 2) := by decide +kernel
theorem dX7_gained_51 : decode cX7_gained 51 = .ok (.iinc 9 1, 3) := by decide +kernel
theorem dX7_gained_54 : decode cX7_gained 54 = .ok (.goto (-27), 3) := by decide +kernel
theorem dX7_gained_57 : decode cX7_gained 57 = .ok (.iconst 0, 1) := by decide +kernel
theorem dX7_gained_58 : decode cX7_gained 58 = .ok (.istore 9, 2) := by decide +kernel
theorem dX7_gained_60 : decode cX7_gained 60 = .ok (.iload 9, 2) := by decide +kernel
theorem dX7_gained_62 : decode cX7_gained 62 = .ok (.iload 6, 2) := by decide +kernel
theorem dX7_gained_64 : decode cX7_gained 64 = .ok (.if_icmp .ge 21, 3) := by decide +kernel
theorem dX7_gained_67 : decode cX7_gained 67 = .ok (.lload 7, 2) := by decide +kernel
theorem dX7_gained_69 : decode cX7_gained 69 = .ok (.aload_n 0, 1) := by decide +kernel
theorem dX7_gained_70 : decode cX7_gained 70 = .ok (.getfield 7, 3) := by decide +kernel
theorem dX7_gained_73 : decode cX7_gained 73 = .ok (.iconst 1, 1) := by decide +kernel
theorem dX7_gained_74 : decode cX7_gained 74 = .ok (.isub, 1) := by decide +kernel
theorem dX7_gained_75 : decode cX7_gained 75 = .ok (.i2l, 1) := by decide +kernel
theorem dX7_gained_76 : decode cX7_gained 76 = .ok (.lmul, 1) := by decide +kernel
theorem dX7_gained_77 : decode cX7_gained 77 = .ok (.lstore 7, 2) := by decide +kernel
theorem dX7_gained_79 : decode cX7_gained 79 = .ok (.iinc 9 1, 3) := by decide +kernel
theorem dX7_gained_82 : decode cX7_gained 82 = .ok (.goto (-22), 3) := by decide +kernel
theorem dX7_gained_85 : decode cX7_gained 85 = .ok (.lload_n 3, 1) := by decide +kernel
theorem dX7_gained_86 : decode cX7_gained 86 = .ok (.lload 7, 2) := by decide +kernel
theorem dX7_gained_88 : decode cX7_gained 88 = .ok (.ladd, 1) := by decide +kernel
theorem dX7_gained_89 : decode cX7_gained 89 = .ok (.lstore_n 3, 1) := by decide +kernel
theorem dX7_gained_90 : decode cX7_gained 90 = .ok (.iinc 6 1, 3) := by decide +kernel
theorem dX7_gained_93 : decode cX7_gained 93 = .ok (.goto (-78), 3) := by decide +kernel
theorem dX7_gained_96 : decode cX7_gained 96 = .ok (.lload_n 3, 1) := by decide +kernel
theorem dX7_gained_97 : decode cX7_gained 97 = .ok (.lreturn, 1) := by decide +kernel
theorem dX7_by_0 : decode cX7_by 0 = .ok (.iload_n 1, 1) := by decide +kernel
theorem dX7_by_1 : decode cX7_by 1 = .ok (.invokestatic 53, 3) := by decide +kernel
theorem dX7_by_4 : decode cX7_by 4 = .ok (.ifCond .eq 25, 3) := by decide +kernel
theorem dX7_by_7 : decode cX7_by 7 = .ok (.iload_n 2, 1) := by decide +kernel
theorem dX7_by_8 : decode cX7_by 8 = .ok (.i2l, 1) := by decide +kernel
theorem dX7_by_9 : decode cX7_by 9 = .ok (.lconst 0, 1) := by decide +kernel
theorem dX7_by_10 : decode cX7_by 10 = .ok (.ldc2_w 136, 3) := by decide +kernel
theorem dX7_by_13 : decode cX7_by 13 = .ok (.invokestatic 39, 3) := by decide +kernel
theorem dX7_by_16 : decode cX7_by 16 = .ok (.ifCond .eq 13, 3) := by decide +kernel
theorem dX7_by_19 : decode cX7_by 19 = .ok (.iload_n 3, 1) := by decide +kernel
theorem dX7_by_20 : decode cX7_by 20 = .ok (.i2l, 1) := by decide +kernel
theorem dX7_by_21 : decode cX7_by 21 = .ok (.lconst 0, 1) := by decide +kernel
theorem dX7_by_22 : decode cX7_by 22 = .ok (.lconst 1, 1) := by decide +kernel
theorem dX7_by_23 : decode cX7_by 23 = .ok (.invokestatic 39, 3) := by decide +kernel
theorem dX7_by_26 : decode cX7_by 26 = .ok (.ifCond .ne 7, 3) := by decide +kernel
theorem dX7_by_29 : decode cX7_by 29 = .ok (.ldc2_w 124, 3) := by decide +kernel
theorem dX7_by_32 : decode cX7_by 32 = .ok (.lreturn, 1) := by decide +kernel
theorem dX7_by_33 : decode cX7_by 33 = .ok (.iload_n 3, 1) := by decide +kernel
theorem dX7_by_34 : decode cX7_by 34 = .ok (.iconst 1, 1) := by decide +kernel
theorem dX7_by_35 : decode cX7_by 35 = .ok (.if_icmp .ne 10, 3) := by decide +kernel
theorem dX7_by_38 : decode cX7_by 38 = .ok (.aload_n 0, 1) := by decide +kernel
theorem dX7_by_39 : decode cX7_by 39 = .ok (.iload_n 1, 1) := by decide +kernel
theorem dX7_by_40 : decode cX7_by 40 = .ok (.iload_n 2, 1) := by decide +kernel
theorem dX7_by_41 : decode cX7_by 41 = .ok (.invokevirtual 138, 3) := by decide +kernel
theorem dX7_by_44 : decode cX7_by 44 = .ok (.lreturn, 1) := by decide +kernel
theorem dX7_by_45 : decode cX7_by 45 = .ok (.iload_n 2, 1) := by decide +kernel
theorem dX7_by_46 : decode cX7_by 46 = .ok (.aload_n 0, 1) := by decide +kernel
theorem dX7_by_47 : decode cX7_by 47 = .ok (.getfield 13, 3) := by decide +kernel
theorem dX7_by_50 : decode cX7_by 50 = .ok (.iload_n 1, 1) := by decide +kernel
theorem dX7_by_51 : decode cX7_by 51 = .ok (.iaload, 1) := by decide +kernel
theorem dX7_by_52 : decode cX7_by 52 = .ok (.if_icmp .le 7, 3) := by decide +kernel
theorem dX7_by_55 : decode cX7_by 55 = .ok (.lconst 0, 1) := by decide +kernel
theorem dX7_by_56 : decode cX7_by 56 = .ok (.goto 16, 3) := by decide +kernel
theorem dX7_by_59 : decode cX7_by 59 = .ok (.aload_n 0, 1) := by decide +kernel
theorem dX7_by_60 : decode cX7_by 60 = .ok (.iload_n 1, 1) := by decide +kernel
theorem dX7_by_61 : decode cX7_by 61 = .ok (.aload_n 0, 1) := by decide +kernel
theorem dX7_by_62 : decode cX7_by 62 = .ok (.getfield 13, 3) := by decide +kernel
theorem dX7_by_65 : decode cX7_by 65 = .ok (.iload_n 1, 1) := by decide +kernel
theorem dX7_by_66 : decode cX7_by 66 = .ok (.iaload, 1) := by decide +kernel
theorem dX7_by_67 : decode cX7_by 67 = .ok (.iload_n 2, 1) := by decide +kernel
theorem dX7_by_68 : decode cX7_by 68 = .ok (.isub, 1) := by decide +kernel
theorem dX7_by_69 : decode cX7_by 69 = .ok (.invokevirtual 141, 3) := by decide +kernel
theorem dX7_by_72 : decode cX7_by 72 = .ok (.lreturn, 1) := by decide +kernel
theorem dX7_trace_0 : decode cX7_trace 0 = .ok (.iload_n 1, 1) := by decide +kernel
theorem dX7_trace_1 : decode cX7_trace 1 = .ok (.invokestatic 53, 3) := by decide +kernel
theorem dX7_trace_4 : decode cX7_trace 4 = .ok (.ifCond .ne 5, 3) := by decide +kernel
theorem dX7_trace_7 : decode cX7_trace 7 = .ok (.iconst (-1), 1) := by decide +kernel
theorem dX7_trace_8 : decode cX7_trace 8 = .ok (.ireturn, 1) := by decide +kernel
theorem dX7_trace_9 : decode cX7_trace 9 = .ok (.aload_n 0, 1) := by decide +kernel
theorem dX7_trace_10 : decode cX7_trace 10 = .ok (.getfield 50, 3) := by decide +kernel
theorem dX7_trace_13 : decode cX7_trace 13 = .ok (.bipush 8, 2) := by decide +kernel
theorem dX7_trace_15 : decode cX7_trace 15 = .ok (.if_icmp .ne 6, 3) := by decide +kernel
theorem dX7_trace_18 : decode cX7_trace 18 = .ok (.bipush (-3), 2) := by decide +kernel
theorem dX7_trace_20 : decode cX7_trace 20 = .ok (.ireturn, 1) := by decide +kernel
theorem dX7_trace_21 : decode cX7_trace 21 = .ok (.aload_n 0, 1) := by decide +kernel
theorem dX7_trace_22 : decode cX7_trace 22 = .ok (.bipush 12, 2) := by decide +kernel
theorem dX7_trace_24 : decode cX7_trace 24 = .ok (.aload_n 0, 1) := by decide +kernel
theorem dX7_trace_25 : decode cX7_trace 25 = .ok (.getfield 50, 3) := by decide +kernel
theorem dX7_trace_28 : decode cX7_trace 28 = .ok (.iadd, 1) := by decide +kernel
theorem dX7_trace_29 : decode cX7_trace 29 = .ok (.iload_n 1, 1) := by decide +kernel
theorem dX7_trace_30 : decode cX7_trace 30 = .ok (.invokevirtual 69, 3) := by decide +kernel
theorem dX7_trace_33 : decode cX7_trace 33 = .ok (.aload_n 0, 1) := by decide +kernel
theorem dX7_trace_34 : decode cX7_trace 34 = .ok (.dup, 1) := by decide +kernel
theorem dX7_trace_35 : decode cX7_trace 35 = .ok (.getfield 50, 3) := by decide +kernel
theorem dX7_trace_38 : decode cX7_trace 38 = .ok (.iconst 1, 1) := by decide +kernel
theorem dX7_trace_39 : decode cX7_trace 39 = .ok (.iadd, 1) := by decide +kernel
theorem dX7_trace_40 : decode cX7_trace 40 = .ok (.putfield 50, 3) := by decide +kernel
theorem dX7_trace_43 : decode cX7_trace 43 = .ok (.aload_n 0, 1) := by decide +kernel
theorem dX7_trace_44 : decode cX7_trace 44 = .ok (.getfield 50, 3) := by decide +kernel
theorem dX7_trace_47 : decode cX7_trace 47 = .ok (.ireturn, 1) := by decide +kernel
theorem dX7_noTraces_0 : decode cX7_noTraces 0 = .ok (.aload_n 0, 1) := by decide +kernel
theorem dX7_noTraces_1 : decode cX7_noTraces 1 = .ok (.getfield 50, 3) := by decide +kernel
theorem dX7_noTraces_4 : decode cX7_noTraces 4 = .ok (.istore_n 1, 1) := by decide +kernel
theorem dX7_noTraces_5 : decode cX7_noTraces 5 = .ok (.aload_n 0, 1) := by decide +kernel
theorem dX7_noTraces_6 : decode cX7_noTraces 6 = .ok (.iconst 0, 1) := by decide +kernel
theorem dX7_noTraces_7 : decode cX7_noTraces 7 = .ok (.putfield 50, 3) := by decide +kernel
theorem dX7_noTraces_10 : decode cX7_noTraces 10 = .ok (.iload_n 1, 1) := by decide +kernel
theorem dX7_noTraces_11 : decode cX7_noTraces 11 = .ok (.ireturn, 1) := by decide +kernel
theorem dX7_power_0 : decode cX7_power 0 = .ok (.iconst 1, 1) := by decide +kernel
theorem dX7_power_1 : decode cX7_power 1 = .ok (.istore_n 2, 1) := by decide +kernel
theorem dX7_power_2 : decode cX7_power 2 = .ok (.iconst 0, 1) := by decide +kernel
theorem dX7_power_3 : decode cX7_power 3 = .ok (.istore_n 3, 1) := by decide +kernel
theorem dX7_power_4 : decode cX7_power 4 = .ok (.iload_n 3, 1) := by decide +kernel
theorem dX7_power_5 : decode cX7_power 5 = .ok (.iload_n 1, 1) := by decide +kernel
theorem dX7_power_6 : decode cX7_power 6 = .ok (.if_icmp .ge 23, 3) := by decide +kernel
theorem dX7_power_9 : decode cX7_power 9 = .ok (.iload_n 2, 1) := by decide +kernel
theorem dX7_power_10 : decode cX7_power 10 = .ok (.sipush 4096, 3) := by decide +kernel
theorem dX7_power_13 : decode cX7_power 13 = .ok (.if_icmp .gt 16, 3) := by decide +kernel
theorem dX7_power_16 : decode cX7_power 16 = .ok (.iload_n 2, 1) := by decide +kernel
theorem dX7_power_17 : decode cX7_power 17 = .ok (.aload_n 0, 1) := by decide +kernel
theorem dX7_power_18 : decode cX7_power 18 = .ok (.getfield 7, 3) := by decide +kernel
theorem dX7_power_21 : decode cX7_power 21 = .ok (.imul, 1) := by decide +kernel
theorem dX7_power_22 : decode cX7_power 22 = .ok (.istore_n 2, 1) := by decide +kernel
theorem dX7_power_23 : decode cX7_power 23 = .ok (.iinc 3 1, 3) := by decide +kernel
theorem dX7_power_26 : decode cX7_power 26 = .ok (.goto (-22), 3) := by decide +kernel
theorem dX7_power_29 : decode cX7_power 29 = .ok (.iload_n 2, 1) := by decide +kernel
theorem dX7_power_30 : decode cX7_power 30 = .ok (.ireturn, 1) := by decide +kernel
theorem dX7_numbers_0 : decode cX7_numbers 0 = .ok (.aload_n 0, 1) := by decide +kernel
theorem dX7_numbers_1 : decode cX7_numbers 1 = .ok (.getfield 13, 3) := by decide +kernel
theorem dX7_numbers_4 : decode cX7_numbers 4 = .ok (.bipush 21, 2) := by decide +kernel
theorem dX7_numbers_6 : decode cX7_numbers 6 = .ok (.iload_n 1, 1) := by decide +kernel
theorem dX7_numbers_7 : decode cX7_numbers 7 = .ok (.iastore, 1) := by decide +kernel
theorem dX7_numbers_8 : decode cX7_numbers 8 = .ok (.iload_n 2, 1) := by decide +kernel
theorem dX7_numbers_9 : decode cX7_numbers 9 = .ok (.istore_n 3, 1) := by decide +kernel
theorem dX7_numbers_10 : decode cX7_numbers 10 = .ok (.iload_n 1, 1) := by decide +kernel
theorem dX7_numbers_11 : decode cX7_numbers 11 = .ok (.iconst 1, 1) := by decide +kernel
theorem dX7_numbers_12 : decode cX7_numbers 12 = .ok (.isub, 1) := by decide +kernel
theorem dX7_numbers_13 : decode cX7_numbers 13 = .ok (.istore 4, 2) := by decide +kernel
theorem dX7_numbers_15 : decode cX7_numbers 15 = .ok (.iload 4, 2) := by decide +kernel
theorem dX7_numbers_17 : decode cX7_numbers 17 = .ok (.ifCond .lt 33, 3) := by decide +kernel
theorem dX7_numbers_20 : decode cX7_numbers 20 = .ok (.aload_n 0, 1) := by decide +kernel
theorem dX7_numbers_21 : decode cX7_numbers 21 = .ok (.getfield 17, 3) := by decide +kernel
theorem dX7_numbers_24 : decode cX7_numbers 24 = .ok (.sipush 630, 3) := by decide +kernel
theorem dX7_numbers_27 : decode cX7_numbers 27 = .ok (.iload 4, 2) := by decide +kernel
theorem dX7_numbers_29 : decode cX7_numbers 29 = .ok (.iadd, 1) := by decide +kernel
theorem dX7_numbers_30 : decode cX7_numbers 30 = .ok (.iload_n 3, 1) := by decide +kernel
theorem dX7_numbers_31 : decode cX7_numbers 31 = .ok (.aload_n 0, 1) := by decide +kernel
theorem dX7_numbers_32 : decode cX7_numbers 32 = .ok (.getfield 7, 3) := by decide +kernel
theorem dX7_numbers_35 : decode cX7_numbers 35 = .ok (.irem, 1) := by decide +kernel
theorem dX7_numbers_36 : decode cX7_numbers 36 = .ok (.iastore, 1) := by decide +kernel
theorem dX7_numbers_37 : decode cX7_numbers 37 = .ok (.iload_n 3, 1) := by decide +kernel
theorem dX7_numbers_38 : decode cX7_numbers 38 = .ok (.aload_n 0, 1) := by decide +kernel
theorem dX7_numbers_39 : decode cX7_numbers 39 = .ok (.getfield 7, 3) := by decide +kernel
theorem dX7_numbers_42 : decode cX7_numbers 42 = .ok (.idiv, 1) := by decide +kernel
theorem dX7_numbers_43 : decode cX7_numbers 43 = .ok (.istore_n 3, 1) := by decide +kernel
theorem dX7_numbers_44 : decode cX7_numbers 44 = .ok (.iinc 4 (-1), 3) := by decide +kernel
theorem dX7_numbers_47 : decode cX7_numbers 47 = .ok (.goto (-32), 3) := by decide +kernel
theorem dX7_numbers_50 : decode cX7_numbers 50 = .ok (.return_, 1) := by decide +kernel
theorem dX7_product_0 : decode cX7_product 0 = .ok (.lconst 1, 1) := by decide +kernel
theorem dX7_product_1 : decode cX7_product 1 = .ok (.lstore_n 1, 1) := by decide +kernel
theorem dX7_product_2 : decode cX7_product 2 = .ok (.iconst 0, 1) := by decide +kernel
theorem dX7_product_3 : decode cX7_product 3 = .ok (.istore_n 3, 1) := by decide +kernel
theorem dX7_product_4 : decode cX7_product 4 = .ok (.iload_n 3, 1) := by decide +kernel
theorem dX7_product_5 : decode cX7_product 5 = .ok (.aload_n 0, 1) := by decide +kernel
theorem dX7_product_6 : decode cX7_product 6 = .ok (.getfield 50, 3) := by decide +kernel
theorem dX7_product_9 : decode cX7_product 9 = .ok (.if_icmp .ge 54, 3) := by decide +kernel
theorem dX7_product_12 : decode cX7_product 12 = .ok (.aload_n 0, 1) := by decide +kernel
theorem dX7_product_13 : decode cX7_product 13 = .ok (.bipush 12, 2) := by decide +kernel
theorem dX7_product_15 : decode cX7_product 15 = .ok (.iload_n 3, 1) := by decide +kernel
theorem dX7_product_16 : decode cX7_product 16 = .ok (.iadd, 1) := by decide +kernel
theorem dX7_product_17 : decode cX7_product 17 = .ok (.bipush 21, 2) := by decide +kernel
theorem dX7_product_19 : decode cX7_product 19 = .ok (.invokevirtual 120, 3) := by decide +kernel
theorem dX7_product_22 : decode cX7_product 22 = .ok (.lstore 4, 2) := by decide +kernel
theorem dX7_product_24 : decode cX7_product 24 = .ok (.lload 4, 2) := by decide +kernel
theorem dX7_product_26 : decode cX7_product 26 = .ok (.lconst 0, 1) := by decide +kernel
theorem dX7_product_27 : decode cX7_product 27 = .ok (.lcmp, 1) := by decide +kernel
theorem dX7_product_28 : decode cX7_product 28 = .ok (.ifCond .ne 7, 3) := by decide +kernel
theorem dX7_product_31 : decode cX7_product 31 = .ok (.lconst 0, 1) := by decide +kernel
theorem dX7_product_32 : decode cX7_product 32 = .ok (.goto 24, 3) := by decide +kernel
theorem dX7_product_35 : decode cX7_product 35 = .ok (.lload_n 1, 1) := by decide +kernel
theorem dX7_product_36 : decode cX7_product 36 = .ok (.ldc2_w 144, 3) := by decide +kernel
theorem dX7_product_39 : decode cX7_product 39 = .ok (.lload 4, 2) := by decide +kernel
theorem dX7_product_41 : decode cX7_product 41 = .ok (.ldiv, 1) := by decide +kernel
theorem dX7_product_42 : decode cX7_product 42 = .ok (.lcmp, 1) := by decide +kernel
theorem dX7_product_43 : decode cX7_product 43 = .ok (.ifCond .le 9, 3) := by decide +kernel
theorem dX7_product_46 : decode cX7_product 46 = .ok (.ldc2_w 144, 3) := by decide +kernel
theorem dX7_product_49 : decode cX7_product 49 = .ok (.goto 7, 3) := by decide +kernel
theorem dX7_product_52 : decode cX7_product 52 = .ok (.lload_n 1, 1) := by decide +kernel
theorem dX7_product_53 : decode cX7_product 53 = .ok (.lload 4, 2) := by decide +kernel
theorem dX7_product_55 : decode cX7_product 55 = .ok (.lmul, 1) := by decide +kernel
theorem dX7_product_56 : decode cX7_product 56 = .ok (.lstore_n 1, 1) := by decide +kernel
theorem dX7_product_57 : decode cX7_product 57 = .ok (.iinc 3 1, 3) := by decide +kernel
theorem dX7_product_60 : decode cX7_product 60 = .ok (.goto (-56), 3) := by decide +kernel
theorem dX7_product_63 : decode cX7_product 63 = .ok (.lload_n 1, 1) := by decide +kernel
theorem dX7_product_64 : decode cX7_product 64 = .ok (.lreturn, 1) := by decide +kernel
theorem dX7_sources_0 : decode cX7_sources 0 = .ok (.iload_n 1, 1) := by decide +kernel
theorem dX7_sources_1 : decode cX7_sources 1 = .ok (.i2l, 1) := by decide +kernel
theorem dX7_sources_2 : decode cX7_sources 2 = .ok (.lconst 1, 1) := by decide +kernel
theorem dX7_sources_3 : decode cX7_sources 3 = .ok (.ldc2_w 146, 3) := by decide +kernel
theorem dX7_sources_6 : decode cX7_sources 6 = .ok (.invokestatic 39, 3) := by decide +kernel
theorem dX7_sources_9 : decode cX7_sources 9 = .ok (.ifCond .eq 14, 3) := by decide +kernel
theorem dX7_sources_12 : decode cX7_sources 12 = .ok (.aload_n 0, 1) := by decide +kernel
theorem dX7_sources_13 : decode cX7_sources 13 = .ok (.iload_n 1, 1) := by decide +kernel
theorem dX7_sources_14 : decode cX7_sources 14 = .ok (.invokevirtual 148, 3) := by decide +kernel
theorem dX7_sources_17 : decode cX7_sources 17 = .ok (.sipush 4096, 3) := by decide +kernel
theorem dX7_sources_20 : decode cX7_sources 20 = .ok (.if_icmp .le 5, 3) := by decide +kernel
theorem dX7_sources_23 : decode cX7_sources 23 = .ok (.iconst (-1), 1) := by decide +kernel
theorem dX7_sources_24 : decode cX7_sources 24 = .ok (.ireturn, 1) := by decide +kernel
theorem dX7_sources_25 : decode cX7_sources 25 = .ok (.iconst 0, 1) := by decide +kernel
theorem dX7_sources_26 : decode cX7_sources 26 = .ok (.istore_n 2, 1) := by decide +kernel
theorem dX7_sources_27 : decode cX7_sources 27 = .ok (.iconst 0, 1) := by decide +kernel
theorem dX7_sources_28 : decode cX7_sources 28 = .ok (.istore_n 3, 1) := by decide +kernel
theorem dX7_sources_29 : decode cX7_sources 29 = .ok (.iload_n 3, 1) := by decide +kernel
theorem dX7_sources_30 : decode cX7_sources 30 = .ok (.aload_n 0, 1) := by decide +kernel
theorem dX7_sources_31 : decode cX7_sources 31 = .ok (.iload_n 1, 1) := by decide +kernel
theorem dX7_sources_32 : decode cX7_sources 32 = .ok (.invokevirtual 148, 3) := by decide +kernel
theorem dX7_sources_35 : decode cX7_sources 35 = .ok (.if_icmp .ge 32, 3) := by decide +kernel
theorem dX7_sources_38 : decode cX7_sources 38 = .ok (.aload_n 0, 1) := by decide +kernel
theorem dX7_sources_39 : decode cX7_sources 39 = .ok (.iload_n 1, 1) := by decide +kernel
theorem dX7_sources_40 : decode cX7_sources 40 = .ok (.iload_n 3, 1) := by decide +kernel
theorem dX7_sources_41 : decode cX7_sources 41 = .ok (.invokevirtual 151, 3) := by decide +kernel
theorem dX7_sources_44 : decode cX7_sources 44 = .ok (.iload_n 2, 1) := by decide +kernel
theorem dX7_sources_45 : decode cX7_sources 45 = .ok (.aload_n 0, 1) := by decide +kernel
theorem dX7_sources_46 : decode cX7_sources 46 = .ok (.invokevirtual 154, 3) := by decide +kernel
theorem dX7_sources_49 : decode cX7_sources 49 = .ok (.lconst 0, 1) := by decide +kernel
theorem dX7_sources_50 : decode cX7_sources 50 = .ok (.lcmp, 1) := by decide +kernel
theorem dX7_sources_51 : decode cX7_sources 51 = .ok (.ifCond .le 7, 3) := by decide +kernel
theorem dX7_sources_54 : decode cX7_sources 54 = .ok (.iconst 1, 1) := by decide +kernel
theorem dX7_sources_55 : decode cX7_sources 55 = .ok (.goto 4, 3) := by decide +kernel
theorem dX7_sources_58 : decode cX7_sources 58 = .ok (.iconst 0, 1) := by decide +kernel
theorem dX7_sources_59 : decode cX7_sources 59 = .ok (.iadd, 1) := by decide +kernel
theorem dX7_sources_60 : decode cX7_sources 60 = .ok (.istore_n 2, 1) := by decide +kernel
theorem dX7_sources_61 : decode cX7_sources 61 = .ok (.iinc 3 1, 3) := by decide +kernel
theorem dX7_sources_64 : decode cX7_sources 64 = .ok (.goto (-35), 3) := by decide +kernel
theorem dX7_sources_67 : decode cX7_sources 67 = .ok (.iload_n 2, 1) := by decide +kernel
theorem dX7_sources_68 : decode cX7_sources 68 = .ok (.ireturn, 1) := by decide +kernel
theorem dX7_best_0 : decode cX7_best 0 = .ok (.iload_n 1, 1) := by decide +kernel
theorem dX7_best_1 : decode cX7_best 1 = .ok (.invokestatic 53, 3) := by decide +kernel
theorem dX7_best_4 : decode cX7_best 4 = .ok (.ifCond .eq 26, 3) := by decide +kernel
theorem dX7_best_7 : decode cX7_best 7 = .ok (.iload_n 2, 1) := by decide +kernel
theorem dX7_best_8 : decode cX7_best 8 = .ok (.i2l, 1) := by decide +kernel
theorem dX7_best_9 : decode cX7_best 9 = .ok (.lconst 1, 1) := by decide +kernel
theorem dX7_best_10 : decode cX7_best 10 = .ok (.ldc2_w 146, 3) := by decide +kernel
theorem dX7_best_13 : decode cX7_best 13 = .ok (.invokestatic 39, 3) := by decide +kernel
theorem dX7_best_16 : decode cX7_best 16 = .ok (.ifCond .eq 14, 3) := by decide +kernel
theorem dX7_best_19 : decode cX7_best 19 = .ok (.aload_n 0, 1) := by decide +kernel
theorem dX7_best_20 : decode cX7_best 20 = .ok (.iload_n 2, 1) := by decide +kernel
theorem dX7_best_21 : decode cX7_best 21 = .ok (.invokevirtual 148, 3) := by decide +kernel
theorem dX7_best_24 : decode cX7_best 24 = .ok (.sipush 4096, 3) := by decide +kernel
theorem dX7_best_27 : decode cX7_best 27 = .ok (.if_icmp .le 5, 3) := by decide +kernel
theorem dX7_best_30 : decode cX7_best 30 = .ok (.iconst (-1), 1) := by decide +kernel
theorem dX7_best_31 : decode cX7_best 31 = .ok (.ireturn, 1) := by decide +kernel
theorem dX7_best_32 : decode cX7_best 32 = .ok (.lconst 0, 1) := by decide +kernel
theorem dX7_best_33 : decode cX7_best 33 = .ok (.lstore_n 3, 1) := by decide +kernel
theorem dX7_best_34 : decode cX7_best 34 = .ok (.iconst 0, 1) := by decide +kernel
theorem dX7_best_35 : decode cX7_best 35 = .ok (.istore 5, 2) := by decide +kernel
theorem dX7_best_37 : decode cX7_best 37 = .ok (.iload 5, 2) := by decide +kernel
theorem dX7_best_39 : decode cX7_best 39 = .ok (.aload_n 0, 1) := by decide +kernel
theorem dX7_best_40 : decode cX7_best 40 = .ok (.iload_n 2, 1) := by decide +kernel
theorem dX7_best_41 : decode cX7_best 41 = .ok (.invokevirtual 148, 3) := by decide +kernel
theorem dX7_best_44 : decode cX7_best 44 = .ok (.if_icmp .ge 40, 3) := by decide +kernel
theorem dX7_best_47 : decode cX7_best 47 = .ok (.aload_n 0, 1) := by decide +kernel
theorem dX7_best_48 : decode cX7_best 48 = .ok (.iload_n 2, 1) := by decide +kernel
theorem dX7_best_49 : decode cX7_best 49 = .ok (.iload 5, 2) := by decide +kernel
theorem dX7_best_51 : decode cX7_best 51 = .ok (.invokevirtual 151, 3) := by decide +kernel
theorem dX7_best_54 : decode cX7_best 54 = .ok (.aload_n 0, 1) := by decide +kernel
theorem dX7_best_55 : decode cX7_best 55 = .ok (.invokevirtual 154, 3) := by decide +kernel
theorem dX7_best_58 : decode cX7_best 58 = .ok (.lstore 6, 2) := by decide +kernel
theorem dX7_best_60 : decode cX7_best 60 = .ok (.lload 6, 2) := by decide +kernel
theorem dX7_best_62 : decode cX7_best 62 = .ok (.lload_n 3, 1) := by decide +kernel
theorem dX7_best_63 : decode cX7_best 63 = .ok (.lcmp, 1) := by decide +kernel
theorem dX7_best_64 : decode cX7_best 64 = .ok (.ifCond .le 14, 3) := by decide +kernel
theorem dX7_best_67 : decode cX7_best 67 = .ok (.lload 6, 2) := by decide +kernel
theorem dX7_best_69 : decode cX7_best 69 = .ok (.lstore_n 3, 1) := by decide +kernel
theorem dX7_best_70 : decode cX7_best 70 = .ok (.aload_n 0, 1) := by decide +kernel
theorem dX7_best_71 : decode cX7_best 71 = .ok (.bipush 22, 2) := by decide +kernel
theorem dX7_best_73 : decode cX7_best 73 = .ok (.bipush 21, 2) := by decide +kernel
theorem dX7_best_75 : decode cX7_best 75 = .ok (.invokevirtual 69, 3) := by decide +kernel
theorem dX7_best_78 : decode cX7_best 78 = .ok (.iinc 5 1, 3) := by decide +kernel
theorem dX7_best_81 : decode cX7_best 81 = .ok (.goto (-44), 3) := by decide +kernel
theorem dX7_best_84 : decode cX7_best 84 = .ok (.lload_n 3, 1) := by decide +kernel
theorem dX7_best_85 : decode cX7_best 85 = .ok (.lconst 0, 1) := by decide +kernel
theorem dX7_best_86 : decode cX7_best 86 = .ok (.lcmp, 1) := by decide +kernel
theorem dX7_best_87 : decode cX7_best 87 = .ok (.ifCond .ne 6, 3) := by decide +kernel
theorem dX7_best_90 : decode cX7_best 90 = .ok (.bipush (-4), 2) := by decide +kernel
theorem dX7_best_92 : decode cX7_best 92 = .ok (.ireturn, 1) := by decide +kernel
theorem dX7_best_93 : decode cX7_best 93 = .ok (.aload_n 0, 1) := by decide +kernel
theorem dX7_best_94 : decode cX7_best 94 = .ok (.iload_n 1, 1) := by decide +kernel
theorem dX7_best_95 : decode cX7_best 95 = .ok (.bipush 22, 2) := by decide +kernel
theorem dX7_best_97 : decode cX7_best 97 = .ok (.invokevirtual 69, 3) := by decide +kernel
theorem dX7_best_100 : decode cX7_best 100 = .ok (.iload_n 2, 1) := by decide +kernel
theorem dX7_best_101 : decode cX7_best 101 = .ok (.ireturn, 1) := by decide +kernel
theorem dX7_line_0 : decode cX7_line 0 = .ok (.iload_n 1, 1) := by decide +kernel
theorem dX7_line_1 : decode cX7_line 1 = .ok (.i2l, 1) := by decide +kernel
theorem dX7_line_2 : decode cX7_line 2 = .ok (.lconst 0, 1) := by decide +kernel
theorem dX7_line_3 : decode cX7_line 3 = .ok (.ldc2_w 98, 3) := by decide +kernel
theorem dX7_line_6 : decode cX7_line 6 = .ok (.invokestatic 39, 3) := by decide +kernel
theorem dX7_line_9 : decode cX7_line 9 = .ok (.ifCond .eq 37, 3) := by decide +kernel
theorem dX7_line_12 : decode cX7_line 12 = .ok (.iload_n 2, 1) := by decide +kernel
theorem dX7_line_13 : decode cX7_line 13 = .ok (.i2l, 1) := by decide +kernel
theorem dX7_line_14 : decode cX7_line 14 = .ok (.lconst 0, 1) := by decide +kernel
theorem dX7_line_15 : decode cX7_line 15 = .ok (.ldc2_w 98, 3) := by decide +kernel
theorem dX7_line_18 : decode cX7_line 18 = .ok (.invokestatic 39, 3) := by decide +kernel
theorem dX7_line_21 : decode cX7_line 21 = .ok (.ifCond .eq 25, 3) := by decide +kernel
theorem dX7_line_24 : decode cX7_line 24 = .ok (.iload_n 3, 1) := by decide +kernel
theorem dX7_line_25 : decode cX7_line 25 = .ok (.i2l, 1) := by decide +kernel
theorem dX7_line_26 : decode cX7_line 26 = .ok (.lconst 0, 1) := by decide +kernel
theorem dX7_line_27 : decode cX7_line 27 = .ok (.ldc2_w 98, 3) := by decide +kernel
theorem dX7_line_30 : decode cX7_line 30 = .ok (.invokestatic 39, 3) := by decide +kernel
theorem dX7_line_33 : decode cX7_line 33 = .ok (.ifCond .eq 13, 3) := by decide +kernel
theorem dX7_line_36 : decode cX7_line 36 = .ok (.iload_n 1, 1) := by decide +kernel
theorem dX7_line_37 : decode cX7_line 37 = .ok (.iload_n 2, 1) := by decide +kernel
theorem dX7_line_38 : decode cX7_line 38 = .ok (.iadd, 1) := by decide +kernel
theorem dX7_line_39 : decode cX7_line 39 = .ok (.iload_n 3, 1) := by decide +kernel
theorem dX7_line_40 : decode cX7_line 40 = .ok (.iadd, 1) := by decide +kernel
theorem dX7_line_41 : decode cX7_line 41 = .ok (.bipush 64, 2) := by decide +kernel
theorem dX7_line_43 : decode cX7_line 43 = .ok (.if_icmp .le 5, 3) := by decide +kernel
theorem dX7_line_46 : decode cX7_line 46 = .ok (.iconst (-1), 1) := by decide +kernel
theorem dX7_line_47 : decode cX7_line 47 = .ok (.ireturn, 1) := by decide +kernel
theorem dX7_line_48 : decode cX7_line 48 = .ok (.aload_n 0, 1) := by decide +kernel
theorem dX7_line_49 : decode cX7_line 49 = .ok (.iload_n 1, 1) := by decide +kernel
theorem dX7_line_50 : decode cX7_line 50 = .ok (.putfield 158, 3) := by decide +kernel
theorem dX7_line_53 : decode cX7_line 53 = .ok (.aload_n 0, 1) := by decide +kernel
theorem dX7_line_54 : decode cX7_line 54 = .ok (.iload_n 2, 1) := by decide +kernel
theorem dX7_line_55 : decode cX7_line 55 = .ok (.putfield 161, 3) := by decide +kernel
theorem dX7_line_58 : decode cX7_line 58 = .ok (.aload_n 0, 1) := by decide +kernel
theorem dX7_line_59 : decode cX7_line 59 = .ok (.iload_n 3, 1) := by decide +kernel
theorem dX7_line_60 : decode cX7_line 60 = .ok (.putfield 164, 3) := by decide +kernel
theorem dX7_line_63 : decode cX7_line 63 = .ok (.iconst 0, 1) := by decide +kernel
theorem dX7_line_64 : decode cX7_line 64 = .ok (.ireturn, 1) := by decide +kernel
theorem dX7_seed_0 : decode cX7_seed 0 = .ok (.lload_n 1, 1) := by decide +kernel
theorem dX7_seed_1 : decode cX7_seed 1 = .ok (.lconst 0, 1) := by decide +kernel
theorem dX7_seed_2 : decode cX7_seed 2 = .ok (.lcmp, 1) := by decide +kernel
theorem dX7_seed_3 : decode cX7_seed 3 = .ok (.ifCond .ge 5, 3) := by decide +kernel
theorem dX7_seed_6 : decode cX7_seed 6 = .ok (.iconst (-1), 1) := by decide +kernel
theorem dX7_seed_7 : decode cX7_seed 7 = .ok (.ireturn, 1) := by decide +kernel
theorem dX7_seed_8 : decode cX7_seed 8 = .ok (.aload_n 0, 1) := by decide +kernel
theorem dX7_seed_9 : decode cX7_seed 9 = .ok (.lload_n 1, 1) := by decide +kernel
theorem dX7_seed_10 : decode cX7_seed 10 = .ok (.ldc2_w 167, 3) := by decide +kernel
theorem dX7_seed_13 : decode cX7_seed 13 = .ok (.land, 1) := by decide +kernel
theorem dX7_seed_14 : decode cX7_seed 14 = .ok (.putfield 20, 3) := by decide +kernel
theorem dX7_seed_17 : decode cX7_seed 17 = .ok (.iconst 0, 1) := by decide +kernel
theorem dX7_seed_18 : decode cX7_seed 18 = .ok (.ireturn, 1) := by decide +kernel
theorem dX7_send_0 : decode cX7_send 0 = .ok (.iload_n 1, 1) := by decide +kernel
theorem dX7_send_1 : decode cX7_send 1 = .ok (.invokestatic 53, 3) := by decide +kernel
theorem dX7_send_4 : decode cX7_send 4 = .ok (.ifCond .eq 10, 3) := by decide +kernel
theorem dX7_send_7 : decode cX7_send 7 = .ok (.iload_n 2, 1) := by decide +kernel
theorem dX7_send_8 : decode cX7_send 8 = .ok (.invokestatic 53, 3) := by decide +kernel
theorem dX7_send_11 : decode cX7_send 11 = .ok (.ifCond .ne 5, 3) := by decide +kernel
theorem dX7_send_14 : decode cX7_send 14 = .ok (.iconst (-1), 1) := by decide +kernel
theorem dX7_send_15 : decode cX7_send 15 = .ok (.ireturn, 1) := by decide +kernel
theorem dX7_send_16 : decode cX7_send 16 = .ok (.aload_n 0, 1) := by decide +kernel
theorem dX7_send_17 : decode cX7_send 17 = .ok (.getfield 20, 3) := by decide +kernel
theorem dX7_send_20 : decode cX7_send 20 = .ok (.lstore_n 3, 1) := by decide +kernel
theorem dX7_send_21 : decode cX7_send 21 = .ok (.aload_n 0, 1) := by decide +kernel
theorem dX7_send_22 : decode cX7_send 22 = .ok (.getfield 13, 3) := by decide +kernel
theorem dX7_send_25 : decode cX7_send 25 = .ok (.bipush 20, 2) := by decide +kernel
theorem dX7_send_27 : decode cX7_send 27 = .ok (.iconst 0, 1) := by decide +kernel
theorem dX7_send_28 : decode cX7_send 28 = .ok (.iastore, 1) := by decide +kernel
theorem dX7_send_29 : decode cX7_send 29 = .ok (.iconst 0, 1) := by decide +kernel
theorem dX7_send_30 : decode cX7_send 30 = .ok (.istore 5, 2) := by decide +kernel
theorem dX7_send_32 : decode cX7_send 32 = .ok (.iconst 0, 1) := by decide +kernel
theorem dX7_send_33 : decode cX7_send 33 = .ok (.istore 6, 2) := by decide +kernel
theorem dX7_send_35 : decode cX7_send 35 = .ok (.iload 6, 2) := by decide +kernel
theorem dX7_send_37 : decode cX7_send 37 = .ok (.aload_n 0, 1) := by decide +kernel
theorem dX7_send_38 : decode cX7_send 38 = .ok (.getfield 13, 3) := by decide +kernel
theorem dX7_send_41 : decode cX7_send 41 = .ok (.iload_n 2, 1) := by decide +kernel
theorem dX7_send_42 : decode cX7_send 42 = .ok (.iaload, 1) := by decide +kernel
theorem dX7_send_43 : decode cX7_send 43 = .ok (.if_icmp .ge 135, 3) := by decide +kernel
theorem dX7_send_46 : decode cX7_send 46 = .ok (.lload_n 3, 1) := by decide +kernel
theorem dX7_send_47 : decode cX7_send 47 = .ok (.ldc2_w 169, 3) := by decide +kernel
theorem dX7_send_50 : decode cX7_send 50 = .ok (.lmul, 1) := by decide +kernel
theorem dX7_send_51 : decode cX7_send 51 = .ok (.ldc2_w 37, 3) := by decide +kernel
theorem dX7_send_54 : decode cX7_send 54 = .ok (.ladd, 1) := by decide +kernel
theorem dX7_send_55 : decode cX7_send 55 = .ok (.ldc2_w 167, 3) := by decide +kernel
theorem dX7_send_58 : decode cX7_send 58 = .ok (.land, 1) := by decide +kernel
theorem dX7_send_59 : decode cX7_send 59 = .ok (.lstore_n 3, 1) := by decide +kernel
theorem dX7_send_60 : decode cX7_send 60 = .ok (.lload_n 3, 1) := by decide +kernel
theorem dX7_send_61 : decode cX7_send 61 = .ok (.bipush 42, 2) := by decide +kernel
theorem dX7_send_63 : decode cX7_send 63 = .ok (.lshr, 1) := by decide +kernel
theorem dX7_send_64 : decode cX7_send 64 = .ok (.l2i, 1) := by decide +kernel
theorem dX7_send_65 : decode cX7_send 65 = .ok (.istore 7, 2) := by decide +kernel
theorem dX7_send_67 : decode cX7_send 67 = .ok (.aload_n 0, 1) := by decide +kernel
theorem dX7_send_68 : decode cX7_send 68 = .ok (.getfield 17, 3) := by decide +kernel
theorem dX7_send_71 : decode cX7_send 71 = .ok (.bipush 30, 2) := by decide +kernel
theorem dX7_send_73 : decode cX7_send 73 = .ok (.iload_n 2, 1) := by decide +kernel
theorem dX7_send_74 : decode cX7_send 74 = .ok (.imul, 1) := by decide +kernel
theorem dX7_send_75 : decode cX7_send 75 = .ok (.iload 6, 2) := by decide +kernel
theorem dX7_send_77 : decode cX7_send 77 = .ok (.iadd, 1) := by decide +kernel
theorem dX7_send_78 : decode cX7_send 78 = .ok (.iaload, 1) := by decide +kernel
theorem dX7_send_79 : decode cX7_send 79 = .ok (.istore 8, 2) := by decide +kernel
theorem dX7_send_81 : decode cX7_send 81 = .ok (.iload 7, 2) := by decide +kernel
theorem dX7_send_83 : decode cX7_send 83 = .ok (.aload_n 0, 1) := by decide +kernel
theorem dX7_send_84 : decode cX7_send 84 = .ok (.getfield 158, 3) := by decide +kernel
theorem dX7_send_87 : decode cX7_send 87 = .ok (.if_icmp .lt 85, 3) := by decide +kernel
theorem dX7_send_90 : decode cX7_send 90 = .ok (.iload 7, 2) := by decide +kernel
theorem dX7_send_92 : decode cX7_send 92 = .ok (.aload_n 0, 1) := by decide +kernel
theorem dX7_send_93 : decode cX7_send 93 = .ok (.getfield 158, 3) := by decide +kernel
theorem dX7_send_96 : decode cX7_send 96 = .ok (.aload_n 0, 1) := by decide +kernel
theorem dX7_send_97 : decode cX7_send 97 = .ok (.getfield 161, 3) := by decide +kernel
theorem dX7_send_100 : decode cX7_send 100 = .ok (.iadd, 1) := by decide +kernel
theorem dX7_send_101 : decode cX7_send 101 = .ok (.if_icmp .ge 21, 3) := by decide +kernel
theorem dX7_send_104 : decode cX7_send 104 = .ok (.aload_n 0, 1) := by decide +kernel
theorem dX7_send_105 : decode cX7_send 105 = .ok (.iload 5, 2) := by decide +kernel
theorem dX7_send_107 : decode cX7_send 107 = .ok (.iload 7, 2) := by decide +kernel
theorem dX7_send_109 : decode cX7_send 109 = .ok (.aload_n 0, 1) := by decide +kernel
theorem dX7_send_110 : decode cX7_send 110 = .ok (.getfield 7, 3) := by decide +kernel
theorem dX7_send_113 : decode cX7_send 113 = .ok (.irem, 1) := by decide +kernel
theorem dX7_send_114 : decode cX7_send 114 = .ok (.invokevirtual 171, 3) := by decide +kernel
theorem dX7_send_117 : decode cX7_send 117 = .ok (.istore 5, 2) := by decide +kernel
theorem dX7_send_119 : decode cX7_send 119 = .ok (.goto 43, 3) := by decide +kernel
theorem dX7_send_122 : decode cX7_send 122 = .ok (.iload 7, 2) := by decide +kernel
theorem dX7_send_124 : decode cX7_send 124 = .ok (.aload_n 0, 1) := by decide +kernel
theorem dX7_send_125 : decode cX7_send 125 = .ok (.getfield 158, 3) := by decide +kernel
theorem dX7_send_128 : decode cX7_send 128 = .ok (.aload_n 0, 1) := by decide +kernel
theorem dX7_send_129 : decode cX7_send 129 = .ok (.getfield 161, 3) := by decide +kernel
theorem dX7_send_132 : decode cX7_send 132 = .ok (.iadd, 1) := by decide +kernel
theorem dX7_send_133 : decode cX7_send 133 = .ok (.aload_n 0, 1) := by decide +kernel
theorem dX7_send_134 : decode cX7_send 134 = .ok (.getfield 164, 3) := by decide +kernel
theorem dX7_send_137 : decode cX7_send 137 = .ok (.iadd, 1) := by decide +kernel
theorem dX7_send_138 : decode cX7_send 138 = .ok (.if_icmp .ge 24, 3) := by decide +kernel
theorem dX7_send_141 : decode cX7_send 141 = .ok (.iload 8, 2) := by decide +kernel
theorem dX7_send_143 : decode cX7_send 143 = .ok (.iload 7, 2) := by decide +kernel
theorem dX7_send_145 : decode cX7_send 145 = .ok (.aload_n 0, 1) := by decide +kernel
theorem dX7_send_146 : decode cX7_send 146 = .ok (.getfield 7, 3) := by decide +kernel
theorem dX7_send_149 : decode cX7_send 149 = .ok (.iconst 1, 1) := by decide +kernel
theorem dX7_send_150 : decode cX7_send 150 = .ok (.isub, 1) := by decide +kernel
theorem dX7_send_151 : decode cX7_send 151 = .ok (.irem, 1) := by decide +kernel
theorem dX7_send_152 : decode cX7_send 152 = .ok (.iadd, 1) := by decide +kernel
theorem dX7_send_153 : decode cX7_send 153 = .ok (.iconst 1, 1) := by decide +kernel
theorem dX7_send_154 : decode cX7_send 154 = .ok (.iadd, 1) := by decide +kernel
theorem dX7_send_155 : decode cX7_send 155 = .ok (.aload_n 0, 1) := by decide +kernel
theorem dX7_send_156 : decode cX7_send 156 = .ok (.getfield 7, 3) := by decide +kernel
theorem dX7_send_159 : decode cX7_send 159 = .ok (.irem, 1) := by decide +kernel
theorem dX7_send_160 : decode cX7_send 160 = .ok (.istore 8, 2) := by decide +kernel
theorem dX7_send_162 : decode cX7_send 162 = .ok (.aload_n 0, 1) := by decide +kernel
theorem dX7_send_163 : decode cX7_send 163 = .ok (.iload 5, 2) := by decide +kernel
theorem dX7_send_165 : decode cX7_send 165 = .ok (.iload 8, 2) := by decide +kernel
theorem dX7_send_167 : decode cX7_send 167 = .ok (.invokevirtual 171, 3) := by decide +kernel
theorem dX7_send_170 : decode cX7_send 170 = .ok (.istore 5, 2) := by decide +kernel
theorem dX7_send_172 : decode cX7_send 172 = .ok (.iinc 6 1, 3) := by decide +kernel
theorem dX7_send_175 : decode cX7_send 175 = .ok (.goto (-140), 3) := by decide +kernel
theorem dX7_send_178 : decode cX7_send 178 = .ok (.iload 5, 2) := by decide +kernel
theorem dX7_send_180 : decode cX7_send 180 = .ok (.bipush 24, 2) := by decide +kernel
theorem dX7_send_182 : decode cX7_send 182 = .ok (.if_icmp .le 6, 3) := by decide +kernel
theorem dX7_send_185 : decode cX7_send 185 = .ok (.bipush (-5), 2) := by decide +kernel
theorem dX7_send_187 : decode cX7_send 187 = .ok (.ireturn, 1) := by decide +kernel
theorem dX7_send_188 : decode cX7_send 188 = .ok (.aload_n 0, 1) := by decide +kernel
theorem dX7_send_189 : decode cX7_send 189 = .ok (.lload_n 3, 1) := by decide +kernel
theorem dX7_send_190 : decode cX7_send 190 = .ok (.putfield 20, 3) := by decide +kernel
theorem dX7_send_193 : decode cX7_send 193 = .ok (.aload_n 0, 1) := by decide +kernel
theorem dX7_send_194 : decode cX7_send 194 = .ok (.iload_n 1, 1) := by decide +kernel
theorem dX7_send_195 : decode cX7_send 195 = .ok (.bipush 20, 2) := by decide +kernel
theorem dX7_send_197 : decode cX7_send 197 = .ok (.invokevirtual 69, 3) := by decide +kernel
theorem dX7_send_200 : decode cX7_send 200 = .ok (.aload_n 0, 1) := by decide +kernel
theorem dX7_send_201 : decode cX7_send 201 = .ok (.getfield 13, 3) := by decide +kernel
theorem dX7_send_204 : decode cX7_send 204 = .ok (.iload_n 1, 1) := by decide +kernel
theorem dX7_send_205 : decode cX7_send 205 = .ok (.iaload, 1) := by decide +kernel
theorem dX7_send_206 : decode cX7_send 206 = .ok (.ireturn, 1) := by decide +kernel
theorem dX7_adds_0 : decode cX7_adds 0 = .ok (.iload_n 1, 1) := by decide +kernel
theorem dX7_adds_1 : decode cX7_adds 1 = .ok (.bipush 24, 2) := by decide +kernel
theorem dX7_adds_3 : decode cX7_adds 3 = .ok (.if_icmp .ge 10, 3) := by decide +kernel
theorem dX7_adds_6 : decode cX7_adds 6 = .ok (.aload_n 0, 1) := by decide +kernel
theorem dX7_adds_7 : decode cX7_adds 7 = .ok (.bipush 20, 2) := by decide +kernel
theorem dX7_adds_9 : decode cX7_adds 9 = .ok (.iload_n 2, 1) := by decide +kernel
theorem dX7_adds_10 : decode cX7_adds 10 = .ok (.invokevirtual 61, 3) := by decide +kernel
theorem dX7_adds_13 : decode cX7_adds 13 = .ok (.iload_n 1, 1) := by decide +kernel
theorem dX7_adds_14 : decode cX7_adds 14 = .ok (.iconst 1, 1) := by decide +kernel
theorem dX7_adds_15 : decode cX7_adds 15 = .ok (.iadd, 1) := by decide +kernel
theorem dX7_adds_16 : decode cX7_adds 16 = .ok (.ireturn, 1) := by decide +kernel
theorem dX7_count_0 : decode cX7_count 0 = .ok (.iconst 0, 1) := by decide +kernel
theorem dX7_count_1 : decode cX7_count 1 = .ok (.istore_n 2, 1) := by decide +kernel
theorem dX7_count_2 : decode cX7_count 2 = .ok (.iconst 0, 1) := by decide +kernel
theorem dX7_count_3 : decode cX7_count 3 = .ok (.istore_n 3, 1) := by decide +kernel
theorem dX7_count_4 : decode cX7_count 4 = .ok (.iload_n 3, 1) := by decide +kernel
theorem dX7_count_5 : decode cX7_count 5 = .ok (.bipush 12, 2) := by decide +kernel
theorem dX7_count_7 : decode cX7_count 7 = .ok (.if_icmp .ge 18, 3) := by decide +kernel
theorem dX7_count_10 : decode cX7_count 10 = .ok (.iload_n 2, 1) := by decide +kernel
theorem dX7_count_11 : decode cX7_count 11 = .ok (.aload_n 0, 1) := by decide +kernel
theorem dX7_count_12 : decode cX7_count 12 = .ok (.getfield 13, 3) := by decide +kernel
theorem dX7_count_15 : decode cX7_count 15 = .ok (.iload_n 3, 1) := by decide +kernel
theorem dX7_count_16 : decode cX7_count 16 = .ok (.iaload, 1) := by decide +kernel
theorem dX7_count_17 : decode cX7_count 17 = .ok (.iadd, 1) := by decide +kernel
theorem dX7_count_18 : decode cX7_count 18 = .ok (.istore_n 2, 1) := by decide +kernel
theorem dX7_count_19 : decode cX7_count 19 = .ok (.iinc 3 1, 3) := by decide +kernel
theorem dX7_count_22 : decode cX7_count 22 = .ok (.goto (-18), 3) := by decide +kernel
theorem dX7_count_25 : decode cX7_count 25 = .ok (.iload_n 1, 1) := by decide +kernel
theorem dX7_count_26 : decode cX7_count 26 = .ok (.tableswitch 47 0 3 #[30, 35, 40, 45], 30) := by decide +kernel
theorem dX7_count_56 : decode cX7_count 56 = .ok (.aload_n 0, 1) := by decide +kernel
theorem dX7_count_57 : decode cX7_count 57 = .ok (.getfield 7, 3) := by decide +kernel
theorem dX7_count_60 : decode cX7_count 60 = .ok (.ireturn, 1) := by decide +kernel
theorem dX7_count_61 : decode cX7_count 61 = .ok (.aload_n 0, 1) := by decide +kernel
theorem dX7_count_62 : decode cX7_count 62 = .ok (.getfield 50, 3) := by decide +kernel
theorem dX7_count_65 : decode cX7_count 65 = .ok (.ireturn, 1) := by decide +kernel
theorem dX7_count_66 : decode cX7_count 66 = .ok (.aload_n 0, 1) := by decide +kernel
theorem dX7_count_67 : decode cX7_count 67 = .ok (.getfield 47, 3) := by decide +kernel
theorem dX7_count_70 : decode cX7_count 70 = .ok (.ireturn, 1) := by decide +kernel
theorem dX7_count_71 : decode cX7_count 71 = .ok (.iload_n 2, 1) := by decide +kernel
theorem dX7_count_72 : decode cX7_count 72 = .ok (.ireturn, 1) := by decide +kernel
theorem dX7_count_73 : decode cX7_count 73 = .ok (.iconst (-1), 1) := by decide +kernel
theorem dX7_count_74 : decode cX7_count 74 = .ok (.ireturn, 1) := by decide +kernel
theorem dJ9_max_7cf53_0 : decode cJ9_max_7cf53 0 = .ok (.iload_n 0, 1) := by decide +kernel
theorem dJ9_max_7cf53_1 : decode cJ9_max_7cf53 1 = .ok (.iload_n 1, 1) := by decide +kernel
theorem dJ9_max_7cf53_2 : decode cJ9_max_7cf53 2 = .ok (.if_icmp .lt 7, 3) := by decide +kernel
theorem dJ9_max_7cf53_5 : decode cJ9_max_7cf53 5 = .ok (.iload_n 0, 1) := by decide +kernel
theorem dJ9_max_7cf53_6 : decode cJ9_max_7cf53 6 = .ok (.goto 4, 3) := by decide +kernel
theorem dJ9_max_7cf53_9 : decode cJ9_max_7cf53 9 = .ok (.iload_n 1, 1) := by decide +kernel
theorem dJ9_max_7cf53_10 : decode cJ9_max_7cf53 10 = .ok (.ireturn, 1) := by decide +kernel
theorem dJ9_min_7cf53_0 : decode cJ9_min_7cf53 0 = .ok (.iload_n 0, 1) := by decide +kernel
theorem dJ9_min_7cf53_1 : decode cJ9_min_7cf53 1 = .ok (.iload_n 1, 1) := by decide +kernel
theorem dJ9_min_7cf53_2 : decode cJ9_min_7cf53 2 = .ok (.if_icmp .gt 7, 3) := by decide +kernel
theorem dJ9_min_7cf53_5 : decode cJ9_min_7cf53 5 = .ok (.iload_n 0, 1) := by decide +kernel
theorem dJ9_min_7cf53_6 : decode cJ9_min_7cf53 6 = .ok (.goto 4, 3) := by decide +kernel
theorem dJ9_min_7cf53_9 : decode cJ9_min_7cf53 9 = .ok (.iload_n 1, 1) := by decide +kernel
theorem dJ9_min_7cf53_10 : decode cJ9_min_7cf53 10 = .ok (.ireturn, 1) := by decide +kernel
theorem dJ9_min_f86c9_0 : decode cJ9_min_f86c9 0 = .ok (.lload_n 0, 1) := by decide +kernel
theorem dJ9_min_f86c9_1 : decode cJ9_min_f86c9 1 = .ok (.lload_n 2, 1) := by decide +kernel
theorem dJ9_min_f86c9_2 : decode cJ9_min_f86c9 2 = .ok (.lcmp, 1) := by decide +kernel
theorem dJ9_min_f86c9_3 : decode cJ9_min_f86c9 3 = .ok (.ifCond .gt 7, 3) := by decide +kernel
theorem dJ9_min_f86c9_6 : decode cJ9_min_f86c9 6 = .ok (.lload_n 0, 1) := by decide +kernel
theorem dJ9_min_f86c9_7 : decode cJ9_min_f86c9 7 = .ok (.goto 4, 3) := by decide +kernel
theorem dJ9_min_f86c9_10 : decode cJ9_min_f86c9 10 = .ok (.lload_n 2, 1) := by decide +kernel
theorem dJ9_min_f86c9_11 : decode cJ9_min_f86c9 11 = .ok (.lreturn, 1) := by decide +kernel
theorem dL_law_0 : decode cL_law 0 = .ok (.new 7, 3) := by decide +kernel
theorem dL_law_3 : decode cL_law 3 = .ok (.dup, 1) := by decide +kernel
theorem dL_law_4 : decode cL_law 4 = .ok (.invokespecial 9, 3) := by decide +kernel
theorem dL_law_7 : decode cL_law 7 = .ok (.astore_n 1, 1) := by decide +kernel
theorem dL_law_8 : decode cL_law 8 = .ok (.new 10, 3) := by decide +kernel
theorem dL_law_11 : decode cL_law 11 = .ok (.dup, 1) := by decide +kernel
theorem dL_law_12 : decode cL_law 12 = .ok (.invokespecial 12, 3) := by decide +kernel
theorem dL_law_15 : decode cL_law 15 = .ok (.astore_n 2, 1) := by decide +kernel
theorem dL_law_16 : decode cL_law 16 = .ok (.iconst 0, 1) := by decide +kernel
theorem dL_law_17 : decode cL_law 17 = .ok (.istore_n 3, 1) := by decide +kernel
theorem dL_law_18 : decode cL_law 18 = .ok (.iload_n 3, 1) := by decide +kernel
theorem dL_law_19 : decode cL_law 19 = .ok (.aload_n 0, 1) := by decide +kernel
theorem dL_law_20 : decode cL_law 20 = .ok (.arraylength, 1) := by decide +kernel
theorem dL_law_21 : decode cL_law 21 = .ok (.bipush 6, 2) := by decide +kernel
theorem dL_law_23 : decode cL_law 23 = .ok (.isub, 1) := by decide +kernel
theorem dL_law_24 : decode cL_law 24 = .ok (.if_icmp .gt 944, 3) := by decide +kernel
theorem dL_law_27 : decode cL_law 27 = .ok (.aload_n 0, 1) := by decide +kernel
theorem dL_law_28 : decode cL_law 28 = .ok (.iload_n 3, 1) := by decide +kernel
theorem dL_law_29 : decode cL_law 29 = .ok (.iaload, 1) := by decide +kernel
theorem dL_law_30 : decode cL_law 30 = .ok (.bipush 31, 2) := by decide +kernel
theorem dL_law_32 : decode cL_law 32 = .ok (.iand, 1) := by decide +kernel
theorem dL_law_33 : decode cL_law 33 = .ok (.tableswitch 929 0 22 #[107, 130, 203, 236, 299, 352, 375, 398, 431, 464, 487, 521, 564, 598, 641, 685, 708, 721, 744, 777, 820, 873, 906], 107) := by decide +kernel
theorem dL_law_140 : decode cL_law 140 = .ok (.aload_n 1, 1) := by decide +kernel
theorem dL_law_141 : decode cL_law 141 = .ok (.aload_n 0, 1) := by decide +kernel
theorem dL_law_142 : decode cL_law 142 = .ok (.iload_n 3, 1) := by decide +kernel
theorem dL_law_143 : decode cL_law 143 = .ok (.iconst 1, 1) := by decide +kernel
theorem dL_law_144 : decode cL_law 144 = .ok (.iadd, 1) := by decide +kernel
theorem dL_law_145 : decode cL_law 145 = .ok (.iaload, 1) := by decide +kernel
theorem dL_law_146 : decode cL_law 146 = .ok (.invokevirtual 13, 3) := by decide +kernel
theorem dL_law_149 : decode cL_law 149 = .ok (.aload_n 2, 1) := by decide +kernel
theorem dL_law_150 : decode cL_law 150 = .ok (.aload_n 0, 1) := by decide +kernel
