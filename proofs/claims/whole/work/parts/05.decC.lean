theorem dX6_in_0 : decode cX6_in 0 = .ok (.lload_n 0, 1) := by decide +kernel
theorem dX6_in_1 : decode cX6_in 1 = .ok (.lload_n 2, 1) := by decide +kernel
theorem dX6_in_2 : decode cX6_in 2 = .ok (.lcmp, 1) := by decide +kernel
theorem dX6_in_3 : decode cX6_in 3 = .ok (.ifCond .lt 14, 3) := by decide +kernel
theorem dX6_in_6 : decode cX6_in 6 = .ok (.lload_n 0, 1) := by decide +kernel
theorem dX6_in_7 : decode cX6_in 7 = .ok (.lload 4, 2) := by decide +kernel
theorem dX6_in_9 : decode cX6_in 9 = .ok (.lcmp, 1) := by decide +kernel
theorem dX6_in_10 : decode cX6_in 10 = .ok (.ifCond .gt 7, 3) := by decide +kernel
theorem dX6_in_13 : decode cX6_in 13 = .ok (.iconst 1, 1) := by decide +kernel
theorem dX6_in_14 : decode cX6_in 14 = .ok (.goto 4, 3) := by decide +kernel
theorem dX6_in_17 : decode cX6_in 17 = .ok (.iconst 0, 1) := by decide +kernel
theorem dX6_in_18 : decode cX6_in 18 = .ok (.ireturn, 1) := by decide +kernel
theorem dX6_within_0 : decode cX6_within 0 = .ok (.iload_n 0, 1) := by decide +kernel
theorem dX6_within_1 : decode cX6_within 1 = .ok (.iload_n 1, 1) := by decide +kernel
theorem dX6_within_2 : decode cX6_within 2 = .ok (.if_icmp .ge 7, 3) := by decide +kernel
theorem dX6_within_5 : decode cX6_within 5 = .ok (.iload_n 1, 1) := by decide +kernel
theorem dX6_within_6 : decode cX6_within 6 = .ok (.goto 13, 3) := by decide +kernel
theorem dX6_within_9 : decode cX6_within 9 = .ok (.iload_n 0, 1) := by decide +kernel
theorem dX6_within_10 : decode cX6_within 10 = .ok (.iload_n 2, 1) := by decide +kernel
theorem dX6_within_11 : decode cX6_within 11 = .ok (.if_icmp .le 7, 3) := by decide +kernel
theorem dX6_within_14 : decode cX6_within 14 = .ok (.iload_n 2, 1) := by decide +kernel
theorem dX6_within_15 : decode cX6_within 15 = .ok (.goto 4, 3) := by decide +kernel
theorem dX6_within_18 : decode cX6_within 18 = .ok (.iload_n 0, 1) := by decide +kernel
theorem dX6_within_19 : decode cX6_within 19 = .ok (.ireturn, 1) := by decide +kernel
theorem dX6_init_0 : decode cX6_init 0 = .ok (.aload_n 0, 1) := by decide +kernel
theorem dX6_init_1 : decode cX6_init 1 = .ok (.invokespecial 7, 3) := by decide +kernel
theorem dX6_init_4 : decode cX6_init 4 = .ok (.aload_n 0, 1) := by decide +kernel
theorem dX6_init_5 : decode cX6_init 5 = .ok (.sipush 960, 3) := by decide +kernel
theorem dX6_init_8 : decode cX6_init 8 = .ok (.newarray .int, 2) := by decide +kernel
theorem dX6_init_10 : decode cX6_init 10 = .ok (.putfield 13, 3) := by decide +kernel
theorem dX6_init_13 : decode cX6_init 13 = .ok (.aload_n 0, 1) := by decide +kernel
theorem dX6_init_14 : decode cX6_init 14 = .ok (.bipush 6, 2) := by decide +kernel
theorem dX6_init_16 : decode cX6_init 16 = .ok (.newarray .int, 2) := by decide +kernel
theorem dX6_init_18 : decode cX6_init 18 = .ok (.putfield 17, 3) := by decide +kernel
theorem dX6_init_21 : decode cX6_init 21 = .ok (.aload_n 0, 1) := by decide +kernel
theorem dX6_init_22 : decode cX6_init 22 = .ok (.sipush 960, 3) := by decide +kernel
theorem dX6_init_25 : decode cX6_init 25 = .ok (.newarray .int, 2) := by decide +kernel
theorem dX6_init_27 : decode cX6_init 27 = .ok (.putfield 20, 3) := by decide +kernel
theorem dX6_init_30 : decode cX6_init 30 = .ok (.aload_n 0, 1) := by decide +kernel
theorem dX6_init_31 : decode cX6_init 31 = .ok (.sipush 960, 3) := by decide +kernel
theorem dX6_init_34 : decode cX6_init 34 = .ok (.newarray .int, 2) := by decide +kernel
theorem dX6_init_36 : decode cX6_init 36 = .ok (.putfield 23, 3) := by decide +kernel
theorem dX6_init_39 : decode cX6_init 39 = .ok (.aload_n 0, 1) := by decide +kernel
theorem dX6_init_40 : decode cX6_init 40 = .ok (.bipush 18, 2) := by decide +kernel
theorem dX6_init_42 : decode cX6_init 42 = .ok (.newarray .int, 2) := by decide +kernel
theorem dX6_init_44 : decode cX6_init 44 = .ok (.putfield 26, 3) := by decide +kernel
theorem dX6_init_47 : decode cX6_init 47 = .ok (.aload_n 0, 1) := by decide +kernel
theorem dX6_init_48 : decode cX6_init 48 = .ok (.sipush 160, 3) := by decide +kernel
theorem dX6_init_51 : decode cX6_init 51 = .ok (.newarray .int, 2) := by decide +kernel
theorem dX6_init_53 : decode cX6_init 53 = .ok (.putfield 29, 3) := by decide +kernel
theorem dX6_init_56 : decode cX6_init 56 = .ok (.aload_n 0, 1) := by decide +kernel
theorem dX6_init_57 : decode cX6_init 57 = .ok (.bipush 10, 2) := by decide +kernel
theorem dX6_init_59 : decode cX6_init 59 = .ok (.putfield 32, 3) := by decide +kernel
theorem dX6_init_62 : decode cX6_init 62 = .ok (.aload_n 0, 1) := by decide +kernel
theorem dX6_init_63 : decode cX6_init 63 = .ok (.bipush 32, 2) := by decide +kernel
theorem dX6_init_65 : decode cX6_init 65 = .ok (.newarray .int, 2) := by decide +kernel
theorem dX6_init_67 : decode cX6_init 67 = .ok (.putfield 35, 3) := by decide +kernel
theorem dX6_init_70 : decode cX6_init 70 = .ok (.aload_n 0, 1) := by decide +kernel
theorem dX6_init_71 : decode cX6_init 71 = .ok (.bipush 30, 2) := by decide +kernel
theorem dX6_init_73 : decode cX6_init 73 = .ok (.newarray .int, 2) := by decide +kernel
theorem dX6_init_75 : decode cX6_init 75 = .ok (.putfield 38, 3) := by decide +kernel
theorem dX6_init_78 : decode cX6_init 78 = .ok (.aload_n 0, 1) := by decide +kernel
theorem dX6_init_79 : decode cX6_init 79 = .ok (.sipush 160, 3) := by decide +kernel
theorem dX6_init_82 : decode cX6_init 82 = .ok (.newarray .int, 2) := by decide +kernel
theorem dX6_init_84 : decode cX6_init 84 = .ok (.putfield 41, 3) := by decide +kernel
theorem dX6_init_87 : decode cX6_init 87 = .ok (.aload_n 0, 1) := by decide +kernel
theorem dX6_init_88 : decode cX6_init 88 = .ok (.bipush 64, 2) := by decide +kernel
theorem dX6_init_90 : decode cX6_init 90 = .ok (.newarray .int, 2) := by decide +kernel
theorem dX6_init_92 : decode cX6_init 92 = .ok (.putfield 44, 3) := by decide +kernel
theorem dX6_init_95 : decode cX6_init 95 = .ok (.aload_n 0, 1) := by decide +kernel
theorem dX6_init_96 : decode cX6_init 96 = .ok (.iconst 5, 1) := by decide +kernel
theorem dX6_init_97 : decode cX6_init 97 = .ok (.newarray .int, 2) := by decide +kernel
theorem dX6_init_99 : decode cX6_init 99 = .ok (.putfield 47, 3) := by decide +kernel
theorem dX6_init_102 : decode cX6_init 102 = .ok (.aload_n 0, 1) := by decide +kernel
theorem dX6_init_103 : decode cX6_init 103 = .ok (.bipush 30, 2) := by decide +kernel
theorem dX6_init_105 : decode cX6_init 105 = .ok (.newarray .int, 2) := by decide +kernel
theorem dX6_init_107 : decode cX6_init 107 = .ok (.putfield 50, 3) := by decide +kernel
theorem dX6_init_110 : decode cX6_init 110 = .ok (.aload_n 0, 1) := by decide +kernel
theorem dX6_init_111 : decode cX6_init 111 = .ok (.bipush 32, 2) := by decide +kernel
theorem dX6_init_113 : decode cX6_init 113 = .ok (.newarray .int, 2) := by decide +kernel
theorem dX6_init_115 : decode cX6_init 115 = .ok (.putfield 53, 3) := by decide +kernel
theorem dX6_init_118 : decode cX6_init 118 = .ok (.aload_n 0, 1) := by decide +kernel
theorem dX6_init_119 : decode cX6_init 119 = .ok (.iconst (-1), 1) := by decide +kernel
theorem dX6_init_120 : decode cX6_init 120 = .ok (.putfield 56, 3) := by decide +kernel
theorem dX6_init_123 : decode cX6_init 123 = .ok (.aload_n 0, 1) := by decide +kernel
theorem dX6_init_124 : decode cX6_init 124 = .ok (.iconst 4, 1) := by decide +kernel
theorem dX6_init_125 : decode cX6_init 125 = .ok (.newarray .boolean, 2) := by decide +kernel
theorem dX6_init_127 : decode cX6_init 127 = .ok (.putfield 59, 3) := by decide +kernel
theorem dX6_init_130 : decode cX6_init 130 = .ok (.aload_n 0, 1) := by decide +kernel
theorem dX6_init_131 : decode cX6_init 131 = .ok (.iconst 4, 1) := by decide +kernel
theorem dX6_init_132 : decode cX6_init 132 = .ok (.newarray .int, 2) := by decide +kernel
theorem dX6_init_134 : decode cX6_init 134 = .ok (.putfield 63, 3) := by decide +kernel
theorem dX6_init_137 : decode cX6_init 137 = .ok (.aload_n 0, 1) := by decide +kernel
theorem dX6_init_138 : decode cX6_init 138 = .ok (.iconst 4, 1) := by decide +kernel
theorem dX6_init_139 : decode cX6_init 139 = .ok (.newarray .int, 2) := by decide +kernel
theorem dX6_init_141 : decode cX6_init 141 = .ok (.putfield 66, 3) := by decide +kernel
theorem dX6_init_144 : decode cX6_init 144 = .ok (.aload_n 0, 1) := by decide +kernel
theorem dX6_init_145 : decode cX6_init 145 = .ok (.sipush 160, 3) := by decide +kernel
theorem dX6_init_148 : decode cX6_init 148 = .ok (.newarray .int, 2) := by decide +kernel
theorem dX6_init_150 : decode cX6_init 150 = .ok (.putfield 69, 3) := by decide +kernel
theorem dX6_init_153 : decode cX6_init 153 = .ok (.iconst 0, 1) := by decide +kernel
theorem dX6_init_154 : decode cX6_init 154 = .ok (.istore_n 1, 1) := by decide +kernel
theorem dX6_init_155 : decode cX6_init 155 = .ok (.iload_n 1, 1) := by decide +kernel
theorem dX6_init_156 : decode cX6_init 156 = .ok (.bipush 32, 2) := by decide +kernel
theorem dX6_init_158 : decode cX6_init 158 = .ok (.if_icmp .ge 17, 3) := by decide +kernel
theorem dX6_init_161 : decode cX6_init 161 = .ok (.aload_n 0, 1) := by decide +kernel
theorem dX6_init_162 : decode cX6_init 162 = .ok (.getfield 35, 3) := by decide +kernel
theorem dX6_init_165 : decode cX6_init 165 = .ok (.iload_n 1, 1) := by decide +kernel
theorem dX6_init_166 : decode cX6_init 166 = .ok (.bipush 30, 2) := by decide +kernel
theorem dX6_init_168 : decode cX6_init 168 = .ok (.iastore, 1) := by decide +kernel
theorem dX6_init_169 : decode cX6_init 169 = .ok (.iinc 1 1, 3) := by decide +kernel
theorem dX6_init_172 : decode cX6_init 172 = .ok (.goto (-17), 3) := by decide +kernel
theorem dX6_init_175 : decode cX6_init 175 = .ok (.aload_n 0, 1) := by decide +kernel
theorem dX6_init_176 : decode cX6_init 176 = .ok (.iconst 0, 1) := by decide +kernel
theorem dX6_init_177 : decode cX6_init 177 = .ok (.bipush 112, 2) := by decide +kernel
theorem dX6_init_179 : decode cX6_init 179 = .ok (.bipush 97, 2) := by decide +kernel
theorem dX6_init_181 : decode cX6_init 181 = .ok (.bipush 99, 2) := by decide +kernel
theorem dX6_init_183 : decode cX6_init 183 = .ok (.bipush 101, 2) := by decide +kernel
theorem dX6_init_185 : decode cX6_init 185 = .ok (.bipush 115, 2) := by decide +kernel
theorem dX6_init_187 : decode cX6_init 187 = .ok (.bipush 32, 2) := by decide +kernel
theorem dX6_init_189 : decode cX6_init 189 = .ok (.bipush 51, 2) := by decide +kernel
theorem dX6_init_191 : decode cX6_init 191 = .ok (.bipush 32, 2) := by decide +kernel
theorem dX6_init_193 : decode cX6_init 193 = .ok (.invokevirtual 72, 3) := by decide +kernel
theorem dX6_init_196 : decode cX6_init 196 = .ok (.aload_n 0, 1) := by decide +kernel
theorem dX6_init_197 : decode cX6_init 197 = .ok (.bipush 8, 2) := by decide +kernel
theorem dX6_init_199 : decode cX6_init 199 = .ok (.bipush 59, 2) := by decide +kernel
theorem dX6_init_201 : decode cX6_init 201 = .ok (.bipush 32, 2) := by decide +kernel
theorem dX6_init_203 : decode cX6_init 203 = .ok (.bipush 116, 2) := by decide +kernel
theorem dX6_init_205 : decode cX6_init 205 = .ok (.bipush 114, 2) := by decide +kernel
theorem dX6_init_207 : decode cX6_init 207 = .ok (.bipush 101, 2) := by decide +kernel
theorem dX6_init_209 : decode cX6_init 209 = .ok (.bipush 97, 2) := by decide +kernel
theorem dX6_init_211 : decode cX6_init 211 = .ok (.bipush 100, 2) := by decide +kernel
theorem dX6_init_213 : decode cX6_init 213 = .ok (.bipush 115, 2) := by decide +kernel
theorem dX6_init_215 : decode cX6_init 215 = .ok (.invokevirtual 72, 3) := by decide +kernel
theorem dX6_init_218 : decode cX6_init 218 = .ok (.aload_n 0, 1) := by decide +kernel
theorem dX6_init_219 : decode cX6_init 219 = .ok (.bipush 16, 2) := by decide +kernel
theorem dX6_init_221 : decode cX6_init 221 = .ok (.bipush 32, 2) := by decide +kernel
theorem dX6_init_223 : decode cX6_init 223 = .ok (.bipush 53, 2) := by decide +kernel
theorem dX6_init_225 : decode cX6_init 225 = .ok (.bipush 32, 2) := by decide +kernel
theorem dX6_init_227 : decode cX6_init 227 = .ok (.bipush 59, 2) := by decide +kernel
theorem dX6_init_229 : decode cX6_init 229 = .ok (.bipush 32, 2) := by decide +kernel
theorem dX6_init_231 : decode cX6_init 231 = .ok (.bipush 100, 2) := by decide +kernel
theorem dX6_init_233 : decode cX6_init 233 = .ok (.bipush 111, 2) := by decide +kernel
theorem dX6_init_235 : decode cX6_init 235 = .ok (.bipush 117, 2) := by decide +kernel
theorem dX6_init_237 : decode cX6_init 237 = .ok (.invokevirtual 72, 3) := by decide +kernel
theorem dX6_init_240 : decode cX6_init 240 = .ok (.aload_n 0, 1) := by decide +kernel
theorem dX6_init_241 : decode cX6_init 241 = .ok (.bipush 24, 2) := by decide +kernel
theorem dX6_init_243 : decode cX6_init 243 = .ok (.bipush 98, 2) := by decide +kernel
theorem dX6_init_245 : decode cX6_init 245 = .ok (.bipush 116, 2) := by decide +kernel
theorem dX6_init_247 : decode cX6_init 247 = .ok (.bipush 115, 2) := by decide +kernel
theorem dX6_init_249 : decode cX6_init 249 = .ok (.bipush 32, 2) := by decide +kernel
theorem dX6_init_251 : decode cX6_init 251 = .ok (.bipush 50, 2) := by decide +kernel
theorem dX6_init_253 : decode cX6_init 253 = .ok (.bipush 32, 2) := by decide +kernel
theorem dX6_init_255 : decode cX6_init 255 = .ok (.bipush 59, 2) := by decide +kernel
theorem dX6_init_257 : decode cX6_init 257 = .ok (.bipush 32, 2) := by decide +kernel
theorem dX6_init_259 : decode cX6_init 259 = .ok (.invokevirtual 72, 3) := by decide +kernel
theorem dX6_init_262 : decode cX6_init 262 = .ok (.aload_n 0, 1) := by decide +kernel
theorem dX6_init_263 : decode cX6_init 263 = .ok (.getfield 17, 3) := by decide +kernel
theorem dX6_init_266 : decode cX6_init 266 = .ok (.iconst 0, 1) := by decide +kernel
theorem dX6_init_267 : decode cX6_init 267 = .ok (.bipush 32, 2) := by decide +kernel
theorem dX6_init_269 : decode cX6_init 269 = .ok (.iastore, 1) := by decide +kernel
theorem dX6_init_270 : decode cX6_init 270 = .ok (.aload_n 0, 1) := by decide +kernel
theorem dX6_init_271 : decode cX6_init 271 = .ok (.iconst 0, 1) := by decide +kernel
theorem dX6_init_272 : decode cX6_init 272 = .ok (.invokevirtual 76, 3) := by decide +kernel
theorem dX6_init_275 : decode cX6_init 275 = .ok (.aload_n 0, 1) := by decide +kernel
theorem dX6_init_276 : decode cX6_init 276 = .ok (.iconst 1, 1) := by decide +kernel
theorem dX6_init_277 : decode cX6_init 277 = .ok (.putfield 80, 3) := by decide +kernel
theorem dX6_init_280 : decode cX6_init 280 = .ok (.return_, 1) := by decide +kernel
theorem dX6_spell_0 : decode cX6_spell 0 = .ok (.aload_n 0, 1) := by decide +kernel
theorem dX6_spell_1 : decode cX6_spell 1 = .ok (.getfield 13, 3) := by decide +kernel
theorem dX6_spell_4 : decode cX6_spell 4 = .ok (.iload_n 1, 1) := by decide +kernel
theorem dX6_spell_5 : decode cX6_spell 5 = .ok (.iload_n 2, 1) := by decide +kernel
theorem dX6_spell_6 : decode cX6_spell 6 = .ok (.iastore, 1) := by decide +kernel
theorem dX6_spell_7 : decode cX6_spell 7 = .ok (.aload_n 0, 1) := by decide +kernel
theorem dX6_spell_8 : decode cX6_spell 8 = .ok (.getfield 13, 3) := by decide +kernel
theorem dX6_spell_11 : decode cX6_spell 11 = .ok (.iload_n 1, 1) := by decide +kernel
theorem dX6_spell_12 : decode cX6_spell 12 = .ok (.iconst 1, 1) := by decide +kernel
theorem dX6_spell_13 : decode cX6_spell 13 = .ok (.iadd, 1) := by decide +kernel
theorem dX6_spell_14 : decode cX6_spell 14 = .ok (.iload_n 3, 1) := by decide +kernel
theorem dX6_spell_15 : decode cX6_spell 15 = .ok (.iastore, 1) := by decide +kernel
theorem dX6_spell_16 : decode cX6_spell 16 = .ok (.aload_n 0, 1) := by decide +kernel
theorem dX6_spell_17 : decode cX6_spell 17 = .ok (.getfield 13, 3) := by decide +kernel
theorem dX6_spell_20 : decode cX6_spell 20 = .ok (.iload_n 1, 1) := by decide +kernel
theorem dX6_spell_21 : decode cX6_spell 21 = .ok (.iconst 2, 1) := by decide +kernel
theorem dX6_spell_22 : decode cX6_spell 22 = .ok (.iadd, 1) := by decide +kernel
theorem dX6_spell_23 : decode cX6_spell 23 = .ok (.iload 4, 2) := by decide +kernel
theorem dX6_spell_25 : decode cX6_spell 25 = .ok (.iastore, 1) := by decide +kernel
theorem dX6_spell_26 : decode cX6_spell 26 = .ok (.aload_n 0, 1) := by decide +kernel
theorem dX6_spell_27 : decode cX6_spell 27 = .ok (.getfield 13, 3) := by decide +kernel
theorem dX6_spell_30 : decode cX6_spell 30 = .ok (.iload_n 1, 1) := by decide +kernel
theorem dX6_spell_31 : decode cX6_spell 31 = .ok (.iconst 3, 1) := by decide +kernel
theorem dX6_spell_32 : decode cX6_spell 32 = .ok (.iadd, 1) := by decide +kernel
theorem dX6_spell_33 : decode cX6_spell 33 = .ok (.iload 5, 2) := by decide +kernel
theorem dX6_spell_35 : decode cX6_spell 35 = .ok (.iastore, 1) := by decide +kernel
theorem dX6_spell_36 : decode cX6_spell 36 = .ok (.aload_n 0, 1) := by decide +kernel
theorem dX6_spell_37 : decode cX6_spell 37 = .ok (.getfield 13, 3) := by decide +kernel
theorem dX6_spell_40 : decode cX6_spell 40 = .ok (.iload_n 1, 1) := by decide +kernel
theorem dX6_spell_41 : decode cX6_spell 41 = .ok (.iconst 4, 1) := by decide +kernel
theorem dX6_spell_42 : decode cX6_spell 42 = .ok (.iadd, 1) := by decide +kernel
theorem dX6_spell_43 : decode cX6_spell 43 = .ok (.iload 6, 2) := by decide +kernel
theorem dX6_spell_45 : decode cX6_spell 45 = .ok (.iastore, 1) := by decide +kernel
theorem dX6_spell_46 : decode cX6_spell 46 = .ok (.aload_n 0, 1) := by decide +kernel
theorem dX6_spell_47 : decode cX6_spell 47 = .ok (.getfield 13, 3) := by decide +kernel
theorem dX6_spell_50 : decode cX6_spell 50 = .ok (.iload_n 1, 1) := by decide +kernel
theorem dX6_spell_51 : decode cX6_spell 51 = .ok (.iconst 5, 1) := by decide +kernel
theorem dX6_spell_52 : decode cX6_spell 52 = .ok (.iadd, 1) := by decide +kernel
theorem dX6_spell_53 : decode cX6_spell 53 = .ok (.iload 7, 2) := by decide +kernel
theorem dX6_spell_55 : decode cX6_spell 55 = .ok (.iastore, 1) := by decide +kernel
theorem dX6_spell_56 : decode cX6_spell 56 = .ok (.aload_n 0, 1) := by decide +kernel
theorem dX6_spell_57 : decode cX6_spell 57 = .ok (.getfield 13, 3) := by decide +kernel
theorem dX6_spell_60 : decode cX6_spell 60 = .ok (.iload_n 1, 1) := by decide +kernel
theorem dX6_spell_61 : decode cX6_spell 61 = .ok (.bipush 6, 2) := by decide +kernel
theorem dX6_spell_63 : decode cX6_spell 63 = .ok (.iadd, 1) := by decide +kernel
theorem dX6_spell_64 : decode cX6_spell 64 = .ok (.iload 8, 2) := by decide +kernel
theorem dX6_spell_66 : decode cX6_spell 66 = .ok (.iastore, 1) := by decide +kernel
theorem dX6_spell_67 : decode cX6_spell 67 = .ok (.aload_n 0, 1) := by decide +kernel
theorem dX6_spell_68 : decode cX6_spell 68 = .ok (.getfield 13, 3) := by decide +kernel
theorem dX6_spell_71 : decode cX6_spell 71 = .ok (.iload_n 1, 1) := by decide +kernel
theorem dX6_spell_72 : decode cX6_spell 72 = .ok (.bipush 7, 2) := by decide +kernel
theorem dX6_spell_74 : decode cX6_spell 74 = .ok (.iadd, 1) := by decide +kernel
theorem dX6_spell_75 : decode cX6_spell 75 = .ok (.iload 9, 2) := by decide +kernel
theorem dX6_spell_77 : decode cX6_spell 77 = .ok (.iastore, 1) := by decide +kernel
theorem dX6_spell_78 : decode cX6_spell 78 = .ok (.return_, 1) := by decide +kernel
theorem dX6_isOne_0 : decode cX6_isOne 0 = .ok (.iload_n 1, 1) := by decide +kernel
theorem dX6_isOne_1 : decode cX6_isOne 1 = .ok (.i2l, 1) := by decide +kernel
theorem dX6_isOne_2 : decode cX6_isOne 2 = .ok (.lconst 0, 1) := by decide +kernel
theorem dX6_isOne_3 : decode cX6_isOne 3 = .ok (.aload_n 0, 1) := by decide +kernel
theorem dX6_isOne_4 : decode cX6_isOne 4 = .ok (.getfield 83, 3) := by decide +kernel
theorem dX6_isOne_7 : decode cX6_isOne 7 = .ok (.iconst 1, 1) := by decide +kernel
theorem dX6_isOne_8 : decode cX6_isOne 8 = .ok (.isub, 1) := by decide +kernel
theorem dX6_isOne_9 : decode cX6_isOne 9 = .ok (.i2l, 1) := by decide +kernel
theorem dX6_isOne_10 : decode cX6_isOne 10 = .ok (.invokestatic 86, 3) := by decide +kernel
theorem dX6_isOne_13 : decode cX6_isOne 13 = .ok (.ireturn, 1) := by decide +kernel
theorem dX6_isPlace_0 : decode cX6_isPlace 0 = .ok (.iload_n 0, 1) := by decide +kernel
theorem dX6_isPlace_1 : decode cX6_isPlace 1 = .ok (.i2l, 1) := by decide +kernel
theorem dX6_isPlace_2 : decode cX6_isPlace 2 = .ok (.lconst 0, 1) := by decide +kernel
theorem dX6_isPlace_3 : decode cX6_isPlace 3 = .ok (.ldc2_w 90, 3) := by decide +kernel
theorem dX6_isPlace_6 : decode cX6_isPlace 6 = .ok (.invokestatic 86, 3) := by decide +kernel
theorem dX6_isPlace_9 : decode cX6_isPlace 9 = .ok (.ireturn, 1) := by decide +kernel
theorem dX6_isOf_0 : decode cX6_isOf 0 = .ok (.iload_n 1, 1) := by decide +kernel
theorem dX6_isOf_1 : decode cX6_isOf 1 = .ok (.iconst 2, 1) := by decide +kernel
theorem dX6_isOf_2 : decode cX6_isOf 2 = .ok (.if_icmp .lt 32, 3) := by decide +kernel
theorem dX6_isOf_5 : decode cX6_isOf 5 = .ok (.iload_n 1, 1) := by decide +kernel
theorem dX6_isOf_6 : decode cX6_isOf 6 = .ok (.iconst 2, 1) := by decide +kernel
theorem dX6_isOf_7 : decode cX6_isOf 7 = .ok (.if_icmp .eq 9, 3) := by decide +kernel
theorem dX6_isOf_10 : decode cX6_isOf 10 = .ok (.iload_n 1, 1) := by decide +kernel
theorem dX6_isOf_11 : decode cX6_isOf 11 = .ok (.bipush 12, 2) := by decide +kernel
theorem dX6_isOf_13 : decode cX6_isOf 13 = .ok (.if_icmp .ne 13, 3) := by decide +kernel
theorem dX6_isOf_16 : decode cX6_isOf 16 = .ok (.iload_n 2, 1) := by decide +kernel
theorem dX6_isOf_17 : decode cX6_isOf 17 = .ok (.invokestatic 92, 3) := by decide +kernel
theorem dX6_isOf_20 : decode cX6_isOf 20 = .ok (.ifCond .eq 18, 3) := by decide +kernel
theorem dX6_isOf_23 : decode cX6_isOf 23 = .ok (.goto 11, 3) := by decide +kernel
theorem dX6_isOf_26 : decode cX6_isOf 26 = .ok (.aload_n 0, 1) := by decide +kernel
theorem dX6_isOf_27 : decode cX6_isOf 27 = .ok (.iload_n 2, 1) := by decide +kernel
theorem dX6_isOf_28 : decode cX6_isOf 28 = .ok (.invokevirtual 96, 3) := by decide +kernel
theorem dX6_isOf_31 : decode cX6_isOf 31 = .ok (.ifCond .eq 7, 3) := by decide +kernel
theorem dX6_isOf_34 : decode cX6_isOf 34 = .ok (.iconst 1, 1) := by decide +kernel
theorem dX6_isOf_35 : decode cX6_isOf 35 = .ok (.goto 4, 3) := by decide +kernel
theorem dX6_isOf_38 : decode cX6_isOf 38 = .ok (.iconst 0, 1) := by decide +kernel
theorem dX6_isOf_39 : decode cX6_isOf 39 = .ok (.ireturn, 1) := by decide +kernel
theorem dX6_mostOf_0 : decode cX6_mostOf 0 = .ok (.iload_n 0, 1) := by decide +kernel
theorem dX6_mostOf_1 : decode cX6_mostOf 1 = .ok (.ifCond .ne 9, 3) := by decide +kernel
theorem dX6_mostOf_4 : decode cX6_mostOf 4 = .ok (.sipush 999, 3) := by decide +kernel
theorem dX6_mostOf_7 : decode cX6_mostOf 7 = .ok (.goto 35, 3) := by decide +kernel
theorem dX6_mostOf_10 : decode cX6_mostOf 10 = .ok (.iload_n 0, 1) := by decide +kernel
theorem dX6_mostOf_11 : decode cX6_mostOf 11 = .ok (.iconst 3, 1) := by decide +kernel
theorem dX6_mostOf_12 : decode cX6_mostOf 12 = .ok (.if_icmp .ne 8, 3) := by decide +kernel
theorem dX6_mostOf_15 : decode cX6_mostOf 15 = .ok (.bipush 9, 2) := by decide +kernel
theorem dX6_mostOf_17 : decode cX6_mostOf 17 = .ok (.goto 25, 3) := by decide +kernel
theorem dX6_mostOf_20 : decode cX6_mostOf 20 = .ok (.iload_n 0, 1) := by decide +kernel
theorem dX6_mostOf_21 : decode cX6_mostOf 21 = .ok (.iconst 5, 1) := by decide +kernel
theorem dX6_mostOf_22 : decode cX6_mostOf 22 = .ok (.if_icmp .ne 8, 3) := by decide +kernel
theorem dX6_mostOf_25 : decode cX6_mostOf 25 = .ok (.bipush 31, 2) := by decide +kernel
theorem dX6_mostOf_27 : decode cX6_mostOf 27 = .ok (.goto 15, 3) := by decide +kernel
theorem dX6_mostOf_30 : decode cX6_mostOf 30 = .ok (.iload_n 0, 1) := by decide +kernel
theorem dX6_mostOf_31 : decode cX6_mostOf 31 = .ok (.bipush 6, 2) := by decide +kernel
theorem dX6_mostOf_33 : decode cX6_mostOf 33 = .ok (.if_icmp .ne 7, 3) := by decide +kernel
theorem dX6_mostOf_36 : decode cX6_mostOf 36 = .ok (.iconst 3, 1) := by decide +kernel
theorem dX6_mostOf_37 : decode cX6_mostOf 37 = .ok (.goto 5, 3) := by decide +kernel
theorem dX6_mostOf_40 : decode cX6_mostOf 40 = .ok (.bipush 99, 2) := by decide +kernel
theorem dX6_mostOf_42 : decode cX6_mostOf 42 = .ok (.ireturn, 1) := by decide +kernel
theorem dX6_set_0 : decode cX6_set 0 = .ok (.iload_n 1, 1) := by decide +kernel
theorem dX6_set_1 : decode cX6_set 1 = .ok (.i2l, 1) := by decide +kernel
theorem dX6_set_2 : decode cX6_set 2 = .ok (.lconst 0, 1) := by decide +kernel
theorem dX6_set_3 : decode cX6_set 3 = .ok (.ldc2_w 99, 3) := by decide +kernel
theorem dX6_set_6 : decode cX6_set 6 = .ok (.invokestatic 86, 3) := by decide +kernel
theorem dX6_set_9 : decode cX6_set 9 = .ok (.ifCond .eq 26, 3) := by decide +kernel
theorem dX6_set_12 : decode cX6_set 12 = .ok (.aload_n 0, 1) := by decide +kernel
theorem dX6_set_13 : decode cX6_set 13 = .ok (.iload_n 1, 1) := by decide +kernel
theorem dX6_set_14 : decode cX6_set 14 = .ok (.iload_n 2, 1) := by decide +kernel
theorem dX6_set_15 : decode cX6_set 15 = .ok (.invokevirtual 101, 3) := by decide +kernel
theorem dX6_set_18 : decode cX6_set 18 = .ok (.ifCond .eq 17, 3) := by decide +kernel
theorem dX6_set_21 : decode cX6_set 21 = .ok (.iload_n 3, 1) := by decide +kernel
theorem dX6_set_22 : decode cX6_set 22 = .ok (.i2l, 1) := by decide +kernel
theorem dX6_set_23 : decode cX6_set 23 = .ok (.lconst 0, 1) := by decide +kernel
theorem dX6_set_24 : decode cX6_set 24 = .ok (.iload_n 1, 1) := by decide +kernel
theorem dX6_set_25 : decode cX6_set 25 = .ok (.invokestatic 105, 3) := by decide +kernel
theorem dX6_set_28 : decode cX6_set 28 = .ok (.i2l, 1) := by decide +kernel
theorem dX6_set_29 : decode cX6_set 29 = .ok (.invokestatic 86, 3) := by decide +kernel
theorem dX6_set_32 : decode cX6_set 32 = .ok (.ifCond .ne 6, 3) := by decide +kernel
theorem dX6_set_35 : decode cX6_set 35 = .ok (.bipush (-2), 2) := by decide +kernel
theorem dX6_set_37 : decode cX6_set 37 = .ok (.ireturn, 1) := by decide +kernel
theorem dX6_set_38 : decode cX6_set 38 = .ok (.aload_n 0, 1) := by decide +kernel
theorem dX6_set_39 : decode cX6_set 39 = .ok (.iload_n 2, 1) := by decide +kernel
theorem dX6_set_40 : decode cX6_set 40 = .ok (.iload_n 1, 1) := by decide +kernel
theorem dX6_set_41 : decode cX6_set 41 = .ok (.invokevirtual 109, 3) := by decide +kernel
theorem dX6_set_44 : decode cX6_set 44 = .ok (.istore 4, 2) := by decide +kernel
theorem dX6_set_46 : decode cX6_set 46 = .ok (.aload_n 0, 1) := by decide +kernel
theorem dX6_set_47 : decode cX6_set 47 = .ok (.iload_n 1, 1) := by decide +kernel
theorem dX6_set_48 : decode cX6_set 48 = .ok (.iload_n 2, 1) := by decide +kernel
theorem dX6_set_49 : decode cX6_set 49 = .ok (.iload_n 3, 1) := by decide +kernel
theorem dX6_set_50 : decode cX6_set 50 = .ok (.invokevirtual 113, 3) := by decide +kernel
theorem dX6_set_53 : decode cX6_set 53 = .ok (.iload 4, 2) := by decide +kernel
theorem dX6_set_55 : decode cX6_set 55 = .ok (.ireturn, 1) := by decide +kernel
theorem dX6_lays_0 : decode cX6_lays 0 = .ok (.iload_n 1, 1) := by decide +kernel
theorem dX6_lays_1 : decode cX6_lays 1 = .ok (.iconst 2, 1) := by decide +kernel
theorem dX6_lays_2 : decode cX6_lays 2 = .ok (.if_icmp .ge 39, 3) := by decide +kernel
theorem dX6_lays_5 : decode cX6_lays 5 = .ok (.aload_n 0, 1) := by decide +kernel
theorem dX6_lays_6 : decode cX6_lays 6 = .ok (.iload_n 1, 1) := by decide +kernel
theorem dX6_lays_7 : decode cX6_lays 7 = .ok (.ifCond .ne 7, 3) := by decide +kernel
theorem dX6_lays_10 : decode cX6_lays 10 = .ok (.iload_n 3, 1) := by decide +kernel
theorem dX6_lays_11 : decode cX6_lays 11 = .ok (.goto 7, 3) := by decide +kernel
theorem dX6_lays_14 : decode cX6_lays 14 = .ok (.aload_n 0, 1) := by decide +kernel
theorem dX6_lays_15 : decode cX6_lays 15 = .ok (.getfield 117, 3) := by decide +kernel
theorem dX6_lays_18 : decode cX6_lays 18 = .ok (.putfield 117, 3) := by decide +kernel
theorem dX6_lays_21 : decode cX6_lays 21 = .ok (.aload_n 0, 1) := by decide +kernel
theorem dX6_lays_22 : decode cX6_lays 22 = .ok (.iload_n 1, 1) := by decide +kernel
theorem dX6_lays_23 : decode cX6_lays 23 = .ok (.iconst 1, 1) := by decide +kernel
theorem dX6_lays_24 : decode cX6_lays 24 = .ok (.if_icmp .ne 7, 3) := by decide +kernel
theorem dX6_lays_27 : decode cX6_lays 27 = .ok (.iload_n 3, 1) := by decide +kernel
theorem dX6_lays_28 : decode cX6_lays 28 = .ok (.goto 7, 3) := by decide +kernel
theorem dX6_lays_31 : decode cX6_lays 31 = .ok (.aload_n 0, 1) := by decide +kernel
theorem dX6_lays_32 : decode cX6_lays 32 = .ok (.getfield 32, 3) := by decide +kernel
theorem dX6_lays_35 : decode cX6_lays 35 = .ok (.putfield 32, 3) := by decide +kernel
theorem dX6_lays_38 : decode cX6_lays 38 = .ok (.goto 46, 3) := by decide +kernel
theorem dX6_lays_41 : decode cX6_lays 41 = .ok (.iload_n 1, 1) := by decide +kernel
theorem dX6_lays_42 : decode cX6_lays 42 = .ok (.iconst 2, 1) := by decide +kernel
theorem dX6_lays_43 : decode cX6_lays 43 = .ok (.if_icmp .ne 13, 3) := by decide +kernel
theorem dX6_lays_46 : decode cX6_lays 46 = .ok (.aload_n 0, 1) := by decide +kernel
theorem dX6_lays_47 : decode cX6_lays 47 = .ok (.getfield 35, 3) := by decide +kernel
theorem dX6_lays_50 : decode cX6_lays 50 = .ok (.iload_n 2, 1) := by decide +kernel
theorem dX6_lays_51 : decode cX6_lays 51 = .ok (.iload_n 3, 1) := by decide +kernel
theorem dX6_lays_52 : decode cX6_lays 52 = .ok (.iastore, 1) := by decide +kernel
theorem dX6_lays_53 : decode cX6_lays 53 = .ok (.goto 31, 3) := by decide +kernel
theorem dX6_lays_56 : decode cX6_lays 56 = .ok (.iload_n 1, 1) := by decide +kernel
theorem dX6_lays_57 : decode cX6_lays 57 = .ok (.bipush 8, 2) := by decide +kernel
theorem dX6_lays_59 : decode cX6_lays 59 = .ok (.if_icmp .ge 20, 3) := by decide +kernel
theorem dX6_lays_62 : decode cX6_lays 62 = .ok (.aload_n 0, 1) := by decide +kernel
theorem dX6_lays_63 : decode cX6_lays 63 = .ok (.getfield 38, 3) := by decide +kernel
theorem dX6_lays_66 : decode cX6_lays 66 = .ok (.bipush 6, 2) := by decide +kernel
theorem dX6_lays_68 : decode cX6_lays 68 = .ok (.iload_n 2, 1) := by decide +kernel
theorem dX6_lays_69 : decode cX6_lays 69 = .ok (.imul, 1) := by decide +kernel
theorem dX6_lays_70 : decode cX6_lays 70 = .ok (.iload_n 1, 1) := by decide +kernel
theorem dX6_lays_71 : decode cX6_lays 71 = .ok (.iadd, 1) := by decide +kernel
theorem dX6_lays_72 : decode cX6_lays 72 = .ok (.iconst 3, 1) := by decide +kernel
theorem dX6_lays_73 : decode cX6_lays 73 = .ok (.isub, 1) := by decide +kernel
theorem dX6_lays_74 : decode cX6_lays 74 = .ok (.iload_n 3, 1) := by decide +kernel
theorem dX6_lays_75 : decode cX6_lays 75 = .ok (.iastore, 1) := by decide +kernel
theorem dX6_lays_76 : decode cX6_lays 76 = .ok (.goto 8, 3) := by decide +kernel
theorem dX6_lays_79 : decode cX6_lays 79 = .ok (.aload_n 0, 1) := by decide +kernel
theorem dX6_lays_80 : decode cX6_lays 80 = .ok (.iload_n 3, 1) := by decide +kernel
theorem dX6_lays_81 : decode cX6_lays 81 = .ok (.putfield 120, 3) := by decide +kernel
theorem dX6_lays_84 : decode cX6_lays 84 = .ok (.return_, 1) := by decide +kernel
theorem dX6_person_0 : decode cX6_person 0 = .ok (.iload_n 1, 1) := by decide +kernel
theorem dX6_person_1 : decode cX6_person 1 = .ok (.i2l, 1) := by decide +kernel
theorem dX6_person_2 : decode cX6_person 2 = .ok (.lconst 0, 1) := by decide +kernel
theorem dX6_person_3 : decode cX6_person 3 = .ok (.ldc2_w 123, 3) := by decide +kernel
theorem dX6_person_6 : decode cX6_person 6 = .ok (.invokestatic 86, 3) := by decide +kernel
theorem dX6_person_9 : decode cX6_person 9 = .ok (.ifCond .eq 25, 3) := by decide +kernel
theorem dX6_person_12 : decode cX6_person 12 = .ok (.iload_n 2, 1) := by decide +kernel
theorem dX6_person_13 : decode cX6_person 13 = .ok (.i2l, 1) := by decide +kernel
theorem dX6_person_14 : decode cX6_person 14 = .ok (.lconst 0, 1) := by decide +kernel
theorem dX6_person_15 : decode cX6_person 15 = .ok (.ldc2_w 125, 3) := by decide +kernel
theorem dX6_person_18 : decode cX6_person 18 = .ok (.invokestatic 86, 3) := by decide +kernel
theorem dX6_person_21 : decode cX6_person 21 = .ok (.ifCond .eq 13, 3) := by decide +kernel
theorem dX6_person_24 : decode cX6_person 24 = .ok (.iload_n 3, 1) := by decide +kernel
theorem dX6_person_25 : decode cX6_person 25 = .ok (.iconst 1, 1) := by decide +kernel
theorem dX6_person_26 : decode cX6_person 26 = .ok (.if_icmp .eq 11, 3) := by decide +kernel
theorem dX6_person_29 : decode cX6_person 29 = .ok (.iload_n 3, 1) := by decide +kernel
theorem dX6_person_30 : decode cX6_person 30 = .ok (.iconst (-1), 1) := by decide +kernel
theorem dX6_person_31 : decode cX6_person 31 = .ok (.if_icmp .eq 6, 3) := by decide +kernel
theorem dX6_person_34 : decode cX6_person 34 = .ok (.bipush (-2), 2) := by decide +kernel
theorem dX6_person_36 : decode cX6_person 36 = .ok (.ireturn, 1) := by decide +kernel
theorem dX6_person_37 : decode cX6_person 37 = .ok (.aload_n 0, 1) := by decide +kernel
theorem dX6_person_38 : decode cX6_person 38 = .ok (.getfield 83, 3) := by decide +kernel
theorem dX6_person_41 : decode cX6_person 41 = .ok (.iconst 5, 1) := by decide +kernel
theorem dX6_person_42 : decode cX6_person 42 = .ok (.if_icmp .ne 6, 3) := by decide +kernel
theorem dX6_person_45 : decode cX6_person 45 = .ok (.bipush (-4), 2) := by decide +kernel
theorem dX6_person_47 : decode cX6_person 47 = .ok (.ireturn, 1) := by decide +kernel
theorem dX6_person_48 : decode cX6_person 48 = .ok (.bipush 6, 2) := by decide +kernel
theorem dX6_person_50 : decode cX6_person 50 = .ok (.aload_n 0, 1) := by decide +kernel
theorem dX6_person_51 : decode cX6_person 51 = .ok (.getfield 83, 3) := by decide +kernel
theorem dX6_person_54 : decode cX6_person 54 = .ok (.imul, 1) := by decide +kernel
theorem dX6_person_55 : decode cX6_person 55 = .ok (.istore 4, 2) := by decide +kernel
theorem dX6_person_57 : decode cX6_person 57 = .ok (.aload_n 0, 1) := by decide +kernel
theorem dX6_person_58 : decode cX6_person 58 = .ok (.getfield 38, 3) := by decide +kernel
theorem dX6_person_61 : decode cX6_person 61 = .ok (.iload 4, 2) := by decide +kernel
theorem dX6_person_63 : decode cX6_person 63 = .ok (.iload_n 2, 1) := by decide +kernel
theorem dX6_person_64 : decode cX6_person 64 = .ok (.iastore, 1) := by decide +kernel
theorem dX6_person_65 : decode cX6_person 65 = .ok (.aload_n 0, 1) := by decide +kernel
theorem dX6_person_66 : decode cX6_person 66 = .ok (.getfield 38, 3) := by decide +kernel
theorem dX6_person_69 : decode cX6_person 69 = .ok (.iload 4, 2) := by decide +kernel
theorem dX6_person_71 : decode cX6_person 71 = .ok (.iconst 1, 1) := by decide +kernel
theorem dX6_person_72 : decode cX6_person 72 = .ok (.iadd, 1) := by decide +kernel
theorem dX6_person_73 : decode cX6_person 73 = .ok (.iconst 0, 1) := by decide +kernel
theorem dX6_person_74 : decode cX6_person 74 = .ok (.iastore, 1) := by decide +kernel
theorem dX6_person_75 : decode cX6_person 75 = .ok (.aload_n 0, 1) := by decide +kernel
theorem dX6_person_76 : decode cX6_person 76 = .ok (.getfield 38, 3) := by decide +kernel
theorem dX6_person_79 : decode cX6_person 79 = .ok (.iload 4, 2) := by decide +kernel
theorem dX6_person_81 : decode cX6_person 81 = .ok (.iconst 2, 1) := by decide +kernel
theorem dX6_person_82 : decode cX6_person 82 = .ok (.iadd, 1) := by decide +kernel
theorem dX6_person_83 : decode cX6_person 83 = .ok (.iload_n 3, 1) := by decide +kernel
theorem dX6_person_84 : decode cX6_person 84 = .ok (.iconst 1, 1) := by decide +kernel
theorem dX6_person_85 : decode cX6_person 85 = .ok (.if_icmp .ne 7, 3) := by decide +kernel
theorem dX6_person_88 : decode cX6_person 88 = .ok (.iconst 0, 1) := by decide +kernel
theorem dX6_person_89 : decode cX6_person 89 = .ok (.goto 5, 3) := by decide +kernel
theorem dX6_person_92 : decode cX6_person 92 = .ok (.bipush 31, 2) := by decide +kernel
theorem dX6_person_94 : decode cX6_person 94 = .ok (.iastore, 1) := by decide +kernel
theorem dX6_person_95 : decode cX6_person 95 = .ok (.aload_n 0, 1) := by decide +kernel
theorem dX6_person_96 : decode cX6_person 96 = .ok (.getfield 38, 3) := by decide +kernel
theorem dX6_person_99 : decode cX6_person 99 = .ok (.iload 4, 2) := by decide +kernel
theorem dX6_person_101 : decode cX6_person 101 = .ok (.iconst 3, 1) := by decide +kernel
theorem dX6_person_102 : decode cX6_person 102 = .ok (.iadd, 1) := by decide +kernel
theorem dX6_person_103 : decode cX6_person 103 = .ok (.iconst 0, 1) := by decide +kernel
theorem dX6_person_104 : decode cX6_person 104 = .ok (.iastore, 1) := by decide +kernel
theorem dX6_person_105 : decode cX6_person 105 = .ok (.aload_n 0, 1) := by decide +kernel
theorem dX6_person_106 : decode cX6_person 106 = .ok (.getfield 38, 3) := by decide +kernel
theorem dX6_person_109 : decode cX6_person 109 = .ok (.iload 4, 2) := by decide +kernel
theorem dX6_person_111 : decode cX6_person 111 = .ok (.iconst 4, 1) := by decide +kernel
theorem dX6_person_112 : decode cX6_person 112 = .ok (.iadd, 1) := by decide +kernel
theorem dX6_person_113 : decode cX6_person 113 = .ok (.iload_n 1, 1) := by decide +kernel
theorem dX6_person_114 : decode cX6_person 114 = .ok (.iastore, 1) := by decide +kernel
theorem dX6_person_115 : decode cX6_person 115 = .ok (.aload_n 0, 1) := by decide +kernel
theorem dX6_person_116 : decode cX6_person 116 = .ok (.getfield 38, 3) := by decide +kernel
theorem dX6_person_119 : decode cX6_person 119 = .ok (.iload 4, 2) := by decide +kernel
theorem dX6_person_121 : decode cX6_person 121 = .ok (.iconst 5, 1) := by decide +kernel
theorem dX6_person_122 : decode cX6_person 122 = .ok (.iadd, 1) := by decide +kernel
theorem dX6_person_123 : decode cX6_person 123 = .ok (.iload_n 3, 1) := by decide +kernel
theorem dX6_person_124 : decode cX6_person 124 = .ok (.iastore, 1) := by decide +kernel
theorem dX6_person_125 : decode cX6_person 125 = .ok (.aload_n 0, 1) := by decide +kernel
theorem dX6_person_126 : decode cX6_person 126 = .ok (.dup, 1) := by decide +kernel
theorem dX6_person_127 : decode cX6_person 127 = .ok (.getfield 83, 3) := by decide +kernel
theorem dX6_person_130 : decode cX6_person 130 = .ok (.iconst 1, 1) := by decide +kernel
theorem dX6_person_131 : decode cX6_person 131 = .ok (.iadd, 1) := by decide +kernel
theorem dX6_person_132 : decode cX6_person 132 = .ok (.putfield 83, 3) := by decide +kernel
theorem dX6_person_135 : decode cX6_person 135 = .ok (.aload_n 0, 1) := by decide +kernel
theorem dX6_person_136 : decode cX6_person 136 = .ok (.getfield 83, 3) := by decide +kernel
theorem dX6_person_139 : decode cX6_person 139 = .ok (.iconst 1, 1) := by decide +kernel
theorem dX6_person_140 : decode cX6_person 140 = .ok (.isub, 1) := by decide +kernel
theorem dX6_person_141 : decode cX6_person 141 = .ok (.ireturn, 1) := by decide +kernel
theorem dX6_told_0 : decode cX6_told 0 = .ok (.iload_n 2, 1) := by decide +kernel
theorem dX6_told_1 : decode cX6_told 1 = .ok (.i2l, 1) := by decide +kernel
theorem dX6_told_2 : decode cX6_told 2 = .ok (.lconst 0, 1) := by decide +kernel
theorem dX6_told_3 : decode cX6_told 3 = .ok (.ldc2_w 127, 3) := by decide +kernel
theorem dX6_told_6 : decode cX6_told 6 = .ok (.invokestatic 86, 3) := by decide +kernel
theorem dX6_told_9 : decode cX6_told 9 = .ok (.ifCond .eq 12, 3) := by decide +kernel
theorem dX6_told_12 : decode cX6_told 12 = .ok (.aload_n 0, 1) := by decide +kernel
theorem dX6_told_13 : decode cX6_told 13 = .ok (.iload_n 2, 1) := by decide +kernel
theorem dX6_told_14 : decode cX6_told 14 = .ok (.iload_n 1, 1) := by decide +kernel
theorem dX6_told_15 : decode cX6_told 15 = .ok (.invokevirtual 101, 3) := by decide +kernel
theorem dX6_told_18 : decode cX6_told 18 = .ok (.ifCond .ne 7, 3) := by decide +kernel
theorem dX6_told_21 : decode cX6_told 21 = .ok (.sipush (-1000), 3) := by decide +kernel
theorem dX6_told_24 : decode cX6_told 24 = .ok (.ireturn, 1) := by decide +kernel
theorem dX6_told_25 : decode cX6_told 25 = .ok (.iload_n 2, 1) := by decide +kernel
theorem dX6_told_26 : decode cX6_told 26 = .ok (.iconst 3, 1) := by decide +kernel
theorem dX6_told_27 : decode cX6_told 27 = .ok (.if_icmp .ge 33, 3) := by decide +kernel
theorem dX6_told_30 : decode cX6_told 30 = .ok (.iload_n 2, 1) := by decide +kernel
theorem dX6_told_31 : decode cX6_told 31 = .ok (.ifCond .ne 10, 3) := by decide +kernel
theorem dX6_told_34 : decode cX6_told 34 = .ok (.aload_n 0, 1) := by decide +kernel
theorem dX6_told_35 : decode cX6_told 35 = .ok (.getfield 117, 3) := by decide +kernel
theorem dX6_told_38 : decode cX6_told 38 = .ok (.goto 21, 3) := by decide +kernel
theorem dX6_told_41 : decode cX6_told 41 = .ok (.iload_n 2, 1) := by decide +kernel
theorem dX6_told_42 : decode cX6_told 42 = .ok (.iconst 1, 1) := by decide +kernel
theorem dX6_told_43 : decode cX6_told 43 = .ok (.if_icmp .ne 10, 3) := by decide +kernel
theorem dX6_told_46 : decode cX6_told 46 = .ok (.aload_n 0, 1) := by decide +kernel
theorem dX6_told_47 : decode cX6_told 47 = .ok (.getfield 32, 3) := by decide +kernel
theorem dX6_told_50 : decode cX6_told 50 = .ok (.goto 9, 3) := by decide +kernel
theorem dX6_told_53 : decode cX6_told 53 = .ok (.aload_n 0, 1) := by decide +kernel
theorem dX6_told_54 : decode cX6_told 54 = .ok (.getfield 35, 3) := by decide +kernel
theorem dX6_told_57 : decode cX6_told 57 = .ok (.iload_n 1, 1) := by decide +kernel
theorem dX6_told_58 : decode cX6_told 58 = .ok (.iaload, 1) := by decide +kernel
theorem dX6_told_59 : decode cX6_told 59 = .ok (.ireturn, 1) := by decide +kernel
theorem dX6_told_60 : decode cX6_told 60 = .ok (.iload_n 2, 1) := by decide +kernel
theorem dX6_told_61 : decode cX6_told 61 = .ok (.bipush 9, 2) := by decide +kernel
theorem dX6_told_63 : decode cX6_told 63 = .ok (.if_icmp .ge 39, 3) := by decide +kernel
theorem dX6_told_66 : decode cX6_told 66 = .ok (.iload_n 2, 1) := by decide +kernel
theorem dX6_told_67 : decode cX6_told 67 = .ok (.bipush 8, 2) := by decide +kernel
theorem dX6_told_69 : decode cX6_told 69 = .ok (.if_icmp .ne 19, 3) := by decide +kernel
theorem dX6_told_72 : decode cX6_told 72 = .ok (.aload_n 0, 1) := by decide +kernel
theorem dX6_told_73 : decode cX6_told 73 = .ok (.getfield 38, 3) := by decide +kernel
theorem dX6_told_76 : decode cX6_told 76 = .ok (.bipush 6, 2) := by decide +kernel
theorem dX6_told_78 : decode cX6_told 78 = .ok (.iload_n 1, 1) := by decide +kernel
theorem dX6_told_79 : decode cX6_told 79 = .ok (.imul, 1) := by decide +kernel
theorem dX6_told_80 : decode cX6_told 80 = .ok (.iconst 5, 1) := by decide +kernel
theorem dX6_told_81 : decode cX6_told 81 = .ok (.iadd, 1) := by decide +kernel
theorem dX6_told_82 : decode cX6_told 82 = .ok (.iaload, 1) := by decide +kernel
theorem dX6_told_83 : decode cX6_told 83 = .ok (.iconst 1, 1) := by decide +kernel
theorem dX6_told_84 : decode cX6_told 84 = .ok (.iadd, 1) := by decide +kernel
theorem dX6_told_85 : decode cX6_told 85 = .ok (.goto 16, 3) := by decide +kernel
theorem dX6_told_88 : decode cX6_told 88 = .ok (.aload_n 0, 1) := by decide +kernel
theorem dX6_told_89 : decode cX6_told 89 = .ok (.getfield 38, 3) := by decide +kernel
theorem dX6_told_92 : decode cX6_told 92 = .ok (.bipush 6, 2) := by decide +kernel
theorem dX6_told_94 : decode cX6_told 94 = .ok (.iload_n 1, 1) := by decide +kernel
theorem dX6_told_95 : decode cX6_told 95 = .ok (.imul, 1) := by decide +kernel
theorem dX6_told_96 : decode cX6_told 96 = .ok (.iload_n 2, 1) := by decide +kernel
theorem dX6_told_97 : decode cX6_told 97 = .ok (.iadd, 1) := by decide +kernel
theorem dX6_told_98 : decode cX6_told 98 = .ok (.iconst 3, 1) := by decide +kernel
theorem dX6_told_99 : decode cX6_told 99 = .ok (.isub, 1) := by decide +kernel
theorem dX6_told_100 : decode cX6_told 100 = .ok (.iaload, 1) := by decide +kernel
theorem dX6_told_101 : decode cX6_told 101 = .ok (.ireturn, 1) := by decide +kernel
theorem dX6_told_102 : decode cX6_told 102 = .ok (.iload_n 2, 1) := by decide +kernel
theorem dX6_told_103 : decode cX6_told 103 = .ok (.bipush 9, 2) := by decide +kernel
theorem dX6_told_105 : decode cX6_told 105 = .ok (.if_icmp .ne 11, 3) := by decide +kernel
theorem dX6_told_108 : decode cX6_told 108 = .ok (.aload_n 0, 1) := by decide +kernel
theorem dX6_told_109 : decode cX6_told 109 = .ok (.iload_n 1, 1) := by decide +kernel
theorem dX6_told_110 : decode cX6_told 110 = .ok (.invokevirtual 129, 3) := by decide +kernel
theorem dX6_told_113 : decode cX6_told 113 = .ok (.goto 40, 3) := by decide +kernel
theorem dX6_told_116 : decode cX6_told 116 = .ok (.iload_n 2, 1) := by decide +kernel
theorem dX6_told_117 : decode cX6_told 117 = .ok (.bipush 10, 2) := by decide +kernel
theorem dX6_told_119 : decode cX6_told 119 = .ok (.if_icmp .ne 11, 3) := by decide +kernel
theorem dX6_told_122 : decode cX6_told 122 = .ok (.aload_n 0, 1) := by decide +kernel
theorem dX6_told_123 : decode cX6_told 123 = .ok (.iload_n 1, 1) := by decide +kernel
theorem dX6_told_124 : decode cX6_told 124 = .ok (.invokevirtual 132, 3) := by decide +kernel
theorem dX6_told_127 : decode cX6_told 127 = .ok (.goto 26, 3) := by decide +kernel
theorem dX6_told_130 : decode cX6_told 130 = .ok (.iload_n 2, 1) := by decide +kernel
theorem dX6_told_131 : decode cX6_told 131 = .ok (.bipush 11, 2) := by decide +kernel
theorem dX6_told_133 : decode cX6_told 133 = .ok (.if_icmp .ne 15, 3) := by decide +kernel
theorem dX6_told_136 : decode cX6_told 136 = .ok (.sipush 1000, 3) := by decide +kernel
theorem dX6_told_139 : decode cX6_told 139 = .ok (.aload_n 0, 1) := by decide +kernel
theorem dX6_told_140 : decode cX6_told 140 = .ok (.iload_n 1, 1) := by decide +kernel
theorem dX6_told_141 : decode cX6_told 141 = .ok (.invokevirtual 135, 3) := by decide +kernel
theorem dX6_told_144 : decode cX6_told 144 = .ok (.iadd, 1) := by decide +kernel
theorem dX6_told_145 : decode cX6_told 145 = .ok (.goto 8, 3) := by decide +kernel
theorem dX6_told_148 : decode cX6_told 148 = .ok (.aload_n 0, 1) := by decide +kernel
theorem dX6_told_149 : decode cX6_told 149 = .ok (.iload_n 1, 1) := by decide +kernel
theorem dX6_told_150 : decode cX6_told 150 = .ok (.invokevirtual 138, 3) := by decide +kernel
theorem dX6_told_153 : decode cX6_told 153 = .ok (.ireturn, 1) := by decide +kernel
theorem dX6_atOf_0 : decode cX6_atOf 0 = .ok (.aload_n 0, 1) := by decide +kernel
theorem dX6_atOf_1 : decode cX6_atOf 1 = .ok (.getfield 38, 3) := by decide +kernel
theorem dX6_atOf_4 : decode cX6_atOf 4 = .ok (.bipush 6, 2) := by decide +kernel
theorem dX6_atOf_6 : decode cX6_atOf 6 = .ok (.iload_n 1, 1) := by decide +kernel
theorem dX6_atOf_7 : decode cX6_atOf 7 = .ok (.imul, 1) := by decide +kernel
theorem dX6_atOf_8 : decode cX6_atOf 8 = .ok (.iconst 2, 1) := by decide +kernel
theorem dX6_atOf_9 : decode cX6_atOf 9 = .ok (.iadd, 1) := by decide +kernel
theorem dX6_atOf_10 : decode cX6_atOf 10 = .ok (.iaload, 1) := by decide +kernel
theorem dX6_atOf_11 : decode cX6_atOf 11 = .ok (.ireturn, 1) := by decide +kernel
theorem dX6_isHow_0 : decode cX6_isHow 0 = .ok (.aload_n 0, 1) := by decide +kernel
theorem dX6_isHow_1 : decode cX6_isHow 1 = .ok (.getfield 38, 3) := by decide +kernel
theorem dX6_isHow_4 : decode cX6_isHow 4 = .ok (.bipush 6, 2) := by decide +kernel
theorem dX6_isHow_6 : decode cX6_isHow 6 = .ok (.iload_n 1, 1) := by decide +kernel
theorem dX6_isHow_7 : decode cX6_isHow 7 = .ok (.imul, 1) := by decide +kernel
theorem dX6_isHow_8 : decode cX6_isHow 8 = .ok (.iconst 3, 1) := by decide +kernel
theorem dX6_isHow_9 : decode cX6_isHow 9 = .ok (.iadd, 1) := by decide +kernel
theorem dX6_isHow_10 : decode cX6_isHow 10 = .ok (.iaload, 1) := by decide +kernel
theorem dX6_isHow_11 : decode cX6_isHow 11 = .ok (.iload_n 2, 1) := by decide +kernel
theorem dX6_isHow_12 : decode cX6_isHow 12 = .ok (.if_icmp .ne 7, 3) := by decide +kernel
theorem dX6_isHow_15 : decode cX6_isHow 15 = .ok (.iconst 1, 1) := by decide +kernel
theorem dX6_isHow_16 : decode cX6_isHow 16 = .ok (.goto 4, 3) := by decide +kernel
theorem dX6_isHow_19 : decode cX6_isHow 19 = .ok (.iconst 0, 1) := by decide +kernel
theorem dX6_isHow_20 : decode cX6_isHow 20 = .ok (.ireturn, 1) := by decide +kernel
theorem dX6_howMany_0 : decode cX6_howMany 0 = .ok (.iconst 0, 1) := by decide +kernel
theorem dX6_howMany_1 : decode cX6_howMany 1 = .ok (.istore_n 2, 1) := by decide +kernel
theorem dX6_howMany_2 : decode cX6_howMany 2 = .ok (.iconst 0, 1) := by decide +kernel
theorem dX6_howMany_3 : decode cX6_howMany 3 = .ok (.istore_n 3, 1) := by decide +kernel
theorem dX6_howMany_4 : decode cX6_howMany 4 = .ok (.iload_n 3, 1) := by decide +kernel
theorem dX6_howMany_5 : decode cX6_howMany 5 = .ok (.aload_n 0, 1) := by decide +kernel
theorem dX6_howMany_6 : decode cX6_howMany 6 = .ok (.getfield 83, 3) := by decide +kernel
theorem dX6_howMany_9 : decode cX6_howMany 9 = .ok (.if_icmp .ge 26, 3) := by decide +kernel
theorem dX6_howMany_12 : decode cX6_howMany 12 = .ok (.iload_n 2, 1) := by decide +kernel
theorem dX6_howMany_13 : decode cX6_howMany 13 = .ok (.aload_n 0, 1) := by decide +kernel
theorem dX6_howMany_14 : decode cX6_howMany 14 = .ok (.iload_n 3, 1) := by decide +kernel
theorem dX6_howMany_15 : decode cX6_howMany 15 = .ok (.iload_n 1, 1) := by decide +kernel
theorem dX6_howMany_16 : decode cX6_howMany 16 = .ok (.invokevirtual 141, 3) := by decide +kernel
theorem dX6_howMany_19 : decode cX6_howMany 19 = .ok (.ifCond .eq 7, 3) := by decide +kernel
theorem dX6_howMany_22 : decode cX6_howMany 22 = .ok (.iconst 1, 1) := by decide +kernel
theorem dX6_howMany_23 : decode cX6_howMany 23 = .ok (.goto 4, 3) := by decide +kernel
theorem dX6_howMany_26 : decode cX6_howMany 26 = .ok (.iconst 0, 1) := by decide +kernel
theorem dX6_howMany_27 : decode cX6_howMany 27 = .ok (.iadd, 1) := by decide +kernel
theorem dX6_howMany_28 : decode cX6_howMany 28 = .ok (.istore_n 2, 1) := by decide +kernel
theorem dX6_howMany_29 : decode cX6_howMany 29 = .ok (.iinc 3 1, 3) := by decide +kernel
theorem dX6_howMany_32 : decode cX6_howMany 32 = .ok (.goto (-28), 3) := by decide +kernel
theorem dX6_howMany_35 : decode cX6_howMany 35 = .ok (.iload_n 2, 1) := by decide +kernel
theorem dX6_howMany_36 : decode cX6_howMany 36 = .ok (.ireturn, 1) := by decide +kernel
theorem dX6_isOut_0 : decode cX6_isOut 0 = .ok (.aload_n 0, 1) := by decide +kernel
theorem dX6_isOut_1 : decode cX6_isOut 1 = .ok (.iload_n 1, 1) := by decide +kernel
theorem dX6_isOut_2 : decode cX6_isOut 2 = .ok (.iconst 1, 1) := by decide +kernel
theorem dX6_isOut_3 : decode cX6_isOut 3 = .ok (.invokevirtual 141, 3) := by decide +kernel
theorem dX6_isOut_6 : decode cX6_isOut 6 = .ok (.ifCond .ne 12, 3) := by decide +kernel
theorem dX6_isOut_9 : decode cX6_isOut 9 = .ok (.aload_n 0, 1) := by decide +kernel
theorem dX6_isOut_10 : decode cX6_isOut 10 = .ok (.iload_n 1, 1) := by decide +kernel
theorem dX6_isOut_11 : decode cX6_isOut 11 = .ok (.iconst 2, 1) := by decide +kernel
theorem dX6_isOut_12 : decode cX6_isOut 12 = .ok (.invokevirtual 141, 3) := by decide +kernel
theorem dX6_isOut_15 : decode cX6_isOut 15 = .ok (.ifCond .eq 7, 3) := by decide +kernel
theorem dX6_isOut_18 : decode cX6_isOut 18 = .ok (.iconst 1, 1) := by decide +kernel
theorem dX6_isOut_19 : decode cX6_isOut 19 = .ok (.goto 4, 3) := by decide +kernel
theorem dX6_isOut_22 : decode cX6_isOut 22 = .ok (.iconst 0, 1) := by decide +kernel
theorem dX6_isOut_23 : decode cX6_isOut 23 = .ok (.ireturn, 1) := by decide +kernel
theorem dX6_whoAt_0 : decode cX6_whoAt 0 = .ok (.iconst 0, 1) := by decide +kernel
theorem dX6_whoAt_1 : decode cX6_whoAt 1 = .ok (.istore_n 2, 1) := by decide +kernel
theorem dX6_whoAt_2 : decode cX6_whoAt 2 = .ok (.iconst 0, 1) := by decide +kernel
theorem dX6_whoAt_3 : decode cX6_whoAt 3 = .ok (.istore_n 3, 1) := by decide +kernel
theorem dX6_whoAt_4 : decode cX6_whoAt 4 = .ok (.iload_n 3, 1) := by decide +kernel
theorem dX6_whoAt_5 : decode cX6_whoAt 5 = .ok (.aload_n 0, 1) := by decide +kernel
theorem dX6_whoAt_6 : decode cX6_whoAt 6 = .ok (.getfield 83, 3) := by decide +kernel
theorem dX6_whoAt_9 : decode cX6_whoAt 9 = .ok (.if_icmp .ge 36, 3) := by decide +kernel
theorem dX6_whoAt_12 : decode cX6_whoAt 12 = .ok (.iload_n 2, 1) := by decide +kernel
theorem dX6_whoAt_13 : decode cX6_whoAt 13 = .ok (.aload_n 0, 1) := by decide +kernel
theorem dX6_whoAt_14 : decode cX6_whoAt 14 = .ok (.iload_n 3, 1) := by decide +kernel
theorem dX6_whoAt_15 : decode cX6_whoAt 15 = .ok (.invokevirtual 144, 3) := by decide +kernel
theorem dX6_whoAt_18 : decode cX6_whoAt 18 = .ok (.ifCond .eq 16, 3) := by decide +kernel
theorem dX6_whoAt_21 : decode cX6_whoAt 21 = .ok (.aload_n 0, 1) := by decide +kernel
theorem dX6_whoAt_22 : decode cX6_whoAt 22 = .ok (.iload_n 3, 1) := by decide +kernel
theorem dX6_whoAt_23 : decode cX6_whoAt 23 = .ok (.invokevirtual 147, 3) := by decide +kernel
theorem dX6_whoAt_26 : decode cX6_whoAt 26 = .ok (.iload_n 1, 1) := by decide +kernel
theorem dX6_whoAt_27 : decode cX6_whoAt 27 = .ok (.if_icmp .ne 7, 3) := by decide +kernel
theorem dX6_whoAt_30 : decode cX6_whoAt 30 = .ok (.iconst 1, 1) := by decide +kernel
theorem dX6_whoAt_31 : decode cX6_whoAt 31 = .ok (.goto 4, 3) := by decide +kernel
theorem dX6_whoAt_34 : decode cX6_whoAt 34 = .ok (.iconst 0, 1) := by decide +kernel
theorem dX6_whoAt_35 : decode cX6_whoAt 35 = .ok (.iload_n 3, 1) := by decide +kernel
theorem dX6_whoAt_36 : decode cX6_whoAt 36 = .ok (.ishl, 1) := by decide +kernel
theorem dX6_whoAt_37 : decode cX6_whoAt 37 = .ok (.ior, 1) := by decide +kernel
theorem dX6_whoAt_38 : decode cX6_whoAt 38 = .ok (.istore_n 2, 1) := by decide +kernel
theorem dX6_whoAt_39 : decode cX6_whoAt 39 = .ok (.iinc 3 1, 3) := by decide +kernel
theorem dX6_whoAt_42 : decode cX6_whoAt 42 = .ok (.goto (-38), 3) := by decide +kernel
theorem dX6_whoAt_45 : decode cX6_whoAt 45 = .ok (.iload_n 2, 1) := by decide +kernel
theorem dX6_whoAt_46 : decode cX6_whoAt 46 = .ok (.ireturn, 1) := by decide +kernel
theorem dX6_feed_0 : decode cX6_feed 0 = .ok (.iload_n 1, 1) := by decide +kernel
theorem dX6_feed_1 : decode cX6_feed 1 = .ok (.i2l, 1) := by decide +kernel
theorem dX6_feed_2 : decode cX6_feed 2 = .ok (.lconst 0, 1) := by decide +kernel
theorem dX6_feed_3 : decode cX6_feed 3 = .ok (.ldc2_w 150, 3) := by decide +kernel
theorem dX6_feed_6 : decode cX6_feed 6 = .ok (.invokestatic 86, 3) := by decide +kernel
theorem dX6_feed_9 : decode cX6_feed 9 = .ok (.ifCond .ne 6, 3) := by decide +kernel
theorem dX6_feed_12 : decode cX6_feed 12 = .ok (.bipush (-2), 2) := by decide +kernel
theorem dX6_feed_14 : decode cX6_feed 14 = .ok (.ireturn, 1) := by decide +kernel
theorem dX6_feed_15 : decode cX6_feed 15 = .ok (.aload_n 0, 1) := by decide +kernel
theorem dX6_feed_16 : decode cX6_feed 16 = .ok (.getfield 152, 3) := by decide +kernel
theorem dX6_feed_19 : decode cX6_feed 19 = .ok (.sipush 160, 3) := by decide +kernel
theorem dX6_feed_22 : decode cX6_feed 22 = .ok (.if_icmp .ne 6, 3) := by decide +kernel
theorem dX6_feed_25 : decode cX6_feed 25 = .ok (.bipush (-4), 2) := by decide +kernel
theorem dX6_feed_27 : decode cX6_feed 27 = .ok (.ireturn, 1) := by decide +kernel
theorem dX6_feed_28 : decode cX6_feed 28 = .ok (.aload_n 0, 1) := by decide +kernel
theorem dX6_feed_29 : decode cX6_feed 29 = .ok (.getfield 29, 3) := by decide +kernel
theorem dX6_feed_32 : decode cX6_feed 32 = .ok (.aload_n 0, 1) := by decide +kernel
theorem dX6_feed_33 : decode cX6_feed 33 = .ok (.getfield 152, 3) := by decide +kernel
theorem dX6_feed_36 : decode cX6_feed 36 = .ok (.iload_n 1, 1) := by decide +kernel
theorem dX6_feed_37 : decode cX6_feed 37 = .ok (.iastore, 1) := by decide +kernel
theorem dX6_feed_38 : decode cX6_feed 38 = .ok (.aload_n 0, 1) := by decide +kernel
theorem dX6_feed_39 : decode cX6_feed 39 = .ok (.dup, 1) := by decide +kernel
theorem dX6_feed_40 : decode cX6_feed 40 = .ok (.getfield 152, 3) := by decide +kernel
theorem dX6_feed_43 : decode cX6_feed 43 = .ok (.iconst 1, 1) := by decide +kernel
theorem dX6_feed_44 : decode cX6_feed 44 = .ok (.iadd, 1) := by decide +kernel
theorem dX6_feed_45 : decode cX6_feed 45 = .ok (.putfield 152, 3) := by decide +kernel
theorem dX6_feed_48 : decode cX6_feed 48 = .ok (.aload_n 0, 1) := by decide +kernel
theorem dX6_feed_49 : decode cX6_feed 49 = .ok (.getfield 152, 3) := by decide +kernel
theorem dX6_feed_52 : decode cX6_feed 52 = .ok (.ireturn, 1) := by decide +kernel
theorem dX6_byteAt_0 : decode cX6_byteAt 0 = .ok (.iload_n 1, 1) := by decide +kernel
theorem dX6_byteAt_1 : decode cX6_byteAt 1 = .ok (.aload_n 0, 1) := by decide +kernel
theorem dX6_byteAt_2 : decode cX6_byteAt 2 = .ok (.getfield 155, 3) := by decide +kernel
theorem dX6_byteAt_5 : decode cX6_byteAt 5 = .ok (.if_icmp .ge 17, 3) := by decide +kernel
theorem dX6_byteAt_8 : decode cX6_byteAt 8 = .ok (.aload_n 0, 1) := by decide +kernel
theorem dX6_byteAt_9 : decode cX6_byteAt 9 = .ok (.getfield 13, 3) := by decide +kernel
theorem dX6_byteAt_12 : decode cX6_byteAt 12 = .ok (.aload_n 0, 1) := by decide +kernel
theorem dX6_byteAt_13 : decode cX6_byteAt 13 = .ok (.getfield 158, 3) := by decide +kernel
theorem dX6_byteAt_16 : decode cX6_byteAt 16 = .ok (.iload_n 1, 1) := by decide +kernel
theorem dX6_byteAt_17 : decode cX6_byteAt 17 = .ok (.iadd, 1) := by decide +kernel
theorem dX6_byteAt_18 : decode cX6_byteAt 18 = .ok (.iaload, 1) := by decide +kernel
theorem dX6_byteAt_19 : decode cX6_byteAt 19 = .ok (.goto 4, 3) := by decide +kernel
theorem dX6_byteAt_22 : decode cX6_byteAt 22 = .ok (.iconst (-1), 1) := by decide +kernel
theorem dX6_byteAt_23 : decode cX6_byteAt 23 = .ok (.ireturn, 1) := by decide +kernel
theorem dX6_next_0 : decode cX6_next 0 = .ok (.aload_n 0, 1) := by decide +kernel
theorem dX6_next_1 : decode cX6_next 1 = .ok (.aload_n 0, 1) := by decide +kernel
theorem dX6_next_2 : decode cX6_next 2 = .ok (.getfield 161, 3) := by decide +kernel
theorem dX6_next_5 : decode cX6_next 5 = .ok (.invokevirtual 164, 3) := by decide +kernel
theorem dX6_next_8 : decode cX6_next 8 = .ok (.bipush 32, 2) := by decide +kernel
theorem dX6_next_10 : decode cX6_next 10 = .ok (.if_icmp .eq 16, 3) := by decide +kernel
theorem dX6_next_13 : decode cX6_next 13 = .ok (.aload_n 0, 1) := by decide +kernel
theorem dX6_next_14 : decode cX6_next 14 = .ok (.aload_n 0, 1) := by decide +kernel
theorem dX6_next_15 : decode cX6_next 15 = .ok (.getfield 161, 3) := by decide +kernel
theorem dX6_next_18 : decode cX6_next 18 = .ok (.invokevirtual 164, 3) := by decide +kernel
theorem dX6_next_21 : decode cX6_next 21 = .ok (.bipush 10, 2) := by decide +kernel
theorem dX6_next_23 : decode cX6_next 23 = .ok (.if_icmp .ne 16, 3) := by decide +kernel
theorem dX6_next_26 : decode cX6_next 26 = .ok (.aload_n 0, 1) := by decide +kernel
theorem dX6_next_27 : decode cX6_next 27 = .ok (.dup, 1) := by decide +kernel
theorem dX6_next_28 : decode cX6_next 28 = .ok (.getfield 161, 3) := by decide +kernel
theorem dX6_next_31 : decode cX6_next 31 = .ok (.iconst 1, 1) := by decide +kernel
theorem dX6_next_32 : decode cX6_next 32 = .ok (.iadd, 1) := by decide +kernel
theorem dX6_next_33 : decode cX6_next 33 = .ok (.putfield 161, 3) := by decide +kernel
theorem dX6_next_36 : decode cX6_next 36 = .ok (.goto (-36), 3) := by decide +kernel
theorem dX6_next_39 : decode cX6_next 39 = .ok (.aload_n 0, 1) := by decide +kernel
theorem dX6_next_40 : decode cX6_next 40 = .ok (.aload_n 0, 1) := by decide +kernel
theorem dX6_next_41 : decode cX6_next 41 = .ok (.getfield 161, 3) := by decide +kernel
theorem dX6_next_44 : decode cX6_next 44 = .ok (.putfield 167, 3) := by decide +kernel
theorem dX6_next_47 : decode cX6_next 47 = .ok (.aload_n 0, 1) := by decide +kernel
theorem dX6_next_48 : decode cX6_next 48 = .ok (.aload_n 0, 1) := by decide +kernel
theorem dX6_next_49 : decode cX6_next 49 = .ok (.getfield 161, 3) := by decide +kernel
theorem dX6_next_52 : decode cX6_next 52 = .ok (.invokevirtual 164, 3) := by decide +kernel
theorem dX6_next_55 : decode cX6_next 55 = .ok (.istore_n 1, 1) := by decide +kernel
theorem dX6_next_56 : decode cX6_next 56 = .ok (.aload_n 0, 1) := by decide +kernel
theorem dX6_next_57 : decode cX6_next 57 = .ok (.iconst 4, 1) := by decide +kernel
theorem dX6_next_58 : decode cX6_next 58 = .ok (.putfield 170, 3) := by decide +kernel
theorem dX6_next_61 : decode cX6_next 61 = .ok (.iload_n 1, 1) := by decide +kernel
theorem dX6_next_62 : decode cX6_next 62 = .ok (.ifCond .ge 19, 3) := by decide +kernel
theorem dX6_next_65 : decode cX6_next 65 = .ok (.aload_n 0, 1) := by decide +kernel
theorem dX6_next_66 : decode cX6_next 66 = .ok (.iconst 0, 1) := by decide +kernel
theorem dX6_next_67 : decode cX6_next 67 = .ok (.putfield 170, 3) := by decide +kernel
theorem dX6_next_70 : decode cX6_next 70 = .ok (.aload_n 0, 1) := by decide +kernel
theorem dX6_next_71 : decode cX6_next 71 = .ok (.aload_n 0, 1) := by decide +kernel
theorem dX6_next_72 : decode cX6_next 72 = .ok (.getfield 155, 3) := by decide +kernel
theorem dX6_next_75 : decode cX6_next 75 = .ok (.putfield 167, 3) := by decide +kernel
theorem dX6_next_78 : decode cX6_next 78 = .ok (.goto 243, 3) := by decide +kernel
theorem dX6_next_81 : decode cX6_next 81 = .ok (.iload_n 1, 1) := by decide +kernel
theorem dX6_next_82 : decode cX6_next 82 = .ok (.i2l, 1) := by decide +kernel
theorem dX6_next_83 : decode cX6_next 83 = .ok (.ldc2_w 173, 3) := by decide +kernel
theorem dX6_next_86 : decode cX6_next 86 = .ok (.ldc2_w 175, 3) := by decide +kernel
theorem dX6_next_89 : decode cX6_next 89 = .ok (.invokestatic 86, 3) := by decide +kernel
theorem dX6_next_92 : decode cX6_next 92 = .ok (.ifCond .eq 42, 3) := by decide +kernel
theorem dX6_next_95 : decode cX6_next 95 = .ok (.aload_n 0, 1) := by decide +kernel
theorem dX6_next_96 : decode cX6_next 96 = .ok (.iconst 1, 1) := by decide +kernel
theorem dX6_next_97 : decode cX6_next 97 = .ok (.putfield 170, 3) := by decide +kernel
theorem dX6_next_100 : decode cX6_next 100 = .ok (.aload_n 0, 1) := by decide +kernel
theorem dX6_next_101 : decode cX6_next 101 = .ok (.aload_n 0, 1) := by decide +kernel
theorem dX6_next_102 : decode cX6_next 102 = .ok (.getfield 161, 3) := by decide +kernel
theorem dX6_next_105 : decode cX6_next 105 = .ok (.invokevirtual 164, 3) := by decide +kernel
theorem dX6_next_108 : decode cX6_next 108 = .ok (.i2l, 1) := by decide +kernel
theorem dX6_next_109 : decode cX6_next 109 = .ok (.ldc2_w 173, 3) := by decide +kernel
theorem dX6_next_112 : decode cX6_next 112 = .ok (.ldc2_w 175, 3) := by decide +kernel
theorem dX6_next_115 : decode cX6_next 115 = .ok (.invokestatic 86, 3) := by decide +kernel
theorem dX6_next_118 : decode cX6_next 118 = .ok (.ifCond .eq 203, 3) := by decide +kernel
theorem dX6_next_121 : decode cX6_next 121 = .ok (.aload_n 0, 1) := by decide +kernel
theorem dX6_next_122 : decode cX6_next 122 = .ok (.dup, 1) := by decide +kernel
theorem dX6_next_123 : decode cX6_next 123 = .ok (.getfield 161, 3) := by decide +kernel
theorem dX6_next_126 : decode cX6_next 126 = .ok (.iconst 1, 1) := by decide +kernel
theorem dX6_next_127 : decode cX6_next 127 = .ok (.iadd, 1) := by decide +kernel
theorem dX6_next_128 : decode cX6_next 128 = .ok (.putfield 161, 3) := by decide +kernel
theorem dX6_next_131 : decode cX6_next 131 = .ok (.goto (-31), 3) := by decide +kernel
theorem dX6_next_134 : decode cX6_next 134 = .ok (.iload_n 1, 1) := by decide +kernel
theorem dX6_next_135 : decode cX6_next 135 = .ok (.i2l, 1) := by decide +kernel
theorem dX6_next_136 : decode cX6_next 136 = .ok (.ldc2_w 177, 3) := by decide +kernel
theorem dX6_next_139 : decode cX6_next 139 = .ok (.ldc2_w 179, 3) := by decide +kernel
theorem dX6_next_142 : decode cX6_next 142 = .ok (.invokestatic 86, 3) := by decide +kernel
theorem dX6_next_145 : decode cX6_next 145 = .ok (.ifCond .eq 107, 3) := by decide +kernel
theorem dX6_next_148 : decode cX6_next 148 = .ok (.aload_n 0, 1) := by decide +kernel
theorem dX6_next_149 : decode cX6_next 149 = .ok (.iconst 2, 1) := by decide +kernel
theorem dX6_next_150 : decode cX6_next 150 = .ok (.putfield 170, 3) := by decide +kernel
theorem dX6_next_153 : decode cX6_next 153 = .ok (.aload_n 0, 1) := by decide +kernel
theorem dX6_next_154 : decode cX6_next 154 = .ok (.lconst 0, 1) := by decide +kernel
theorem dX6_next_155 : decode cX6_next 155 = .ok (.putfield 181, 3) := by decide +kernel
theorem dX6_next_158 : decode cX6_next 158 = .ok (.iconst 0, 1) := by decide +kernel
theorem dX6_next_159 : decode cX6_next 159 = .ok (.istore_n 2, 1) := by decide +kernel
theorem dX6_next_160 : decode cX6_next 160 = .ok (.aload_n 0, 1) := by decide +kernel
theorem dX6_next_161 : decode cX6_next 161 = .ok (.aload_n 0, 1) := by decide +kernel
theorem dX6_next_162 : decode cX6_next 162 = .ok (.getfield 161, 3) := by decide +kernel
theorem dX6_next_165 : decode cX6_next 165 = .ok (.invokevirtual 164, 3) := by decide +kernel
theorem dX6_next_168 : decode cX6_next 168 = .ok (.i2l, 1) := by decide +kernel
theorem dX6_next_169 : decode cX6_next 169 = .ok (.ldc2_w 177, 3) := by decide +kernel
theorem dX6_next_172 : decode cX6_next 172 = .ok (.ldc2_w 179, 3) := by decide +kernel
theorem dX6_next_175 : decode cX6_next 175 = .ok (.invokestatic 86, 3) := by decide +kernel
theorem dX6_next_178 : decode cX6_next 178 = .ok (.ifCond .eq 57, 3) := by decide +kernel
theorem dX6_next_181 : decode cX6_next 181 = .ok (.aload_n 0, 1) := by decide +kernel
theorem dX6_next_182 : decode cX6_next 182 = .ok (.iload_n 2, 1) := by decide +kernel
theorem dX6_next_183 : decode cX6_next 183 = .ok (.iconst 4, 1) := by decide +kernel
theorem dX6_next_184 : decode cX6_next 184 = .ok (.if_icmp .ge 28, 3) := by decide +kernel
theorem dX6_next_187 : decode cX6_next 187 = .ok (.ldc2_w 185, 3) := by decide +kernel
theorem dX6_next_190 : decode cX6_next 190 = .ok (.aload_n 0, 1) := by decide +kernel
theorem dX6_next_191 : decode cX6_next 191 = .ok (.getfield 181, 3) := by decide +kernel
theorem dX6_next_194 : decode cX6_next 194 = .ok (.lmul, 1) := by decide +kernel
theorem dX6_next_195 : decode cX6_next 195 = .ok (.aload_n 0, 1) := by decide +kernel
theorem dX6_next_196 : decode cX6_next 196 = .ok (.aload_n 0, 1) := by decide +kernel
theorem dX6_next_197 : decode cX6_next 197 = .ok (.getfield 161, 3) := by decide +kernel
theorem dX6_next_200 : decode cX6_next 200 = .ok (.invokevirtual 164, 3) := by decide +kernel
theorem dX6_next_203 : decode cX6_next 203 = .ok (.i2l, 1) := by decide +kernel
theorem dX6_next_204 : decode cX6_next 204 = .ok (.ladd, 1) := by decide +kernel
theorem dX6_next_205 : decode cX6_next 205 = .ok (.ldc2_w 177, 3) := by decide +kernel
theorem dX6_next_208 : decode cX6_next 208 = .ok (.lsub, 1) := by decide +kernel
theorem dX6_next_209 : decode cX6_next 209 = .ok (.goto 7, 3) := by decide +kernel
theorem dX6_next_212 : decode cX6_next 212 = .ok (.aload_n 0, 1) := by decide +kernel
theorem dX6_next_213 : decode cX6_next 213 = .ok (.getfield 181, 3) := by decide +kernel
theorem dX6_next_216 : decode cX6_next 216 = .ok (.putfield 181, 3) := by decide +kernel
theorem dX6_next_219 : decode cX6_next 219 = .ok (.iinc 2 1, 3) := by decide +kernel
theorem dX6_next_222 : decode cX6_next 222 = .ok (.aload_n 0, 1) := by decide +kernel
theorem dX6_next_223 : decode cX6_next 223 = .ok (.dup, 1) := by decide +kernel
theorem dX6_next_224 : decode cX6_next 224 = .ok (.getfield 161, 3) := by decide +kernel
theorem dX6_next_227 : decode cX6_next 227 = .ok (.iconst 1, 1) := by decide +kernel
theorem dX6_next_228 : decode cX6_next 228 = .ok (.iadd, 1) := by decide +kernel
theorem dX6_next_229 : decode cX6_next 229 = .ok (.putfield 161, 3) := by decide +kernel
theorem dX6_next_232 : decode cX6_next 232 = .ok (.goto (-72), 3) := by decide +kernel
theorem dX6_next_235 : decode cX6_next 235 = .ok (.aload_n 0, 1) := by decide +kernel
theorem dX6_next_236 : decode cX6_next 236 = .ok (.iload_n 2, 1) := by decide +kernel
theorem dX6_next_237 : decode cX6_next 237 = .ok (.iconst 4, 1) := by decide +kernel
theorem dX6_next_238 : decode cX6_next 238 = .ok (.if_icmp .le 7, 3) := by decide +kernel
theorem dX6_next_241 : decode cX6_next 241 = .ok (.iconst 4, 1) := by decide +kernel
theorem dX6_next_242 : decode cX6_next 242 = .ok (.goto 4, 3) := by decide +kernel
theorem dX6_next_245 : decode cX6_next 245 = .ok (.iconst 2, 1) := by decide +kernel
theorem dX6_next_246 : decode cX6_next 246 = .ok (.putfield 170, 3) := by decide +kernel
theorem dX6_next_249 : decode cX6_next 249 = .ok (.goto 72, 3) := by decide +kernel
theorem dX6_next_252 : decode cX6_next 252 = .ok (.iload_n 1, 1) := by decide +kernel
theorem dX6_next_253 : decode cX6_next 253 = .ok (.bipush 40, 2) := by decide +kernel
theorem dX6_next_255 : decode cX6_next 255 = .ok (.if_icmp .eq 45, 3) := by decide +kernel
theorem dX6_next_258 : decode cX6_next 258 = .ok (.iload_n 1, 1) := by decide +kernel
theorem dX6_next_259 : decode cX6_next 259 = .ok (.bipush 41, 2) := by decide +kernel
theorem dX6_next_261 : decode cX6_next 261 = .ok (.if_icmp .eq 39, 3) := by decide +kernel
theorem dX6_next_264 : decode cX6_next 264 = .ok (.iload_n 1, 1) := by decide +kernel
theorem dX6_next_265 : decode cX6_next 265 = .ok (.bipush 59, 2) := by decide +kernel
theorem dX6_next_267 : decode cX6_next 267 = .ok (.if_icmp .eq 33, 3) := by decide +kernel
theorem dX6_next_270 : decode cX6_next 270 = .ok (.iload_n 1, 1) := by decide +kernel
theorem dX6_next_271 : decode cX6_next 271 = .ok (.bipush 43, 2) := by decide +kernel
theorem dX6_next_273 : decode cX6_next 273 = .ok (.if_icmp .eq 27, 3) := by decide +kernel
theorem dX6_next_276 : decode cX6_next 276 = .ok (.iload_n 1, 1) := by decide +kernel
theorem dX6_next_277 : decode cX6_next 277 = .ok (.bipush 45, 2) := by decide +kernel
theorem dX6_next_279 : decode cX6_next 279 = .ok (.if_icmp .eq 21, 3) := by decide +kernel
theorem dX6_next_282 : decode cX6_next 282 = .ok (.iload_n 1, 1) := by decide +kernel
theorem dX6_next_283 : decode cX6_next 283 = .ok (.bipush 42, 2) := by decide +kernel
theorem dX6_next_285 : decode cX6_next 285 = .ok (.if_icmp .eq 15, 3) := by decide +kernel
theorem dX6_next_288 : decode cX6_next 288 = .ok (.iload_n 1, 1) := by decide +kernel
theorem dX6_next_289 : decode cX6_next 289 = .ok (.bipush 60, 2) := by decide +kernel
theorem dX6_next_291 : decode cX6_next 291 = .ok (.if_icmp .eq 9, 3) := by decide +kernel
theorem dX6_next_294 : decode cX6_next 294 = .ok (.iload_n 1, 1) := by decide +kernel
theorem dX6_next_295 : decode cX6_next 295 = .ok (.bipush 61, 2) := by decide +kernel
theorem dX6_next_297 : decode cX6_next 297 = .ok (.if_icmp .ne 24, 3) := by decide +kernel
theorem dX6_next_300 : decode cX6_next 300 = .ok (.aload_n 0, 1) := by decide +kernel
theorem dX6_next_301 : decode cX6_next 301 = .ok (.iconst 3, 1) := by decide +kernel
theorem dX6_next_302 : decode cX6_next 302 = .ok (.putfield 170, 3) := by decide +kernel
theorem dX6_next_305 : decode cX6_next 305 = .ok (.aload_n 0, 1) := by decide +kernel
theorem dX6_next_306 : decode cX6_next 306 = .ok (.iload_n 1, 1) := by decide +kernel
theorem dX6_next_307 : decode cX6_next 307 = .ok (.i2l, 1) := by decide +kernel
theorem dX6_next_308 : decode cX6_next 308 = .ok (.putfield 181, 3) := by decide +kernel
theorem dX6_next_311 : decode cX6_next 311 = .ok (.aload_n 0, 1) := by decide +kernel
theorem dX6_next_312 : decode cX6_next 312 = .ok (.dup, 1) := by decide +kernel
theorem dX6_next_313 : decode cX6_next 313 = .ok (.getfield 161, 3) := by decide +kernel
theorem dX6_next_316 : decode cX6_next 316 = .ok (.iconst 1, 1) := by decide +kernel
theorem dX6_next_317 : decode cX6_next 317 = .ok (.iadd, 1) := by decide +kernel
theorem dX6_next_318 : decode cX6_next 318 = .ok (.putfield 161, 3) := by decide +kernel
theorem dX6_next_321 : decode cX6_next 321 = .ok (.return_, 1) := by decide +kernel
theorem dX6_fail_0 : decode cX6_fail 0 = .ok (.aload_n 0, 1) := by decide +kernel
theorem dX6_fail_1 : decode cX6_fail 1 = .ok (.getfield 187, 3) := by decide +kernel
theorem dX6_fail_4 : decode cX6_fail 4 = .ok (.ifCond .ne 16, 3) := by decide +kernel
theorem dX6_fail_7 : decode cX6_fail 7 = .ok (.aload_n 0, 1) := by decide +kernel
theorem dX6_fail_8 : decode cX6_fail 8 = .ok (.iconst 1, 1) := by decide +kernel
theorem dX6_fail_9 : decode cX6_fail 9 = .ok (.putfield 187, 3) := by decide +kernel
theorem dX6_fail_12 : decode cX6_fail 12 = .ok (.aload_n 0, 1) := by decide +kernel
theorem dX6_fail_13 : decode cX6_fail 13 = .ok (.aload_n 0, 1) := by decide +kernel
theorem dX6_fail_14 : decode cX6_fail 14 = .ok (.getfield 167, 3) := by decide +kernel
theorem dX6_fail_17 : decode cX6_fail 17 = .ok (.putfield 191, 3) := by decide +kernel
theorem dX6_fail_20 : decode cX6_fail 20 = .ok (.return_, 1) := by decide +kernel
theorem dX6_isLetter_0 : decode cX6_isLetter 0 = .ok (.aload_n 0, 1) := by decide +kernel
theorem dX6_isLetter_1 : decode cX6_isLetter 1 = .ok (.getfield 167, 3) := by decide +kernel
theorem dX6_isLetter_4 : decode cX6_isLetter 4 = .ok (.iload_n 1, 1) := by decide +kernel
theorem dX6_isLetter_5 : decode cX6_isLetter 5 = .ok (.iadd, 1) := by decide +kernel
theorem dX6_isLetter_6 : decode cX6_isLetter 6 = .ok (.aload_n 0, 1) := by decide +kernel
theorem dX6_isLetter_7 : decode cX6_isLetter 7 = .ok (.getfield 161, 3) := by decide +kernel
theorem dX6_isLetter_10 : decode cX6_isLetter 10 = .ok (.if_icmp .ge 25, 3) := by decide +kernel
theorem dX6_isLetter_13 : decode cX6_isLetter 13 = .ok (.aload_n 0, 1) := by decide +kernel
theorem dX6_isLetter_14 : decode cX6_isLetter 14 = .ok (.aload_n 0, 1) := by decide +kernel
theorem dX6_isLetter_15 : decode cX6_isLetter 15 = .ok (.getfield 167, 3) := by decide +kernel
theorem dX6_isLetter_18 : decode cX6_isLetter 18 = .ok (.iload_n 1, 1) := by decide +kernel
theorem dX6_isLetter_19 : decode cX6_isLetter 19 = .ok (.iadd, 1) := by decide +kernel
theorem dX6_isLetter_20 : decode cX6_isLetter 20 = .ok (.invokevirtual 164, 3) := by decide +kernel
theorem dX6_isLetter_23 : decode cX6_isLetter 23 = .ok (.iload_n 2, 1) := by decide +kernel
theorem dX6_isLetter_24 : decode cX6_isLetter 24 = .ok (.if_icmp .ne 7, 3) := by decide +kernel
theorem dX6_isLetter_27 : decode cX6_isLetter 27 = .ok (.iconst 1, 1) := by decide +kernel
theorem dX6_isLetter_28 : decode cX6_isLetter 28 = .ok (.goto 16, 3) := by decide +kernel
theorem dX6_isLetter_31 : decode cX6_isLetter 31 = .ok (.iconst 0, 1) := by decide +kernel
theorem dX6_isLetter_32 : decode cX6_isLetter 32 = .ok (.goto 12, 3) := by decide +kernel
theorem dX6_isLetter_35 : decode cX6_isLetter 35 = .ok (.iload_n 2, 1) := by decide +kernel
theorem dX6_isLetter_36 : decode cX6_isLetter 36 = .ok (.ifCond .ne 7, 3) := by decide +kernel
theorem dX6_isLetter_39 : decode cX6_isLetter 39 = .ok (.iconst 1, 1) := by decide +kernel
theorem dX6_isLetter_40 : decode cX6_isLetter 40 = .ok (.goto 4, 3) := by decide +kernel
theorem dX6_isLetter_43 : decode cX6_isLetter 43 = .ok (.iconst 0, 1) := by decide +kernel
theorem dX6_isLetter_44 : decode cX6_isLetter 44 = .ok (.ireturn, 1) := by decide +kernel
theorem dX6_isWord_0 : decode cX6_isWord 0 = .ok (.aload_n 0, 1) := by decide +kernel
theorem dX6_isWord_1 : decode cX6_isWord 1 = .ok (.getfield 187, 3) := by decide +kernel
theorem dX6_isWord_4 : decode cX6_isWord 4 = .ok (.ifCond .ne 108, 3) := by decide +kernel
theorem dX6_isWord_7 : decode cX6_isWord 7 = .ok (.aload_n 0, 1) := by decide +kernel
theorem dX6_isWord_8 : decode cX6_isWord 8 = .ok (.getfield 170, 3) := by decide +kernel
theorem dX6_isWord_11 : decode cX6_isWord 11 = .ok (.iconst 1, 1) := by decide +kernel
theorem dX6_isWord_12 : decode cX6_isWord 12 = .ok (.if_icmp .ne 100, 3) := by decide +kernel
theorem dX6_isWord_15 : decode cX6_isWord 15 = .ok (.aload_n 0, 1) := by decide +kernel
theorem dX6_isWord_16 : decode cX6_isWord 16 = .ok (.getfield 161, 3) := by decide +kernel
theorem dX6_isWord_19 : decode cX6_isWord 19 = .ok (.aload_n 0, 1) := by decide +kernel
theorem dX6_isWord_20 : decode cX6_isWord 20 = .ok (.getfield 167, 3) := by decide +kernel
theorem dX6_isWord_23 : decode cX6_isWord 23 = .ok (.bipush 8, 2) := by decide +kernel
theorem dX6_isWord_25 : decode cX6_isWord 25 = .ok (.iadd, 1) := by decide +kernel
theorem dX6_isWord_26 : decode cX6_isWord 26 = .ok (.if_icmp .gt 86, 3) := by decide +kernel
theorem dX6_isWord_29 : decode cX6_isWord 29 = .ok (.aload_n 0, 1) := by decide +kernel
theorem dX6_isWord_30 : decode cX6_isWord 30 = .ok (.iconst 0, 1) := by decide +kernel
theorem dX6_isWord_31 : decode cX6_isWord 31 = .ok (.iload_n 1, 1) := by decide +kernel
theorem dX6_isWord_32 : decode cX6_isWord 32 = .ok (.invokevirtual 194, 3) := by decide +kernel
theorem dX6_isWord_35 : decode cX6_isWord 35 = .ok (.ifCond .eq 77, 3) := by decide +kernel
theorem dX6_isWord_38 : decode cX6_isWord 38 = .ok (.aload_n 0, 1) := by decide +kernel
theorem dX6_isWord_39 : decode cX6_isWord 39 = .ok (.iconst 1, 1) := by decide +kernel
theorem dX6_isWord_40 : decode cX6_isWord 40 = .ok (.iload_n 2, 1) := by decide +kernel
theorem dX6_isWord_41 : decode cX6_isWord 41 = .ok (.invokevirtual 194, 3) := by decide +kernel
theorem dX6_isWord_44 : decode cX6_isWord 44 = .ok (.ifCond .eq 68, 3) := by decide +kernel
theorem dX6_isWord_47 : decode cX6_isWord 47 = .ok (.aload_n 0, 1) := by decide +kernel
theorem dX6_isWord_48 : decode cX6_isWord 48 = .ok (.iconst 2, 1) := by decide +kernel
theorem dX6_isWord_49 : decode cX6_isWord 49 = .ok (.iload_n 3, 1) := by decide +kernel
theorem dX6_isWord_50 : decode cX6_isWord 50 = .ok (.invokevirtual 194, 3) := by decide +kernel
theorem dX6_isWord_53 : decode cX6_isWord 53 = .ok (.ifCond .eq 59, 3) := by decide +kernel
theorem dX6_isWord_56 : decode cX6_isWord 56 = .ok (.aload_n 0, 1) := by decide +kernel
theorem dX6_isWord_57 : decode cX6_isWord 57 = .ok (.iconst 3, 1) := by decide +kernel
theorem dX6_isWord_58 : decode cX6_isWord 58 = .ok (.iload 4, 2) := by decide +kernel
theorem dX6_isWord_60 : decode cX6_isWord 60 = .ok (.invokevirtual 194, 3) := by decide +kernel
theorem dX6_isWord_63 : decode cX6_isWord 63 = .ok (.ifCond .eq 49, 3) := by decide +kernel
theorem dX6_isWord_66 : decode cX6_isWord 66 = .ok (.aload_n 0, 1) := by decide +kernel
theorem dX6_isWord_67 : decode cX6_isWord 67 = .ok (.iconst 4, 1) := by decide +kernel
theorem dX6_isWord_68 : decode cX6_isWord 68 = .ok (.iload 5, 2) := by decide +kernel
theorem dX6_isWord_70 : decode cX6_isWord 70 = .ok (.invokevirtual 194, 3) := by decide +kernel
theorem dX6_isWord_73 : decode cX6_isWord 73 = .ok (.ifCond .eq 39, 3) := by decide +kernel
theorem dX6_isWord_76 : decode cX6_isWord 76 = .ok (.aload_n 0, 1) := by decide +kernel
theorem dX6_isWord_77 : decode cX6_isWord 77 = .ok (.iconst 5, 1) := by decide +kernel
theorem dX6_isWord_78 : decode cX6_isWord 78 = .ok (.iload 6, 2) := by decide +kernel
theorem dX6_isWord_80 : decode cX6_isWord 80 = .ok (.invokevirtual 194, 3) := by decide +kernel
theorem dX6_isWord_83 : decode cX6_isWord 83 = .ok (.ifCond .eq 29, 3) := by decide +kernel
theorem dX6_isWord_86 : decode cX6_isWord 86 = .ok (.aload_n 0, 1) := by decide +kernel
theorem dX6_isWord_87 : decode cX6_isWord 87 = .ok (.bipush 6, 2) := by decide +kernel
theorem dX6_isWord_89 : decode cX6_isWord 89 = .ok (.iload 7, 2) := by decide +kernel
theorem dX6_isWord_91 : decode cX6_isWord 91 = .ok (.invokevirtual 194, 3) := by decide +kernel
theorem dX6_isWord_94 : decode cX6_isWord 94 = .ok (.ifCond .eq 18, 3) := by decide +kernel
theorem dX6_isWord_97 : decode cX6_isWord 97 = .ok (.aload_n 0, 1) := by decide +kernel
theorem dX6_isWord_98 : decode cX6_isWord 98 = .ok (.bipush 7, 2) := by decide +kernel
theorem dX6_isWord_100 : decode cX6_isWord 100 = .ok (.iload 8, 2) := by decide +kernel
theorem dX6_isWord_102 : decode cX6_isWord 102 = .ok (.invokevirtual 194, 3) := by decide +kernel
theorem dX6_isWord_105 : decode cX6_isWord 105 = .ok (.ifCond .eq 7, 3) := by decide +kernel
theorem dX6_isWord_108 : decode cX6_isWord 108 = .ok (.iconst 1, 1) := by decide +kernel
theorem dX6_isWord_109 : decode cX6_isWord 109 = .ok (.goto 4, 3) := by decide +kernel
theorem dX6_isWord_112 : decode cX6_isWord 112 = .ok (.iconst 0, 1) := by decide +kernel
theorem dX6_isWord_113 : decode cX6_isWord 113 = .ok (.ireturn, 1) := by decide +kernel
theorem dX6_isSign_0 : decode cX6_isSign 0 = .ok (.aload_n 0, 1) := by decide +kernel
theorem dX6_isSign_1 : decode cX6_isSign 1 = .ok (.getfield 187, 3) := by decide +kernel
theorem dX6_isSign_4 : decode cX6_isSign 4 = .ok (.ifCond .ne 25, 3) := by decide +kernel
theorem dX6_isSign_7 : decode cX6_isSign 7 = .ok (.aload_n 0, 1) := by decide +kernel
theorem dX6_isSign_8 : decode cX6_isSign 8 = .ok (.getfield 170, 3) := by decide +kernel
theorem dX6_isSign_11 : decode cX6_isSign 11 = .ok (.iconst 3, 1) := by decide +kernel
theorem dX6_isSign_12 : decode cX6_isSign 12 = .ok (.if_icmp .ne 17, 3) := by decide +kernel
theorem dX6_isSign_15 : decode cX6_isSign 15 = .ok (.aload_n 0, 1) := by decide +kernel
theorem dX6_isSign_16 : decode cX6_isSign 16 = .ok (.getfield 181, 3) := by decide +kernel
theorem dX6_isSign_19 : decode cX6_isSign 19 = .ok (.iload_n 1, 1) := by decide +kernel
theorem dX6_isSign_20 : decode cX6_isSign 20 = .ok (.i2l, 1) := by decide +kernel
theorem dX6_isSign_21 : decode cX6_isSign 21 = .ok (.lcmp, 1) := by decide +kernel
theorem dX6_isSign_22 : decode cX6_isSign 22 = .ok (.ifCond .ne 7, 3) := by decide +kernel
theorem dX6_isSign_25 : decode cX6_isSign 25 = .ok (.iconst 1, 1) := by decide +kernel
theorem dX6_isSign_26 : decode cX6_isSign 26 = .ok (.goto 4, 3) := by decide +kernel
theorem dX6_isSign_29 : decode cX6_isSign 29 = .ok (.iconst 0, 1) := by decide +kernel
theorem dX6_isSign_30 : decode cX6_isSign 30 = .ok (.ireturn, 1) := by decide +kernel
theorem dX6_opens_0 : decode cX6_opens 0 = .ok (.aload_n 0, 1) := by decide +kernel
theorem dX6_opens_1 : decode cX6_opens 1 = .ok (.getfield 197, 3) := by decide +kernel
theorem dX6_opens_4 : decode cX6_opens 4 = .ok (.iconst 5, 1) := by decide +kernel
theorem dX6_opens_5 : decode cX6_opens 5 = .ok (.if_icmp .ne 9, 3) := by decide +kernel
theorem dX6_opens_8 : decode cX6_opens 8 = .ok (.aload_n 0, 1) := by decide +kernel
theorem dX6_opens_9 : decode cX6_opens 9 = .ok (.invokevirtual 200, 3) := by decide +kernel
theorem dX6_opens_12 : decode cX6_opens 12 = .ok (.iconst 0, 1) := by decide +kernel
theorem dX6_opens_13 : decode cX6_opens 13 = .ok (.ireturn, 1) := by decide +kernel
theorem dX6_opens_14 : decode cX6_opens 14 = .ok (.aload_n 0, 1) := by decide +kernel
theorem dX6_opens_15 : decode cX6_opens 15 = .ok (.dup, 1) := by decide +kernel
theorem dX6_opens_16 : decode cX6_opens 16 = .ok (.getfield 197, 3) := by decide +kernel
theorem dX6_opens_19 : decode cX6_opens 19 = .ok (.iconst 1, 1) := by decide +kernel
theorem dX6_opens_20 : decode cX6_opens 20 = .ok (.iadd, 1) := by decide +kernel
theorem dX6_opens_21 : decode cX6_opens 21 = .ok (.putfield 197, 3) := by decide +kernel
theorem dX6_opens_24 : decode cX6_opens 24 = .ok (.aload_n 0, 1) := by decide +kernel
theorem dX6_opens_25 : decode cX6_opens 25 = .ok (.invokevirtual 203, 3) := by decide +kernel
theorem dX6_opens_28 : decode cX6_opens 28 = .ok (.iconst 1, 1) := by decide +kernel
theorem dX6_opens_29 : decode cX6_opens 29 = .ok (.ireturn, 1) := by decide +kernel
theorem dX6_says1_0 : decode cX6_says1 0 = .ok (.aload_n 0, 1) := by decide +kernel
theorem dX6_says1_1 : decode cX6_says1 1 = .ok (.getfield 187, 3) := by decide +kernel
theorem dX6_says1_4 : decode cX6_says1 4 = .ok (.ifCond .eq 4, 3) := by decide +kernel
theorem dX6_says1_7 : decode cX6_says1 7 = .ok (.return_, 1) := by decide +kernel
theorem dX6_says1_8 : decode cX6_says1 8 = .ok (.aload_n 0, 1) := by decide +kernel
theorem dX6_says1_9 : decode cX6_says1 9 = .ok (.getfield 20, 3) := by decide +kernel
theorem dX6_says1_12 : decode cX6_says1 12 = .ok (.aload_n 0, 1) := by decide +kernel
theorem dX6_says1_13 : decode cX6_says1 13 = .ok (.getfield 158, 3) := by decide +kernel
theorem dX6_says1_16 : decode cX6_says1 16 = .ok (.aload_n 0, 1) := by decide +kernel
theorem dX6_says1_17 : decode cX6_says1 17 = .ok (.getfield 206, 3) := by decide +kernel
theorem dX6_says1_20 : decode cX6_says1 20 = .ok (.iadd, 1) := by decide +kernel
theorem dX6_says1_21 : decode cX6_says1 21 = .ok (.iload_n 1, 1) := by decide +kernel
theorem dX6_says1_22 : decode cX6_says1 22 = .ok (.iastore, 1) := by decide +kernel
theorem dX6_says1_23 : decode cX6_says1 23 = .ok (.aload_n 0, 1) := by decide +kernel
theorem dX6_says1_24 : decode cX6_says1 24 = .ok (.getfield 23, 3) := by decide +kernel
theorem dX6_says1_27 : decode cX6_says1 27 = .ok (.aload_n 0, 1) := by decide +kernel
theorem dX6_says1_28 : decode cX6_says1 28 = .ok (.getfield 158, 3) := by decide +kernel
theorem dX6_says1_31 : decode cX6_says1 31 = .ok (.aload_n 0, 1) := by decide +kernel
theorem dX6_says1_32 : decode cX6_says1 32 = .ok (.getfield 206, 3) := by decide +kernel
theorem dX6_says1_35 : decode cX6_says1 35 = .ok (.iadd, 1) := by decide +kernel
theorem dX6_says1_36 : decode cX6_says1 36 = .ok (.iload_n 2, 1) := by decide +kernel
theorem dX6_says1_37 : decode cX6_says1 37 = .ok (.iastore, 1) := by decide +kernel
theorem dX6_says1_38 : decode cX6_says1 38 = .ok (.aload_n 0, 1) := by decide +kernel
theorem dX6_says1_39 : decode cX6_says1 39 = .ok (.dup, 1) := by decide +kernel
theorem dX6_says1_40 : decode cX6_says1 40 = .ok (.getfield 206, 3) := by decide +kernel
theorem dX6_says1_43 : decode cX6_says1 43 = .ok (.iconst 1, 1) := by decide +kernel
theorem dX6_says1_44 : decode cX6_says1 44 = .ok (.iadd, 1) := by decide +kernel
theorem dX6_says1_45 : decode cX6_says1 45 = .ok (.putfield 206, 3) := by decide +kernel
theorem dX6_says1_48 : decode cX6_says1 48 = .ok (.return_, 1) := by decide +kernel
theorem dX6_name_0 : decode cX6_name 0 = .ok (.aload_n 0, 1) := by decide +kernel
theorem dX6_name_1 : decode cX6_name 1 = .ok (.bipush 100, 2) := by decide +kernel
theorem dX6_name_3 : decode cX6_name 3 = .ok (.bipush 111, 2) := by decide +kernel
theorem dX6_name_5 : decode cX6_name 5 = .ok (.bipush 117, 2) := by decide +kernel
theorem dX6_name_7 : decode cX6_name 7 = .ok (.bipush 98, 2) := by decide +kernel
theorem dX6_name_9 : decode cX6_name 9 = .ok (.bipush 116, 2) := by decide +kernel
theorem dX6_name_11 : decode cX6_name 11 = .ok (.iconst 0, 1) := by decide +kernel
theorem dX6_name_12 : decode cX6_name 12 = .ok (.iconst 0, 1) := by decide +kernel
theorem dX6_name_13 : decode cX6_name 13 = .ok (.iconst 0, 1) := by decide +kernel
theorem dX6_name_14 : decode cX6_name 14 = .ok (.invokevirtual 209, 3) := by decide +kernel
theorem dX6_name_17 : decode cX6_name 17 = .ok (.ifCond .eq 5, 3) := by decide +kernel
theorem dX6_name_20 : decode cX6_name 20 = .ok (.iconst 0, 1) := by decide +kernel
theorem dX6_name_21 : decode cX6_name 21 = .ok (.ireturn, 1) := by decide +kernel
theorem dX6_name_22 : decode cX6_name 22 = .ok (.aload_n 0, 1) := by decide +kernel
theorem dX6_name_23 : decode cX6_name 23 = .ok (.bipush 102, 2) := by decide +kernel
theorem dX6_name_25 : decode cX6_name 25 = .ok (.bipush 105, 2) := by decide +kernel
theorem dX6_name_27 : decode cX6_name 27 = .ok (.bipush 114, 2) := by decide +kernel
theorem dX6_name_29 : decode cX6_name 29 = .ok (.bipush 109, 2) := by decide +kernel
theorem dX6_name_31 : decode cX6_name 31 = .ok (.iconst 0, 1) := by decide +kernel
theorem dX6_name_32 : decode cX6_name 32 = .ok (.iconst 0, 1) := by decide +kernel
theorem dX6_name_33 : decode cX6_name 33 = .ok (.iconst 0, 1) := by decide +kernel
theorem dX6_name_34 : decode cX6_name 34 = .ok (.iconst 0, 1) := by decide +kernel
theorem dX6_name_35 : decode cX6_name 35 = .ok (.invokevirtual 209, 3) := by decide +kernel
theorem dX6_name_38 : decode cX6_name 38 = .ok (.ifCond .eq 5, 3) := by decide +kernel
theorem dX6_name_41 : decode cX6_name 41 = .ok (.iconst 1, 1) := by decide +kernel
theorem dX6_name_42 : decode cX6_name 42 = .ok (.ireturn, 1) := by decide +kernel
theorem dX6_name_43 : decode cX6_name 43 = .ok (.aload_n 0, 1) := by decide +kernel
theorem dX6_name_44 : decode cX6_name 44 = .ok (.bipush 110, 2) := by decide +kernel
theorem dX6_name_46 : decode cX6_name 46 = .ok (.bipush 117, 2) := by decide +kernel
theorem dX6_name_48 : decode cX6_name 48 = .ok (.bipush 109, 2) := by decide +kernel
theorem dX6_name_50 : decode cX6_name 50 = .ok (.bipush 98, 2) := by decide +kernel
theorem dX6_name_52 : decode cX6_name 52 = .ok (.bipush 101, 2) := by decide +kernel
theorem dX6_name_54 : decode cX6_name 54 = .ok (.bipush 114, 2) := by decide +kernel
theorem dX6_name_56 : decode cX6_name 56 = .ok (.iconst 0, 1) := by decide +kernel
theorem dX6_name_57 : decode cX6_name 57 = .ok (.iconst 0, 1) := by decide +kernel
theorem dX6_name_58 : decode cX6_name 58 = .ok (.invokevirtual 209, 3) := by decide +kernel
theorem dX6_name_61 : decode cX6_name 61 = .ok (.ifCond .eq 5, 3) := by decide +kernel
theorem dX6_name_64 : decode cX6_name 64 = .ok (.iconst 2, 1) := by decide +kernel
theorem dX6_name_65 : decode cX6_name 65 = .ok (.ireturn, 1) := by decide +kernel
theorem dX6_name_66 : decode cX6_name 66 = .ok (.aload_n 0, 1) := by decide +kernel
theorem dX6_name_67 : decode cX6_name 67 = .ok (.bipush 104, 2) := by decide +kernel
theorem dX6_name_69 : decode cX6_name 69 = .ok (.bipush 111, 2) := by decide +kernel
theorem dX6_name_71 : decode cX6_name 71 = .ok (.bipush 117, 2) := by decide +kernel
theorem dX6_name_73 : decode cX6_name 73 = .ok (.bipush 114, 2) := by decide +kernel
theorem dX6_name_75 : decode cX6_name 75 = .ok (.iconst 0, 1) := by decide +kernel
theorem dX6_name_76 : decode cX6_name 76 = .ok (.iconst 0, 1) := by decide +kernel
theorem dX6_name_77 : decode cX6_name 77 = .ok (.iconst 0, 1) := by decide +kernel
theorem dX6_name_78 : decode cX6_name 78 = .ok (.iconst 0, 1) := by decide +kernel
theorem dX6_name_79 : decode cX6_name 79 = .ok (.invokevirtual 209, 3) := by decide +kernel
theorem dX6_name_82 : decode cX6_name 82 = .ok (.ifCond .eq 5, 3) := by decide +kernel
theorem dX6_name_85 : decode cX6_name 85 = .ok (.iconst 3, 1) := by decide +kernel
theorem dX6_name_86 : decode cX6_name 86 = .ok (.ireturn, 1) := by decide +kernel
theorem dX6_name_87 : decode cX6_name 87 = .ok (.aload_n 0, 1) := by decide +kernel
theorem dX6_name_88 : decode cX6_name 88 = .ok (.bipush 115, 2) := by decide +kernel
theorem dX6_name_90 : decode cX6_name 90 = .ok (.bipush 101, 2) := by decide +kernel
theorem dX6_name_92 : decode cX6_name 92 = .ok (.bipush 97, 2) := by decide +kernel
theorem dX6_name_94 : decode cX6_name 94 = .ok (.iconst 0, 1) := by decide +kernel
theorem dX6_name_95 : decode cX6_name 95 = .ok (.iconst 0, 1) := by decide +kernel
theorem dX6_name_96 : decode cX6_name 96 = .ok (.iconst 0, 1) := by decide +kernel
theorem dX6_name_97 : decode cX6_name 97 = .ok (.iconst 0, 1) := by decide +kernel
theorem dX6_name_98 : decode cX6_name 98 = .ok (.iconst 0, 1) := by decide +kernel
theorem dX6_name_99 : decode cX6_name 99 = .ok (.invokevirtual 209, 3) := by decide +kernel
theorem dX6_name_102 : decode cX6_name 102 = .ok (.ifCond .eq 5, 3) := by decide +kernel
theorem dX6_name_105 : decode cX6_name 105 = .ok (.iconst 4, 1) := by decide +kernel
theorem dX6_name_106 : decode cX6_name 106 = .ok (.ireturn, 1) := by decide +kernel
theorem dX6_name_107 : decode cX6_name 107 = .ok (.aload_n 0, 1) := by decide +kernel
theorem dX6_name_108 : decode cX6_name 108 = .ok (.bipush 109, 2) := by decide +kernel
theorem dX6_name_110 : decode cX6_name 110 = .ok (.bipush 101, 2) := by decide +kernel
theorem dX6_name_112 : decode cX6_name 112 = .ok (.bipush 116, 2) := by decide +kernel
theorem dX6_name_114 : decode cX6_name 114 = .ok (.iconst 0, 1) := by decide +kernel
theorem dX6_name_115 : decode cX6_name 115 = .ok (.iconst 0, 1) := by decide +kernel
theorem dX6_name_116 : decode cX6_name 116 = .ok (.iconst 0, 1) := by decide +kernel
theorem dX6_name_117 : decode cX6_name 117 = .ok (.iconst 0, 1) := by decide +kernel
theorem dX6_name_118 : decode cX6_name 118 = .ok (.iconst 0, 1) := by decide +kernel
theorem dX6_name_119 : decode cX6_name 119 = .ok (.invokevirtual 209, 3) := by decide +kernel
theorem dX6_name_122 : decode cX6_name 122 = .ok (.ifCond .eq 5, 3) := by decide +kernel
theorem dX6_name_125 : decode cX6_name 125 = .ok (.iconst 5, 1) := by decide +kernel
theorem dX6_name_126 : decode cX6_name 126 = .ok (.ireturn, 1) := by decide +kernel
theorem dX6_name_127 : decode cX6_name 127 = .ok (.aload_n 0, 1) := by decide +kernel
theorem dX6_name_128 : decode cX6_name 128 = .ok (.invokevirtual 200, 3) := by decide +kernel
theorem dX6_name_131 : decode cX6_name 131 = .ok (.iconst 0, 1) := by decide +kernel
theorem dX6_name_132 : decode cX6_name 132 = .ok (.ireturn, 1) := by decide +kernel
theorem dX6_atom_0 : decode cX6_atom 0 = .ok (.aload_n 0, 1) := by decide +kernel
theorem dX6_atom_1 : decode cX6_atom 1 = .ok (.bipush 45, 2) := by decide +kernel
theorem dX6_atom_3 : decode cX6_atom 3 = .ok (.invokevirtual 213, 3) := by decide +kernel
theorem dX6_atom_6 : decode cX6_atom 6 = .ok (.ifCond .eq 33, 3) := by decide +kernel
theorem dX6_atom_9 : decode cX6_atom 9 = .ok (.aload_n 0, 1) := by decide +kernel
theorem dX6_atom_10 : decode cX6_atom 10 = .ok (.invokevirtual 216, 3) := by decide +kernel
theorem dX6_atom_13 : decode cX6_atom 13 = .ok (.ifCond .eq 157, 3) := by decide +kernel
theorem dX6_atom_16 : decode cX6_atom 16 = .ok (.aload_n 0, 1) := by decide +kernel
theorem dX6_atom_17 : decode cX6_atom 17 = .ok (.invokevirtual 220, 3) := by decide +kernel
theorem dX6_atom_20 : decode cX6_atom 20 = .ok (.aload_n 0, 1) := by decide +kernel
theorem dX6_atom_21 : decode cX6_atom 21 = .ok (.dup, 1) := by decide +kernel
theorem dX6_atom_22 : decode cX6_atom 22 = .ok (.getfield 197, 3) := by decide +kernel
theorem dX6_atom_25 : decode cX6_atom 25 = .ok (.iconst 1, 1) := by decide +kernel
theorem dX6_atom_26 : decode cX6_atom 26 = .ok (.isub, 1) := by decide +kernel
theorem dX6_atom_27 : decode cX6_atom 27 = .ok (.putfield 197, 3) := by decide +kernel
theorem dX6_atom_30 : decode cX6_atom 30 = .ok (.aload_n 0, 1) := by decide +kernel
theorem dX6_atom_31 : decode cX6_atom 31 = .ok (.iconst 2, 1) := by decide +kernel
theorem dX6_atom_32 : decode cX6_atom 32 = .ok (.iconst 0, 1) := by decide +kernel
theorem dX6_atom_33 : decode cX6_atom 33 = .ok (.invokevirtual 223, 3) := by decide +kernel
theorem dX6_atom_36 : decode cX6_atom 36 = .ok (.goto 134, 3) := by decide +kernel
theorem dX6_atom_39 : decode cX6_atom 39 = .ok (.aload_n 0, 1) := by decide +kernel
theorem dX6_atom_40 : decode cX6_atom 40 = .ok (.bipush 40, 2) := by decide +kernel
theorem dX6_atom_42 : decode cX6_atom 42 = .ok (.invokevirtual 213, 3) := by decide +kernel
theorem dX6_atom_45 : decode cX6_atom 45 = .ok (.ifCond .eq 51, 3) := by decide +kernel
theorem dX6_atom_48 : decode cX6_atom 48 = .ok (.aload_n 0, 1) := by decide +kernel
theorem dX6_atom_49 : decode cX6_atom 49 = .ok (.invokevirtual 216, 3) := by decide +kernel
theorem dX6_atom_52 : decode cX6_atom 52 = .ok (.ifCond .eq 118, 3) := by decide +kernel
theorem dX6_atom_55 : decode cX6_atom 55 = .ok (.aload_n 0, 1) := by decide +kernel
theorem dX6_atom_56 : decode cX6_atom 56 = .ok (.invokevirtual 227, 3) := by decide +kernel
theorem dX6_atom_59 : decode cX6_atom 59 = .ok (.aload_n 0, 1) := by decide +kernel
theorem dX6_atom_60 : decode cX6_atom 60 = .ok (.bipush 41, 2) := by decide +kernel
theorem dX6_atom_62 : decode cX6_atom 62 = .ok (.invokevirtual 213, 3) := by decide +kernel
theorem dX6_atom_65 : decode cX6_atom 65 = .ok (.ifCond .ne 7, 3) := by decide +kernel
theorem dX6_atom_68 : decode cX6_atom 68 = .ok (.aload_n 0, 1) := by decide +kernel
theorem dX6_atom_69 : decode cX6_atom 69 = .ok (.invokevirtual 200, 3) := by decide +kernel
theorem dX6_atom_72 : decode cX6_atom 72 = .ok (.aload_n 0, 1) := by decide +kernel
theorem dX6_atom_73 : decode cX6_atom 73 = .ok (.dup, 1) := by decide +kernel
theorem dX6_atom_74 : decode cX6_atom 74 = .ok (.getfield 197, 3) := by decide +kernel
theorem dX6_atom_77 : decode cX6_atom 77 = .ok (.iconst 1, 1) := by decide +kernel
theorem dX6_atom_78 : decode cX6_atom 78 = .ok (.isub, 1) := by decide +kernel
theorem dX6_atom_79 : decode cX6_atom 79 = .ok (.putfield 197, 3) := by decide +kernel
theorem dX6_atom_82 : decode cX6_atom 82 = .ok (.aload_n 0, 1) := by decide +kernel
theorem dX6_atom_83 : decode cX6_atom 83 = .ok (.getfield 187, 3) := by decide +kernel
theorem dX6_atom_86 : decode cX6_atom 86 = .ok (.ifCond .ne 84, 3) := by decide +kernel
theorem dX6_atom_89 : decode cX6_atom 89 = .ok (.aload_n 0, 1) := by decide +kernel
theorem dX6_atom_90 : decode cX6_atom 90 = .ok (.invokevirtual 203, 3) := by decide +kernel
theorem dX6_atom_93 : decode cX6_atom 93 = .ok (.goto 77, 3) := by decide +kernel
theorem dX6_atom_96 : decode cX6_atom 96 = .ok (.aload_n 0, 1) := by decide +kernel
theorem dX6_atom_97 : decode cX6_atom 97 = .ok (.getfield 187, 3) := by decide +kernel
theorem dX6_atom_100 : decode cX6_atom 100 = .ok (.ifCond .ne 28, 3) := by decide +kernel
theorem dX6_atom_103 : decode cX6_atom 103 = .ok (.aload_n 0, 1) := by decide +kernel
theorem dX6_atom_104 : decode cX6_atom 104 = .ok (.getfield 170, 3) := by decide +kernel
theorem dX6_atom_107 : decode cX6_atom 107 = .ok (.iconst 2, 1) := by decide +kernel
theorem dX6_atom_108 : decode cX6_atom 108 = .ok (.if_icmp .ne 20, 3) := by decide +kernel
theorem dX6_atom_111 : decode cX6_atom 111 = .ok (.aload_n 0, 1) := by decide +kernel
theorem dX6_atom_112 : decode cX6_atom 112 = .ok (.iconst 0, 1) := by decide +kernel
theorem dX6_atom_113 : decode cX6_atom 113 = .ok (.aload_n 0, 1) := by decide +kernel
theorem dX6_atom_114 : decode cX6_atom 114 = .ok (.getfield 181, 3) := by decide +kernel
theorem dX6_atom_117 : decode cX6_atom 117 = .ok (.l2i, 1) := by decide +kernel
theorem dX6_atom_118 : decode cX6_atom 118 = .ok (.invokevirtual 223, 3) := by decide +kernel
theorem dX6_atom_121 : decode cX6_atom 121 = .ok (.aload_n 0, 1) := by decide +kernel
theorem dX6_atom_122 : decode cX6_atom 122 = .ok (.invokevirtual 203, 3) := by decide +kernel
theorem dX6_atom_125 : decode cX6_atom 125 = .ok (.goto 45, 3) := by decide +kernel
theorem dX6_atom_128 : decode cX6_atom 128 = .ok (.aload_n 0, 1) := by decide +kernel
theorem dX6_atom_129 : decode cX6_atom 129 = .ok (.getfield 187, 3) := by decide +kernel
theorem dX6_atom_132 : decode cX6_atom 132 = .ok (.ifCond .ne 34, 3) := by decide +kernel
theorem dX6_atom_135 : decode cX6_atom 135 = .ok (.aload_n 0, 1) := by decide +kernel
theorem dX6_atom_136 : decode cX6_atom 136 = .ok (.getfield 170, 3) := by decide +kernel
theorem dX6_atom_139 : decode cX6_atom 139 = .ok (.iconst 1, 1) := by decide +kernel
theorem dX6_atom_140 : decode cX6_atom 140 = .ok (.if_icmp .ne 26, 3) := by decide +kernel
theorem dX6_atom_143 : decode cX6_atom 143 = .ok (.aload_n 0, 1) := by decide +kernel
theorem dX6_atom_144 : decode cX6_atom 144 = .ok (.iconst 1, 1) := by decide +kernel
theorem dX6_atom_145 : decode cX6_atom 145 = .ok (.aload_n 0, 1) := by decide +kernel
theorem dX6_atom_146 : decode cX6_atom 146 = .ok (.invokevirtual 230, 3) := by decide +kernel
theorem dX6_atom_149 : decode cX6_atom 149 = .ok (.invokevirtual 223, 3) := by decide +kernel
theorem dX6_atom_152 : decode cX6_atom 152 = .ok (.aload_n 0, 1) := by decide +kernel
theorem dX6_atom_153 : decode cX6_atom 153 = .ok (.getfield 187, 3) := by decide +kernel
theorem dX6_atom_156 : decode cX6_atom 156 = .ok (.ifCond .ne 14, 3) := by decide +kernel
theorem dX6_atom_159 : decode cX6_atom 159 = .ok (.aload_n 0, 1) := by decide +kernel
theorem dX6_atom_160 : decode cX6_atom 160 = .ok (.invokevirtual 203, 3) := by decide +kernel
theorem dX6_atom_163 : decode cX6_atom 163 = .ok (.goto 7, 3) := by decide +kernel
theorem dX6_atom_166 : decode cX6_atom 166 = .ok (.aload_n 0, 1) := by decide +kernel
theorem dX6_atom_167 : decode cX6_atom 167 = .ok (.invokevirtual 200, 3) := by decide +kernel
theorem dX6_atom_170 : decode cX6_atom 170 = .ok (.return_, 1) := by decide +kernel
theorem dX6_term_0 : decode cX6_term 0 = .ok (.aload_n 0, 1) := by decide +kernel
theorem dX6_term_1 : decode cX6_term 1 = .ok (.invokevirtual 220, 3) := by decide +kernel
theorem dX6_term_4 : decode cX6_term 4 = .ok (.aload_n 0, 1) := by decide +kernel
theorem dX6_term_5 : decode cX6_term 5 = .ok (.bipush 42, 2) := by decide +kernel
theorem dX6_term_7 : decode cX6_term 7 = .ok (.invokevirtual 213, 3) := by decide +kernel
theorem dX6_term_10 : decode cX6_term 10 = .ok (.ifCond .eq 20, 3) := by decide +kernel
theorem dX6_term_13 : decode cX6_term 13 = .ok (.aload_n 0, 1) := by decide +kernel
theorem dX6_term_14 : decode cX6_term 14 = .ok (.invokevirtual 203, 3) := by decide +kernel
theorem dX6_term_17 : decode cX6_term 17 = .ok (.aload_n 0, 1) := by decide +kernel
theorem dX6_term_18 : decode cX6_term 18 = .ok (.invokevirtual 220, 3) := by decide +kernel
theorem dX6_term_21 : decode cX6_term 21 = .ok (.aload_n 0, 1) := by decide +kernel
theorem dX6_term_22 : decode cX6_term 22 = .ok (.iconst 3, 1) := by decide +kernel
theorem dX6_term_23 : decode cX6_term 23 = .ok (.iconst 0, 1) := by decide +kernel
theorem dX6_term_24 : decode cX6_term 24 = .ok (.invokevirtual 223, 3) := by decide +kernel
theorem dX6_term_27 : decode cX6_term 27 = .ok (.goto (-23), 3) := by decide +kernel
theorem dX6_term_30 : decode cX6_term 30 = .ok (.return_, 1) := by decide +kernel
theorem dX6_added_0 : decode cX6_added 0 = .ok (.aload_n 0, 1) := by decide +kernel
theorem dX6_added_1 : decode cX6_added 1 = .ok (.invokevirtual 234, 3) := by decide +kernel
theorem dX6_added_4 : decode cX6_added 4 = .ok (.aload_n 0, 1) := by decide +kernel
theorem dX6_added_5 : decode cX6_added 5 = .ok (.bipush 43, 2) := by decide +kernel
theorem dX6_added_7 : decode cX6_added 7 = .ok (.invokevirtual 213, 3) := by decide +kernel
theorem dX6_added_10 : decode cX6_added 10 = .ok (.ifCond .ne 12, 3) := by decide +kernel
theorem dX6_added_13 : decode cX6_added 13 = .ok (.aload_n 0, 1) := by decide +kernel
theorem dX6_added_14 : decode cX6_added 14 = .ok (.bipush 45, 2) := by decide +kernel
theorem dX6_added_16 : decode cX6_added 16 = .ok (.invokevirtual 213, 3) := by decide +kernel
theorem dX6_added_19 : decode cX6_added 19 = .ok (.ifCond .eq 45, 3) := by decide +kernel
theorem dX6_added_22 : decode cX6_added 22 = .ok (.aload_n 0, 1) := by decide +kernel
theorem dX6_added_23 : decode cX6_added 23 = .ok (.getfield 181, 3) := by decide +kernel
theorem dX6_added_26 : decode cX6_added 26 = .ok (.ldc2_w 237, 3) := by decide +kernel
theorem dX6_added_29 : decode cX6_added 29 = .ok (.lcmp, 1) := by decide +kernel
theorem dX6_added_30 : decode cX6_added 30 = .ok (.ifCond .ne 7, 3) := by decide +kernel
theorem dX6_added_33 : decode cX6_added 33 = .ok (.iconst 1, 1) := by decide +kernel
theorem dX6_added_34 : decode cX6_added 34 = .ok (.goto 4, 3) := by decide +kernel
theorem dX6_added_37 : decode cX6_added 37 = .ok (.iconst 0, 1) := by decide +kernel
theorem dX6_added_38 : decode cX6_added 38 = .ok (.istore_n 1, 1) := by decide +kernel
theorem dX6_added_39 : decode cX6_added 39 = .ok (.aload_n 0, 1) := by decide +kernel
theorem dX6_added_40 : decode cX6_added 40 = .ok (.invokevirtual 203, 3) := by decide +kernel
theorem dX6_added_43 : decode cX6_added 43 = .ok (.aload_n 0, 1) := by decide +kernel
theorem dX6_added_44 : decode cX6_added 44 = .ok (.invokevirtual 234, 3) := by decide +kernel
theorem dX6_added_47 : decode cX6_added 47 = .ok (.aload_n 0, 1) := by decide +kernel
theorem dX6_added_48 : decode cX6_added 48 = .ok (.iload_n 1, 1) := by decide +kernel
theorem dX6_added_49 : decode cX6_added 49 = .ok (.ifCond .eq 7, 3) := by decide +kernel
theorem dX6_added_52 : decode cX6_added 52 = .ok (.iconst 4, 1) := by decide +kernel
theorem dX6_added_53 : decode cX6_added 53 = .ok (.goto 4, 3) := by decide +kernel
theorem dX6_added_56 : decode cX6_added 56 = .ok (.iconst 5, 1) := by decide +kernel
theorem dX6_added_57 : decode cX6_added 57 = .ok (.iconst 0, 1) := by decide +kernel
theorem dX6_added_58 : decode cX6_added 58 = .ok (.invokevirtual 223, 3) := by decide +kernel
theorem dX6_added_61 : decode cX6_added 61 = .ok (.goto (-57), 3) := by decide +kernel
theorem dX6_added_64 : decode cX6_added 64 = .ok (.return_, 1) := by decide +kernel
theorem dX6_not_0 : decode cX6_not 0 = .ok (.aload_n 0, 1) := by decide +kernel
theorem dX6_not_1 : decode cX6_not 1 = .ok (.bipush 110, 2) := by decide +kernel
theorem dX6_not_3 : decode cX6_not 3 = .ok (.bipush 111, 2) := by decide +kernel
theorem dX6_not_5 : decode cX6_not 5 = .ok (.bipush 116, 2) := by decide +kernel
theorem dX6_not_7 : decode cX6_not 7 = .ok (.iconst 0, 1) := by decide +kernel
theorem dX6_not_8 : decode cX6_not 8 = .ok (.iconst 0, 1) := by decide +kernel
theorem dX6_not_9 : decode cX6_not 9 = .ok (.iconst 0, 1) := by decide +kernel
theorem dX6_not_10 : decode cX6_not 10 = .ok (.iconst 0, 1) := by decide +kernel
theorem dX6_not_11 : decode cX6_not 11 = .ok (.iconst 0, 1) := by decide +kernel
theorem dX6_not_12 : decode cX6_not 12 = .ok (.invokevirtual 209, 3) := by decide +kernel
theorem dX6_not_15 : decode cX6_not 15 = .ok (.ifCond .eq 33, 3) := by decide +kernel
theorem dX6_not_18 : decode cX6_not 18 = .ok (.aload_n 0, 1) := by decide +kernel
theorem dX6_not_19 : decode cX6_not 19 = .ok (.invokevirtual 216, 3) := by decide +kernel
theorem dX6_not_22 : decode cX6_not 22 = .ok (.ifCond .ne 4, 3) := by decide +kernel
theorem dX6_not_25 : decode cX6_not 25 = .ok (.return_, 1) := by decide +kernel
theorem dX6_not_26 : decode cX6_not 26 = .ok (.aload_n 0, 1) := by decide +kernel
theorem dX6_not_27 : decode cX6_not 27 = .ok (.invokevirtual 239, 3) := by decide +kernel
theorem dX6_not_30 : decode cX6_not 30 = .ok (.aload_n 0, 1) := by decide +kernel
theorem dX6_not_31 : decode cX6_not 31 = .ok (.dup, 1) := by decide +kernel
theorem dX6_not_32 : decode cX6_not 32 = .ok (.getfield 197, 3) := by decide +kernel
theorem dX6_not_35 : decode cX6_not 35 = .ok (.iconst 1, 1) := by decide +kernel
theorem dX6_not_36 : decode cX6_not 36 = .ok (.isub, 1) := by decide +kernel
theorem dX6_not_37 : decode cX6_not 37 = .ok (.putfield 197, 3) := by decide +kernel
theorem dX6_not_40 : decode cX6_not 40 = .ok (.aload_n 0, 1) := by decide +kernel
theorem dX6_not_41 : decode cX6_not 41 = .ok (.bipush 8, 2) := by decide +kernel
theorem dX6_not_43 : decode cX6_not 43 = .ok (.iconst 0, 1) := by decide +kernel
theorem dX6_not_44 : decode cX6_not 44 = .ok (.invokevirtual 223, 3) := by decide +kernel
theorem dX6_not_47 : decode cX6_not 47 = .ok (.return_, 1) := by decide +kernel
theorem dX6_not_48 : decode cX6_not 48 = .ok (.aload_n 0, 1) := by decide +kernel
theorem dX6_not_49 : decode cX6_not 49 = .ok (.invokevirtual 242, 3) := by decide +kernel
theorem dX6_not_52 : decode cX6_not 52 = .ok (.aload_n 0, 1) := by decide +kernel
theorem dX6_not_53 : decode cX6_not 53 = .ok (.bipush 60, 2) := by decide +kernel
theorem dX6_not_55 : decode cX6_not 55 = .ok (.invokevirtual 213, 3) := by decide +kernel
theorem dX6_not_58 : decode cX6_not 58 = .ok (.ifCond .ne 13, 3) := by decide +kernel
theorem dX6_not_61 : decode cX6_not 61 = .ok (.aload_n 0, 1) := by decide +kernel
theorem dX6_not_62 : decode cX6_not 62 = .ok (.bipush 61, 2) := by decide +kernel
theorem dX6_not_64 : decode cX6_not 64 = .ok (.invokevirtual 213, 3) := by decide +kernel
theorem dX6_not_67 : decode cX6_not 67 = .ok (.ifCond .ne 4, 3) := by decide +kernel
theorem dX6_not_70 : decode cX6_not 70 = .ok (.return_, 1) := by decide +kernel
theorem dX6_not_71 : decode cX6_not 71 = .ok (.aload_n 0, 1) := by decide +kernel
theorem dX6_not_72 : decode cX6_not 72 = .ok (.getfield 181, 3) := by decide +kernel
theorem dX6_not_75 : decode cX6_not 75 = .ok (.ldc2_w 245, 3) := by decide +kernel
theorem dX6_not_78 : decode cX6_not 78 = .ok (.lcmp, 1) := by decide +kernel
theorem dX6_not_79 : decode cX6_not 79 = .ok (.ifCond .ne 7, 3) := by decide +kernel
theorem dX6_not_82 : decode cX6_not 82 = .ok (.iconst 1, 1) := by decide +kernel
theorem dX6_not_83 : decode cX6_not 83 = .ok (.goto 4, 3) := by decide +kernel
theorem dX6_not_86 : decode cX6_not 86 = .ok (.iconst 0, 1) := by decide +kernel
theorem dX6_not_87 : decode cX6_not 87 = .ok (.istore_n 1, 1) := by decide +kernel
theorem dX6_not_88 : decode cX6_not 88 = .ok (.aload_n 0, 1) := by decide +kernel
theorem dX6_not_89 : decode cX6_not 89 = .ok (.invokevirtual 203, 3) := by decide +kernel
theorem dX6_not_92 : decode cX6_not 92 = .ok (.aload_n 0, 1) := by decide +kernel
theorem dX6_not_93 : decode cX6_not 93 = .ok (.invokevirtual 242, 3) := by decide +kernel
theorem dX6_not_96 : decode cX6_not 96 = .ok (.aload_n 0, 1) := by decide +kernel
theorem dX6_not_97 : decode cX6_not 97 = .ok (.iload_n 1, 1) := by decide +kernel
theorem dX6_not_98 : decode cX6_not 98 = .ok (.ifCond .eq 8, 3) := by decide +kernel
theorem dX6_not_101 : decode cX6_not 101 = .ok (.bipush 6, 2) := by decide +kernel
theorem dX6_not_103 : decode cX6_not 103 = .ok (.goto 5, 3) := by decide +kernel
theorem dX6_not_106 : decode cX6_not 106 = .ok (.bipush 7, 2) := by decide +kernel
theorem dX6_not_108 : decode cX6_not 108 = .ok (.iconst 0, 1) := by decide +kernel
theorem dX6_not_109 : decode cX6_not 109 = .ok (.invokevirtual 223, 3) := by decide +kernel
theorem dX6_not_112 : decode cX6_not 112 = .ok (.return_, 1) := by decide +kernel
theorem dX6_both_0 : decode cX6_both 0 = .ok (.aload_n 0, 1) := by decide +kernel
theorem dX6_both_1 : decode cX6_both 1 = .ok (.invokevirtual 239, 3) := by decide +kernel
theorem dX6_both_4 : decode cX6_both 4 = .ok (.aload_n 0, 1) := by decide +kernel
theorem dX6_both_5 : decode cX6_both 5 = .ok (.bipush 97, 2) := by decide +kernel
theorem dX6_both_7 : decode cX6_both 7 = .ok (.bipush 110, 2) := by decide +kernel
theorem dX6_both_9 : decode cX6_both 9 = .ok (.bipush 100, 2) := by decide +kernel
theorem dX6_both_11 : decode cX6_both 11 = .ok (.iconst 0, 1) := by decide +kernel
theorem dX6_both_12 : decode cX6_both 12 = .ok (.iconst 0, 1) := by decide +kernel
theorem dX6_both_13 : decode cX6_both 13 = .ok (.iconst 0, 1) := by decide +kernel
theorem dX6_both_14 : decode cX6_both 14 = .ok (.iconst 0, 1) := by decide +kernel
theorem dX6_both_15 : decode cX6_both 15 = .ok (.iconst 0, 1) := by decide +kernel
theorem dX6_both_16 : decode cX6_both 16 = .ok (.invokevirtual 209, 3) := by decide +kernel
theorem dX6_both_19 : decode cX6_both 19 = .ok (.ifCond .eq 21, 3) := by decide +kernel
theorem dX6_both_22 : decode cX6_both 22 = .ok (.aload_n 0, 1) := by decide +kernel
theorem dX6_both_23 : decode cX6_both 23 = .ok (.invokevirtual 203, 3) := by decide +kernel
theorem dX6_both_26 : decode cX6_both 26 = .ok (.aload_n 0, 1) := by decide +kernel
theorem dX6_both_27 : decode cX6_both 27 = .ok (.invokevirtual 239, 3) := by decide +kernel
theorem dX6_both_30 : decode cX6_both 30 = .ok (.aload_n 0, 1) := by decide +kernel
theorem dX6_both_31 : decode cX6_both 31 = .ok (.bipush 9, 2) := by decide +kernel
theorem dX6_both_33 : decode cX6_both 33 = .ok (.iconst 0, 1) := by decide +kernel
theorem dX6_both_34 : decode cX6_both 34 = .ok (.invokevirtual 223, 3) := by decide +kernel
theorem dX6_both_37 : decode cX6_both 37 = .ok (.goto (-33), 3) := by decide +kernel
theorem dX6_both_40 : decode cX6_both 40 = .ok (.return_, 1) := by decide +kernel
theorem dX6_either_0 : decode cX6_either 0 = .ok (.aload_n 0, 1) := by decide +kernel
theorem dX6_either_1 : decode cX6_either 1 = .ok (.invokevirtual 247, 3) := by decide +kernel
theorem dX6_either_4 : decode cX6_either 4 = .ok (.aload_n 0, 1) := by decide +kernel
theorem dX6_either_5 : decode cX6_either 5 = .ok (.bipush 111, 2) := by decide +kernel
theorem dX6_either_7 : decode cX6_either 7 = .ok (.bipush 114, 2) := by decide +kernel
theorem dX6_either_9 : decode cX6_either 9 = .ok (.iconst 0, 1) := by decide +kernel
theorem dX6_either_10 : decode cX6_either 10 = .ok (.iconst 0, 1) := by decide +kernel
theorem dX6_either_11 : decode cX6_either 11 = .ok (.iconst 0, 1) := by decide +kernel
theorem dX6_either_12 : decode cX6_either 12 = .ok (.iconst 0, 1) := by decide +kernel
theorem dX6_either_13 : decode cX6_either 13 = .ok (.iconst 0, 1) := by decide +kernel
theorem dX6_either_14 : decode cX6_either 14 = .ok (.iconst 0, 1) := by decide +kernel
theorem dX6_either_15 : decode cX6_either 15 = .ok (.invokevirtual 209, 3) := by decide +kernel
theorem dX6_either_18 : decode cX6_either 18 = .ok (.ifCond .eq 21, 3) := by decide +kernel
theorem dX6_either_21 : decode cX6_either 21 = .ok (.aload_n 0, 1) := by decide +kernel
theorem dX6_either_22 : decode cX6_either 22 = .ok (.invokevirtual 203, 3) := by decide +kernel
theorem dX6_either_25 : decode cX6_either 25 = .ok (.aload_n 0, 1) := by decide +kernel
theorem dX6_either_26 : decode cX6_either 26 = .ok (.invokevirtual 247, 3) := by decide +kernel
theorem dX6_either_29 : decode cX6_either 29 = .ok (.aload_n 0, 1) := by decide +kernel
theorem dX6_either_30 : decode cX6_either 30 = .ok (.bipush 10, 2) := by decide +kernel
theorem dX6_either_32 : decode cX6_either 32 = .ok (.iconst 0, 1) := by decide +kernel
theorem dX6_either_33 : decode cX6_either 33 = .ok (.invokevirtual 223, 3) := by decide +kernel
theorem dX6_either_36 : decode cX6_either 36 = .ok (.goto (-32), 3) := by decide +kernel
theorem dX6_either_39 : decode cX6_either 39 = .ok (.return_, 1) := by decide +kernel
theorem dX6_part_0 : decode cX6_part 0 = .ok (.iload_n 2, 1) := by decide +kernel
theorem dX6_part_1 : decode cX6_part 1 = .ok (.ifCond .ne 7, 3) := by decide +kernel
theorem dX6_part_4 : decode cX6_part 4 = .ok (.aload_n 0, 1) := by decide +kernel
theorem dX6_part_5 : decode cX6_part 5 = .ok (.invokevirtual 200, 3) := by decide +kernel
theorem dX6_part_8 : decode cX6_part 8 = .ok (.aload_n 0, 1) := by decide +kernel
theorem dX6_part_9 : decode cX6_part 9 = .ok (.getfield 187, 3) := by decide +kernel
theorem dX6_part_12 : decode cX6_part 12 = .ok (.ifCond .ne 7, 3) := by decide +kernel
theorem dX6_part_15 : decode cX6_part 15 = .ok (.aload_n 0, 1) := by decide +kernel
theorem dX6_part_16 : decode cX6_part 16 = .ok (.invokevirtual 203, 3) := by decide +kernel
theorem dX6_part_19 : decode cX6_part 19 = .ok (.aload_n 0, 1) := by decide +kernel
theorem dX6_part_20 : decode cX6_part 20 = .ok (.getfield 187, 3) := by decide +kernel
theorem dX6_part_23 : decode cX6_part 23 = .ok (.ifCond .ne 7, 3) := by decide +kernel
theorem dX6_part_26 : decode cX6_part 26 = .ok (.aload_n 0, 1) := by decide +kernel
theorem dX6_part_27 : decode cX6_part 27 = .ok (.invokevirtual 227, 3) := by decide +kernel
theorem dX6_part_30 : decode cX6_part 30 = .ok (.aload_n 0, 1) := by decide +kernel
theorem dX6_part_31 : decode cX6_part 31 = .ok (.bipush 59, 2) := by decide +kernel
theorem dX6_part_33 : decode cX6_part 33 = .ok (.invokevirtual 213, 3) := by decide +kernel
theorem dX6_part_36 : decode cX6_part 36 = .ok (.ifCond .ne 7, 3) := by decide +kernel
theorem dX6_part_39 : decode cX6_part 39 = .ok (.aload_n 0, 1) := by decide +kernel
theorem dX6_part_40 : decode cX6_part 40 = .ok (.invokevirtual 200, 3) := by decide +kernel
theorem dX6_part_43 : decode cX6_part 43 = .ok (.aload_n 0, 1) := by decide +kernel
theorem dX6_part_44 : decode cX6_part 44 = .ok (.getfield 187, 3) := by decide +kernel
theorem dX6_part_47 : decode cX6_part 47 = .ok (.ifCond .ne 7, 3) := by decide +kernel
theorem dX6_part_50 : decode cX6_part 50 = .ok (.aload_n 0, 1) := by decide +kernel
theorem dX6_part_51 : decode cX6_part 51 = .ok (.invokevirtual 203, 3) := by decide +kernel
theorem dX6_part_54 : decode cX6_part 54 = .ok (.aload_n 0, 1) := by decide +kernel
theorem dX6_part_55 : decode cX6_part 55 = .ok (.getfield 26, 3) := by decide +kernel
theorem dX6_part_58 : decode cX6_part 58 = .ok (.iload_n 1, 1) := by decide +kernel
theorem dX6_part_59 : decode cX6_part 59 = .ok (.aload_n 0, 1) := by decide +kernel
theorem dX6_part_60 : decode cX6_part 60 = .ok (.getfield 206, 3) := by decide +kernel
theorem dX6_part_63 : decode cX6_part 63 = .ok (.iastore, 1) := by decide +kernel
theorem dX6_part_64 : decode cX6_part 64 = .ok (.return_, 1) := by decide +kernel
theorem dX6_read_0 : decode cX6_read 0 = .ok (.aload_n 0, 1) := by decide +kernel
theorem dX6_read_1 : decode cX6_read 1 = .ok (.sipush 160, 3) := by decide +kernel
theorem dX6_read_4 : decode cX6_read 4 = .ok (.iload_n 1, 1) := by decide +kernel
theorem dX6_read_5 : decode cX6_read 5 = .ok (.imul, 1) := by decide +kernel
theorem dX6_read_6 : decode cX6_read 6 = .ok (.putfield 158, 3) := by decide +kernel
theorem dX6_read_9 : decode cX6_read 9 = .ok (.aload_n 0, 1) := by decide +kernel
theorem dX6_read_10 : decode cX6_read 10 = .ok (.aload_n 0, 1) := by decide +kernel
theorem dX6_read_11 : decode cX6_read 11 = .ok (.getfield 17, 3) := by decide +kernel
theorem dX6_read_14 : decode cX6_read 14 = .ok (.iload_n 1, 1) := by decide +kernel
theorem dX6_read_15 : decode cX6_read 15 = .ok (.iaload, 1) := by decide +kernel
theorem dX6_read_16 : decode cX6_read 16 = .ok (.putfield 155, 3) := by decide +kernel
theorem dX6_read_19 : decode cX6_read 19 = .ok (.aload_n 0, 1) := by decide +kernel
theorem dX6_read_20 : decode cX6_read 20 = .ok (.iconst 0, 1) := by decide +kernel
theorem dX6_read_21 : decode cX6_read 21 = .ok (.putfield 161, 3) := by decide +kernel
theorem dX6_read_24 : decode cX6_read 24 = .ok (.aload_n 0, 1) := by decide +kernel
theorem dX6_read_25 : decode cX6_read 25 = .ok (.iconst 0, 1) := by decide +kernel
theorem dX6_read_26 : decode cX6_read 26 = .ok (.putfield 197, 3) := by decide +kernel
theorem dX6_read_29 : decode cX6_read 29 = .ok (.aload_n 0, 1) := by decide +kernel
theorem dX6_read_30 : decode cX6_read 30 = .ok (.iconst 0, 1) := by decide +kernel
theorem dX6_read_31 : decode cX6_read 31 = .ok (.putfield 187, 3) := by decide +kernel
theorem dX6_read_34 : decode cX6_read 34 = .ok (.aload_n 0, 1) := by decide +kernel
theorem dX6_read_35 : decode cX6_read 35 = .ok (.iconst 0, 1) := by decide +kernel
theorem dX6_read_36 : decode cX6_read 36 = .ok (.putfield 206, 3) := by decide +kernel
theorem dX6_read_39 : decode cX6_read 39 = .ok (.aload_n 0, 1) := by decide +kernel
theorem dX6_read_40 : decode cX6_read 40 = .ok (.invokevirtual 203, 3) := by decide +kernel
theorem dX6_read_43 : decode cX6_read 43 = .ok (.aload_n 0, 1) := by decide +kernel
theorem dX6_read_44 : decode cX6_read 44 = .ok (.iconst 3, 1) := by decide +kernel
theorem dX6_read_45 : decode cX6_read 45 = .ok (.iload_n 1, 1) := by decide +kernel
theorem dX6_read_46 : decode cX6_read 46 = .ok (.imul, 1) := by decide +kernel
theorem dX6_read_47 : decode cX6_read 47 = .ok (.aload_n 0, 1) := by decide +kernel
theorem dX6_read_48 : decode cX6_read 48 = .ok (.bipush 112, 2) := by decide +kernel
theorem dX6_read_50 : decode cX6_read 50 = .ok (.bipush 97, 2) := by decide +kernel
theorem dX6_read_52 : decode cX6_read 52 = .ok (.bipush 99, 2) := by decide +kernel
theorem dX6_read_54 : decode cX6_read 54 = .ok (.bipush 101, 2) := by decide +kernel
theorem dX6_read_56 : decode cX6_read 56 = .ok (.bipush 115, 2) := by decide +kernel
theorem dX6_read_58 : decode cX6_read 58 = .ok (.iconst 0, 1) := by decide +kernel
theorem dX6_read_59 : decode cX6_read 59 = .ok (.iconst 0, 1) := by decide +kernel
theorem dX6_read_60 : decode cX6_read 60 = .ok (.iconst 0, 1) := by decide +kernel
theorem dX6_read_61 : decode cX6_read 61 = .ok (.invokevirtual 209, 3) := by decide +kernel
theorem dX6_read_64 : decode cX6_read 64 = .ok (.invokevirtual 250, 3) := by decide +kernel
theorem dX6_read_67 : decode cX6_read 67 = .ok (.aload_n 0, 1) := by decide +kernel
theorem dX6_read_68 : decode cX6_read 68 = .ok (.getfield 187, 3) := by decide +kernel
theorem dX6_read_71 : decode cX6_read 71 = .ok (.ifCond .ne 30, 3) := by decide +kernel
theorem dX6_read_74 : decode cX6_read 74 = .ok (.aload_n 0, 1) := by decide +kernel
theorem dX6_read_75 : decode cX6_read 75 = .ok (.iconst 3, 1) := by decide +kernel
theorem dX6_read_76 : decode cX6_read 76 = .ok (.iload_n 1, 1) := by decide +kernel
theorem dX6_read_77 : decode cX6_read 77 = .ok (.imul, 1) := by decide +kernel
theorem dX6_read_78 : decode cX6_read 78 = .ok (.iconst 1, 1) := by decide +kernel
theorem dX6_read_79 : decode cX6_read 79 = .ok (.iadd, 1) := by decide +kernel
theorem dX6_read_80 : decode cX6_read 80 = .ok (.aload_n 0, 1) := by decide +kernel
theorem dX6_read_81 : decode cX6_read 81 = .ok (.bipush 116, 2) := by decide +kernel
theorem dX6_read_83 : decode cX6_read 83 = .ok (.bipush 114, 2) := by decide +kernel
theorem dX6_read_85 : decode cX6_read 85 = .ok (.bipush 101, 2) := by decide +kernel
theorem dX6_read_87 : decode cX6_read 87 = .ok (.bipush 97, 2) := by decide +kernel
theorem dX6_read_89 : decode cX6_read 89 = .ok (.bipush 100, 2) := by decide +kernel
theorem dX6_read_91 : decode cX6_read 91 = .ok (.bipush 115, 2) := by decide +kernel
theorem dX6_read_93 : decode cX6_read 93 = .ok (.iconst 0, 1) := by decide +kernel
theorem dX6_read_94 : decode cX6_read 94 = .ok (.iconst 0, 1) := by decide +kernel
theorem dX6_read_95 : decode cX6_read 95 = .ok (.invokevirtual 209, 3) := by decide +kernel
theorem dX6_read_98 : decode cX6_read 98 = .ok (.invokevirtual 250, 3) := by decide +kernel
theorem dX6_read_101 : decode cX6_read 101 = .ok (.aload_n 0, 1) := by decide +kernel
theorem dX6_read_102 : decode cX6_read 102 = .ok (.getfield 187, 3) := by decide +kernel
theorem dX6_read_105 : decode cX6_read 105 = .ok (.ifCond .ne 30, 3) := by decide +kernel
theorem dX6_read_108 : decode cX6_read 108 = .ok (.aload_n 0, 1) := by decide +kernel
theorem dX6_read_109 : decode cX6_read 109 = .ok (.iconst 3, 1) := by decide +kernel
theorem dX6_read_110 : decode cX6_read 110 = .ok (.iload_n 1, 1) := by decide +kernel
theorem dX6_read_111 : decode cX6_read 111 = .ok (.imul, 1) := by decide +kernel
theorem dX6_read_112 : decode cX6_read 112 = .ok (.iconst 2, 1) := by decide +kernel
theorem dX6_read_113 : decode cX6_read 113 = .ok (.iadd, 1) := by decide +kernel
theorem dX6_read_114 : decode cX6_read 114 = .ok (.aload_n 0, 1) := by decide +kernel
theorem dX6_read_115 : decode cX6_read 115 = .ok (.bipush 100, 2) := by decide +kernel
theorem dX6_read_117 : decode cX6_read 117 = .ok (.bipush 111, 2) := by decide +kernel
theorem dX6_read_119 : decode cX6_read 119 = .ok (.bipush 117, 2) := by decide +kernel
theorem dX6_read_121 : decode cX6_read 121 = .ok (.bipush 98, 2) := by decide +kernel
theorem dX6_read_123 : decode cX6_read 123 = .ok (.bipush 116, 2) := by decide +kernel
theorem dX6_read_125 : decode cX6_read 125 = .ok (.bipush 115, 2) := by decide +kernel
theorem dX6_read_127 : decode cX6_read 127 = .ok (.iconst 0, 1) := by decide +kernel
theorem dX6_read_128 : decode cX6_read 128 = .ok (.iconst 0, 1) := by decide +kernel
theorem dX6_read_129 : decode cX6_read 129 = .ok (.invokevirtual 209, 3) := by decide +kernel
theorem dX6_read_132 : decode cX6_read 132 = .ok (.invokevirtual 250, 3) := by decide +kernel
theorem dX6_read_135 : decode cX6_read 135 = .ok (.aload_n 0, 1) := by decide +kernel
theorem dX6_read_136 : decode cX6_read 136 = .ok (.getfield 187, 3) := by decide +kernel
theorem dX6_read_139 : decode cX6_read 139 = .ok (.ifCond .ne 14, 3) := by decide +kernel
theorem dX6_read_142 : decode cX6_read 142 = .ok (.aload_n 0, 1) := by decide +kernel
theorem dX6_read_143 : decode cX6_read 143 = .ok (.getfield 170, 3) := by decide +kernel
theorem dX6_read_146 : decode cX6_read 146 = .ok (.ifCond .eq 7, 3) := by decide +kernel
theorem dX6_read_149 : decode cX6_read 149 = .ok (.aload_n 0, 1) := by decide +kernel
theorem dX6_read_150 : decode cX6_read 150 = .ok (.invokevirtual 200, 3) := by decide +kernel
theorem dX6_read_153 : decode cX6_read 153 = .ok (.return_, 1) := by decide +kernel
theorem dX6_nameNow_0 : decode cX6_nameNow 0 = .ok (.iload_n 1, 1) := by decide +kernel
theorem dX6_nameNow_1 : decode cX6_nameNow 1 = .ok (.ifCond .ne 10, 3) := by decide +kernel
theorem dX6_nameNow_4 : decode cX6_nameNow 4 = .ok (.aload_n 0, 1) := by decide +kernel
theorem dX6_nameNow_5 : decode cX6_nameNow 5 = .ok (.getfield 254, 3) := by decide +kernel
theorem dX6_nameNow_8 : decode cX6_nameNow 8 = .ok (.goto 55, 3) := by decide +kernel
theorem dX6_nameNow_11 : decode cX6_nameNow 11 = .ok (.iload_n 1, 1) := by decide +kernel
theorem dX6_nameNow_12 : decode cX6_nameNow 12 = .ok (.iconst 1, 1) := by decide +kernel
theorem dX6_nameNow_13 : decode cX6_nameNow 13 = .ok (.if_icmp .ne 10, 3) := by decide +kernel
theorem dX6_nameNow_16 : decode cX6_nameNow 16 = .ok (.aload_n 0, 1) := by decide +kernel
theorem dX6_nameNow_17 : decode cX6_nameNow 17 = .ok (.getfield 257, 3) := by decide +kernel
theorem dX6_nameNow_20 : decode cX6_nameNow 20 = .ok (.goto 43, 3) := by decide +kernel
theorem dX6_nameNow_23 : decode cX6_nameNow 23 = .ok (.iload_n 1, 1) := by decide +kernel
theorem dX6_nameNow_24 : decode cX6_nameNow 24 = .ok (.iconst 2, 1) := by decide +kernel
theorem dX6_nameNow_25 : decode cX6_nameNow 25 = .ok (.if_icmp .ne 10, 3) := by decide +kernel
theorem dX6_nameNow_28 : decode cX6_nameNow 28 = .ok (.aload_n 0, 1) := by decide +kernel
theorem dX6_nameNow_29 : decode cX6_nameNow 29 = .ok (.getfield 260, 3) := by decide +kernel
theorem dX6_nameNow_32 : decode cX6_nameNow 32 = .ok (.goto 31, 3) := by decide +kernel
theorem dX6_nameNow_35 : decode cX6_nameNow 35 = .ok (.iload_n 1, 1) := by decide +kernel
theorem dX6_nameNow_36 : decode cX6_nameNow 36 = .ok (.iconst 3, 1) := by decide +kernel
theorem dX6_nameNow_37 : decode cX6_nameNow 37 = .ok (.if_icmp .ne 10, 3) := by decide +kernel
theorem dX6_nameNow_40 : decode cX6_nameNow 40 = .ok (.aload_n 0, 1) := by decide +kernel
theorem dX6_nameNow_41 : decode cX6_nameNow 41 = .ok (.getfield 263, 3) := by decide +kernel
theorem dX6_nameNow_44 : decode cX6_nameNow 44 = .ok (.goto 19, 3) := by decide +kernel
theorem dX6_nameNow_47 : decode cX6_nameNow 47 = .ok (.iload_n 1, 1) := by decide +kernel
theorem dX6_nameNow_48 : decode cX6_nameNow 48 = .ok (.iconst 4, 1) := by decide +kernel
theorem dX6_nameNow_49 : decode cX6_nameNow 49 = .ok (.if_icmp .ne 10, 3) := by decide +kernel
theorem dX6_nameNow_52 : decode cX6_nameNow 52 = .ok (.aload_n 0, 1) := by decide +kernel
theorem dX6_nameNow_53 : decode cX6_nameNow 53 = .ok (.getfield 266, 3) := by decide +kernel
theorem dX6_nameNow_56 : decode cX6_nameNow 56 = .ok (.goto 7, 3) := by decide +kernel
theorem dX6_nameNow_59 : decode cX6_nameNow 59 = .ok (.aload_n 0, 1) := by decide +kernel
theorem dX6_nameNow_60 : decode cX6_nameNow 60 = .ok (.getfield 269, 3) := by decide +kernel
theorem dX6_nameNow_63 : decode cX6_nameNow 63 = .ok (.ireturn, 1) := by decide +kernel
theorem dX6_told2_0 : decode cX6_told2 0 = .ok (.iload_n 0, 1) := by decide +kernel
theorem dX6_told2_1 : decode cX6_told2 1 = .ok (.tableswitch 91 3 9 #[43, 47, 51, 55, 66, 91, 77], 43) := by decide +kernel
theorem dX6_told2_44 : decode cX6_told2 44 = .ok (.iload_n 1, 1) := by decide +kernel
theorem dX6_told2_45 : decode cX6_told2 45 = .ok (.iload_n 2, 1) := by decide +kernel
theorem dX6_told2_46 : decode cX6_told2 46 = .ok (.imul, 1) := by decide +kernel
theorem dX6_told2_47 : decode cX6_told2 47 = .ok (.ireturn, 1) := by decide +kernel
theorem dX6_told2_48 : decode cX6_told2 48 = .ok (.iload_n 1, 1) := by decide +kernel
theorem dX6_told2_49 : decode cX6_told2 49 = .ok (.iload_n 2, 1) := by decide +kernel
theorem dX6_told2_50 : decode cX6_told2 50 = .ok (.iadd, 1) := by decide +kernel
theorem dX6_told2_51 : decode cX6_told2 51 = .ok (.ireturn, 1) := by decide +kernel
theorem dX6_told2_52 : decode cX6_told2 52 = .ok (.iload_n 1, 1) := by decide +kernel
theorem dX6_told2_53 : decode cX6_told2 53 = .ok (.iload_n 2, 1) := by decide +kernel
theorem dX6_told2_54 : decode cX6_told2 54 = .ok (.isub, 1) := by decide +kernel
theorem dX6_told2_55 : decode cX6_told2 55 = .ok (.ireturn, 1) := by decide +kernel
theorem dX6_told2_56 : decode cX6_told2 56 = .ok (.iload_n 1, 1) := by decide +kernel
theorem dX6_told2_57 : decode cX6_told2 57 = .ok (.iload_n 2, 1) := by decide +kernel
theorem dX6_told2_58 : decode cX6_told2 58 = .ok (.if_icmp .ge 7, 3) := by decide +kernel
theorem dX6_told2_61 : decode cX6_told2 61 = .ok (.iconst 1, 1) := by decide +kernel
theorem dX6_told2_62 : decode cX6_told2 62 = .ok (.goto 4, 3) := by decide +kernel
theorem dX6_told2_65 : decode cX6_told2 65 = .ok (.iconst 0, 1) := by decide +kernel
theorem dX6_told2_66 : decode cX6_told2 66 = .ok (.ireturn, 1) := by decide +kernel
theorem dX6_told2_67 : decode cX6_told2 67 = .ok (.iload_n 1, 1) := by decide +kernel
theorem dX6_told2_68 : decode cX6_told2 68 = .ok (.iload_n 2, 1) := by decide +kernel
theorem dX6_told2_69 : decode cX6_told2 69 = .ok (.if_icmp .ne 7, 3) := by decide +kernel
theorem dX6_told2_72 : decode cX6_told2 72 = .ok (.iconst 1, 1) := by decide +kernel
theorem dX6_told2_73 : decode cX6_told2 73 = .ok (.goto 4, 3) := by decide +kernel
theorem dX6_told2_76 : decode cX6_told2 76 = .ok (.iconst 0, 1) := by decide +kernel
theorem dX6_told2_77 : decode cX6_told2 77 = .ok (.ireturn, 1) := by decide +kernel
theorem dX6_told2_78 : decode cX6_told2 78 = .ok (.iload_n 1, 1) := by decide +kernel
theorem dX6_told2_79 : decode cX6_told2 79 = .ok (.ifCond .eq 11, 3) := by decide +kernel
theorem dX6_told2_82 : decode cX6_told2 82 = .ok (.iload_n 2, 1) := by decide +kernel
theorem dX6_told2_83 : decode cX6_told2 83 = .ok (.ifCond .eq 7, 3) := by decide +kernel
theorem dX6_told2_86 : decode cX6_told2 86 = .ok (.iconst 1, 1) := by decide +kernel
theorem dX6_told2_87 : decode cX6_told2 87 = .ok (.goto 4, 3) := by decide +kernel
theorem dX6_told2_90 : decode cX6_told2 90 = .ok (.iconst 0, 1) := by decide +kernel
theorem dX6_told2_91 : decode cX6_told2 91 = .ok (.ireturn, 1) := by decide +kernel
theorem dX6_told2_92 : decode cX6_told2 92 = .ok (.iload_n 1, 1) := by decide +kernel
theorem dX6_told2_93 : decode cX6_told2 93 = .ok (.ifCond .ne 7, 3) := by decide +kernel
theorem dX6_told2_96 : decode cX6_told2 96 = .ok (.iload_n 2, 1) := by decide +kernel
theorem dX6_told2_97 : decode cX6_told2 97 = .ok (.ifCond .eq 7, 3) := by decide +kernel
theorem dX6_told2_100 : decode cX6_told2 100 = .ok (.iconst 1, 1) := by decide +kernel
theorem dX6_told2_101 : decode cX6_told2 101 = .ok (.goto 4, 3) := by decide +kernel
theorem dX6_told2_104 : decode cX6_told2 104 = .ok (.iconst 0, 1) := by decide +kernel
theorem dX6_told2_105 : decode cX6_told2 105 = .ok (.ireturn, 1) := by decide +kernel
theorem dX6_said_0 : decode cX6_said 0 = .ok (.iconst 0, 1) := by decide +kernel
theorem dX6_said_1 : decode cX6_said 1 = .ok (.istore_n 3, 1) := by decide +kernel
theorem dX6_said_2 : decode cX6_said 2 = .ok (.iload_n 2, 1) := by decide +kernel
theorem dX6_said_3 : decode cX6_said 3 = .ok (.ifCond .ne 7, 3) := by decide +kernel
theorem dX6_said_6 : decode cX6_said 6 = .ok (.iconst 0, 1) := by decide +kernel
theorem dX6_said_7 : decode cX6_said 7 = .ok (.goto 15, 3) := by decide +kernel
theorem dX6_said_10 : decode cX6_said 10 = .ok (.aload_n 0, 1) := by decide +kernel
theorem dX6_said_11 : decode cX6_said 11 = .ok (.getfield 26, 3) := by decide +kernel
theorem dX6_said_14 : decode cX6_said 14 = .ok (.iconst 3, 1) := by decide +kernel
theorem dX6_said_15 : decode cX6_said 15 = .ok (.iload_n 1, 1) := by decide +kernel
theorem dX6_said_16 : decode cX6_said 16 = .ok (.imul, 1) := by decide +kernel
theorem dX6_said_17 : decode cX6_said 17 = .ok (.iload_n 2, 1) := by decide +kernel
theorem dX6_said_18 : decode cX6_said 18 = .ok (.iadd, 1) := by decide +kernel
theorem dX6_said_19 : decode cX6_said 19 = .ok (.iconst 1, 1) := by decide +kernel
theorem dX6_said_20 : decode cX6_said 20 = .ok (.isub, 1) := by decide +kernel
theorem dX6_said_21 : decode cX6_said 21 = .ok (.iaload, 1) := by decide +kernel
theorem dX6_said_22 : decode cX6_said 22 = .ok (.istore 4, 2) := by decide +kernel
theorem dX6_said_24 : decode cX6_said 24 = .ok (.iload 4, 2) := by decide +kernel
theorem dX6_said_26 : decode cX6_said 26 = .ok (.aload_n 0, 1) := by decide +kernel
theorem dX6_said_27 : decode cX6_said 27 = .ok (.getfield 26, 3) := by decide +kernel
theorem dX6_said_30 : decode cX6_said 30 = .ok (.iconst 3, 1) := by decide +kernel
theorem dX6_said_31 : decode cX6_said 31 = .ok (.iload_n 1, 1) := by decide +kernel
theorem dX6_said_32 : decode cX6_said 32 = .ok (.imul, 1) := by decide +kernel
theorem dX6_said_33 : decode cX6_said 33 = .ok (.iload_n 2, 1) := by decide +kernel
theorem dX6_said_34 : decode cX6_said 34 = .ok (.iadd, 1) := by decide +kernel
theorem dX6_said_35 : decode cX6_said 35 = .ok (.iaload, 1) := by decide +kernel
theorem dX6_said_36 : decode cX6_said 36 = .ok (.if_icmp .ge 166, 3) := by decide +kernel
theorem dX6_said_39 : decode cX6_said 39 = .ok (.aload_n 0, 1) := by decide +kernel
theorem dX6_said_40 : decode cX6_said 40 = .ok (.getfield 20, 3) := by decide +kernel
theorem dX6_said_43 : decode cX6_said 43 = .ok (.sipush 160, 3) := by decide +kernel
theorem dX6_said_46 : decode cX6_said 46 = .ok (.iload_n 1, 1) := by decide +kernel
theorem dX6_said_47 : decode cX6_said 47 = .ok (.imul, 1) := by decide +kernel
theorem dX6_said_48 : decode cX6_said 48 = .ok (.iload 4, 2) := by decide +kernel
theorem dX6_said_50 : decode cX6_said 50 = .ok (.iadd, 1) := by decide +kernel
theorem dX6_said_51 : decode cX6_said 51 = .ok (.iaload, 1) := by decide +kernel
theorem dX6_said_52 : decode cX6_said 52 = .ok (.istore 5, 2) := by decide +kernel
theorem dX6_said_54 : decode cX6_said 54 = .ok (.aload_n 0, 1) := by decide +kernel
theorem dX6_said_55 : decode cX6_said 55 = .ok (.getfield 23, 3) := by decide +kernel
theorem dX6_said_58 : decode cX6_said 58 = .ok (.sipush 160, 3) := by decide +kernel
theorem dX6_said_61 : decode cX6_said 61 = .ok (.iload_n 1, 1) := by decide +kernel
theorem dX6_said_62 : decode cX6_said 62 = .ok (.imul, 1) := by decide +kernel
theorem dX6_said_63 : decode cX6_said 63 = .ok (.iload 4, 2) := by decide +kernel
theorem dX6_said_65 : decode cX6_said 65 = .ok (.iadd, 1) := by decide +kernel
theorem dX6_said_66 : decode cX6_said 66 = .ok (.iaload, 1) := by decide +kernel
theorem dX6_said_67 : decode cX6_said 67 = .ok (.istore 6, 2) := by decide +kernel
theorem dX6_said_69 : decode cX6_said 69 = .ok (.iload 5, 2) := by decide +kernel
theorem dX6_said_71 : decode cX6_said 71 = .ok (.ifCond .eq 9, 3) := by decide +kernel
theorem dX6_said_74 : decode cX6_said 74 = .ok (.iload 5, 2) := by decide +kernel
theorem dX6_said_76 : decode cX6_said 76 = .ok (.iconst 1, 1) := by decide +kernel
theorem dX6_said_77 : decode cX6_said 77 = .ok (.if_icmp .ne 31, 3) := by decide +kernel
theorem dX6_said_80 : decode cX6_said 80 = .ok (.aload_n 0, 1) := by decide +kernel
theorem dX6_said_81 : decode cX6_said 81 = .ok (.getfield 41, 3) := by decide +kernel
theorem dX6_said_84 : decode cX6_said 84 = .ok (.iload_n 3, 1) := by decide +kernel
theorem dX6_said_85 : decode cX6_said 85 = .ok (.iload 5, 2) := by decide +kernel
theorem dX6_said_87 : decode cX6_said 87 = .ok (.ifCond .ne 8, 3) := by decide +kernel
theorem dX6_said_90 : decode cX6_said 90 = .ok (.iload 6, 2) := by decide +kernel
theorem dX6_said_92 : decode cX6_said 92 = .ok (.goto 9, 3) := by decide +kernel
theorem dX6_said_95 : decode cX6_said 95 = .ok (.aload_n 0, 1) := by decide +kernel
theorem dX6_said_96 : decode cX6_said 96 = .ok (.iload 6, 2) := by decide +kernel
theorem dX6_said_98 : decode cX6_said 98 = .ok (.invokevirtual 272, 3) := by decide +kernel
theorem dX6_said_101 : decode cX6_said 101 = .ok (.iastore, 1) := by decide +kernel
theorem dX6_said_102 : decode cX6_said 102 = .ok (.iinc 3 1, 3) := by decide +kernel
theorem dX6_said_105 : decode cX6_said 105 = .ok (.goto 91, 3) := by decide +kernel
theorem dX6_said_108 : decode cX6_said 108 = .ok (.iload 5, 2) := by decide +kernel
theorem dX6_said_110 : decode cX6_said 110 = .ok (.iconst 2, 1) := by decide +kernel
theorem dX6_said_111 : decode cX6_said 111 = .ok (.if_icmp .eq 10, 3) := by decide +kernel
theorem dX6_said_114 : decode cX6_said 114 = .ok (.iload 5, 2) := by decide +kernel
theorem dX6_said_116 : decode cX6_said 116 = .ok (.bipush 8, 2) := by decide +kernel
theorem dX6_said_118 : decode cX6_said 118 = .ok (.if_icmp .ne 48, 3) := by decide +kernel
theorem dX6_said_121 : decode cX6_said 121 = .ok (.aload_n 0, 1) := by decide +kernel
theorem dX6_said_122 : decode cX6_said 122 = .ok (.getfield 41, 3) := by decide +kernel
theorem dX6_said_125 : decode cX6_said 125 = .ok (.iload_n 3, 1) := by decide +kernel
theorem dX6_said_126 : decode cX6_said 126 = .ok (.iconst 1, 1) := by decide +kernel
theorem dX6_said_127 : decode cX6_said 127 = .ok (.isub, 1) := by decide +kernel
theorem dX6_said_128 : decode cX6_said 128 = .ok (.iload 5, 2) := by decide +kernel
theorem dX6_said_130 : decode cX6_said 130 = .ok (.iconst 2, 1) := by decide +kernel
theorem dX6_said_131 : decode cX6_said 131 = .ok (.if_icmp .ne 15, 3) := by decide +kernel
theorem dX6_said_134 : decode cX6_said 134 = .ok (.aload_n 0, 1) := by decide +kernel
theorem dX6_said_135 : decode cX6_said 135 = .ok (.getfield 41, 3) := by decide +kernel
theorem dX6_said_138 : decode cX6_said 138 = .ok (.iload_n 3, 1) := by decide +kernel
theorem dX6_said_139 : decode cX6_said 139 = .ok (.iconst 1, 1) := by decide +kernel
theorem dX6_said_140 : decode cX6_said 140 = .ok (.isub, 1) := by decide +kernel
theorem dX6_said_141 : decode cX6_said 141 = .ok (.iaload, 1) := by decide +kernel
theorem dX6_said_142 : decode cX6_said 142 = .ok (.ineg, 1) := by decide +kernel
theorem dX6_said_143 : decode cX6_said 143 = .ok (.goto 19, 3) := by decide +kernel
theorem dX6_said_146 : decode cX6_said 146 = .ok (.aload_n 0, 1) := by decide +kernel
theorem dX6_said_147 : decode cX6_said 147 = .ok (.getfield 41, 3) := by decide +kernel
theorem dX6_said_150 : decode cX6_said 150 = .ok (.iload_n 3, 1) := by decide +kernel
theorem dX6_said_151 : decode cX6_said 151 = .ok (.iconst 1, 1) := by decide +kernel
theorem dX6_said_152 : decode cX6_said 152 = .ok (.isub, 1) := by decide +kernel
theorem dX6_said_153 : decode cX6_said 153 = .ok (.iaload, 1) := by decide +kernel
theorem dX6_said_154 : decode cX6_said 154 = .ok (.ifCond .ne 7, 3) := by decide +kernel
theorem dX6_said_157 : decode cX6_said 157 = .ok (.iconst 1, 1) := by decide +kernel
theorem dX6_said_158 : decode cX6_said 158 = .ok (.goto 4, 3) := by decide +kernel
theorem dX6_said_161 : decode cX6_said 161 = .ok (.iconst 0, 1) := by decide +kernel
theorem dX6_said_162 : decode cX6_said 162 = .ok (.iastore, 1) := by decide +kernel
theorem dX6_said_163 : decode cX6_said 163 = .ok (.goto 33, 3) := by decide +kernel
theorem dX6_said_166 : decode cX6_said 166 = .ok (.iinc 3 (-1), 3) := by decide +kernel
theorem dX6_said_169 : decode cX6_said 169 = .ok (.aload_n 0, 1) := by decide +kernel
theorem dX6_said_170 : decode cX6_said 170 = .ok (.getfield 41, 3) := by decide +kernel
theorem dX6_said_173 : decode cX6_said 173 = .ok (.iload_n 3, 1) := by decide +kernel
theorem dX6_said_174 : decode cX6_said 174 = .ok (.iconst 1, 1) := by decide +kernel
theorem dX6_said_175 : decode cX6_said 175 = .ok (.isub, 1) := by decide +kernel
theorem dX6_said_176 : decode cX6_said 176 = .ok (.iload 5, 2) := by decide +kernel
theorem dX6_said_178 : decode cX6_said 178 = .ok (.aload_n 0, 1) := by decide +kernel
theorem dX6_said_179 : decode cX6_said 179 = .ok (.getfield 41, 3) := by decide +kernel
theorem dX6_said_182 : decode cX6_said 182 = .ok (.iload_n 3, 1) := by decide +kernel
theorem dX6_said_183 : decode cX6_said 183 = .ok (.iconst 1, 1) := by decide +kernel
theorem dX6_said_184 : decode cX6_said 184 = .ok (.isub, 1) := by decide +kernel
theorem dX6_said_185 : decode cX6_said 185 = .ok (.iaload, 1) := by decide +kernel
theorem dX6_said_186 : decode cX6_said 186 = .ok (.aload_n 0, 1) := by decide +kernel
theorem dX6_said_187 : decode cX6_said 187 = .ok (.getfield 41, 3) := by decide +kernel
theorem dX6_said_190 : decode cX6_said 190 = .ok (.iload_n 3, 1) := by decide +kernel
theorem dX6_said_191 : decode cX6_said 191 = .ok (.iaload, 1) := by decide +kernel
theorem dX6_said_192 : decode cX6_said 192 = .ok (.invokestatic 275, 3) := by decide +kernel
theorem dX6_said_195 : decode cX6_said 195 = .ok (.iastore, 1) := by decide +kernel
theorem dX6_said_196 : decode cX6_said 196 = .ok (.iinc 4 1, 3) := by decide +kernel
theorem dX6_said_199 : decode cX6_said 199 = .ok (.goto (-175), 3) := by decide +kernel
theorem dX6_said_202 : decode cX6_said 202 = .ok (.aload_n 0, 1) := by decide +kernel
theorem dX6_said_203 : decode cX6_said 203 = .ok (.getfield 41, 3) := by decide +kernel
theorem dX6_said_206 : decode cX6_said 206 = .ok (.iconst 0, 1) := by decide +kernel
theorem dX6_said_207 : decode cX6_said 207 = .ok (.iaload, 1) := by decide +kernel
theorem dX6_said_208 : decode cX6_said 208 = .ok (.ireturn, 1) := by decide +kernel
theorem dX6_text_0 : decode cX6_text 0 = .ok (.aload_n 0, 1) := by decide +kernel
theorem dX6_text_1 : decode cX6_text 1 = .ok (.getfield 80, 3) := by decide +kernel
theorem dX6_text_4 : decode cX6_text 4 = .ok (.bipush 6, 2) := by decide +kernel
theorem dX6_text_6 : decode cX6_text 6 = .ok (.if_icmp .ne 6, 3) := by decide +kernel
theorem dX6_text_9 : decode cX6_text 9 = .ok (.bipush (-4), 2) := by decide +kernel
theorem dX6_text_11 : decode cX6_text 11 = .ok (.ireturn, 1) := by decide +kernel
theorem dX6_text_12 : decode cX6_text 12 = .ok (.iconst 0, 1) := by decide +kernel
theorem dX6_text_13 : decode cX6_text 13 = .ok (.istore_n 1, 1) := by decide +kernel
theorem dX6_text_14 : decode cX6_text 14 = .ok (.iload_n 1, 1) := by decide +kernel
theorem dX6_text_15 : decode cX6_text 15 = .ok (.aload_n 0, 1) := by decide +kernel
theorem dX6_text_16 : decode cX6_text 16 = .ok (.getfield 152, 3) := by decide +kernel
theorem dX6_text_19 : decode cX6_text 19 = .ok (.if_icmp .ge 30, 3) := by decide +kernel
theorem dX6_text_22 : decode cX6_text 22 = .ok (.aload_n 0, 1) := by decide +kernel
theorem dX6_text_23 : decode cX6_text 23 = .ok (.getfield 13, 3) := by decide +kernel
theorem dX6_text_26 : decode cX6_text 26 = .ok (.sipush 160, 3) := by decide +kernel
theorem dX6_text_29 : decode cX6_text 29 = .ok (.aload_n 0, 1) := by decide +kernel
theorem dX6_text_30 : decode cX6_text 30 = .ok (.getfield 80, 3) := by decide +kernel
theorem dX6_text_33 : decode cX6_text 33 = .ok (.imul, 1) := by decide +kernel
theorem dX6_text_34 : decode cX6_text 34 = .ok (.iload_n 1, 1) := by decide +kernel
theorem dX6_text_35 : decode cX6_text 35 = .ok (.iadd, 1) := by decide +kernel
theorem dX6_text_36 : decode cX6_text 36 = .ok (.aload_n 0, 1) := by decide +kernel
theorem dX6_text_37 : decode cX6_text 37 = .ok (.getfield 29, 3) := by decide +kernel
theorem dX6_text_40 : decode cX6_text 40 = .ok (.iload_n 1, 1) := by decide +kernel
theorem dX6_text_41 : decode cX6_text 41 = .ok (.iaload, 1) := by decide +kernel
theorem dX6_text_42 : decode cX6_text 42 = .ok (.iastore, 1) := by decide +kernel
theorem dX6_text_43 : decode cX6_text 43 = .ok (.iinc 1 1, 3) := by decide +kernel
theorem dX6_text_46 : decode cX6_text 46 = .ok (.goto (-32), 3) := by decide +kernel
theorem dX6_text_49 : decode cX6_text 49 = .ok (.aload_n 0, 1) := by decide +kernel
theorem dX6_text_50 : decode cX6_text 50 = .ok (.getfield 17, 3) := by decide +kernel
theorem dX6_text_53 : decode cX6_text 53 = .ok (.aload_n 0, 1) := by decide +kernel
theorem dX6_text_54 : decode cX6_text 54 = .ok (.getfield 80, 3) := by decide +kernel
theorem dX6_text_57 : decode cX6_text 57 = .ok (.aload_n 0, 1) := by decide +kernel
theorem dX6_text_58 : decode cX6_text 58 = .ok (.getfield 152, 3) := by decide +kernel
theorem dX6_text_61 : decode cX6_text 61 = .ok (.iastore, 1) := by decide +kernel
theorem dX6_text_62 : decode cX6_text 62 = .ok (.aload_n 0, 1) := by decide +kernel
theorem dX6_text_63 : decode cX6_text 63 = .ok (.iconst 0, 1) := by decide +kernel
theorem dX6_text_64 : decode cX6_text 64 = .ok (.putfield 152, 3) := by decide +kernel
theorem dX6_text_67 : decode cX6_text 67 = .ok (.aload_n 0, 1) := by decide +kernel
theorem dX6_text_68 : decode cX6_text 68 = .ok (.aload_n 0, 1) := by decide +kernel
theorem dX6_text_69 : decode cX6_text 69 = .ok (.getfield 80, 3) := by decide +kernel
theorem dX6_text_72 : decode cX6_text 72 = .ok (.invokevirtual 76, 3) := by decide +kernel
theorem dX6_text_75 : decode cX6_text 75 = .ok (.aload_n 0, 1) := by decide +kernel
theorem dX6_text_76 : decode cX6_text 76 = .ok (.getfield 187, 3) := by decide +kernel
theorem dX6_text_79 : decode cX6_text 79 = .ok (.ifCond .eq 11, 3) := by decide +kernel
theorem dX6_text_82 : decode cX6_text 82 = .ok (.bipush (-100), 2) := by decide +kernel
theorem dX6_text_84 : decode cX6_text 84 = .ok (.aload_n 0, 1) := by decide +kernel
theorem dX6_text_85 : decode cX6_text 85 = .ok (.getfield 191, 3) := by decide +kernel
theorem dX6_text_88 : decode cX6_text 88 = .ok (.isub, 1) := by decide +kernel
theorem dX6_text_89 : decode cX6_text 89 = .ok (.ireturn, 1) := by decide +kernel
theorem dX6_text_90 : decode cX6_text 90 = .ok (.aload_n 0, 1) := by decide +kernel
theorem dX6_text_91 : decode cX6_text 91 = .ok (.dup, 1) := by decide +kernel
theorem dX6_text_92 : decode cX6_text 92 = .ok (.getfield 80, 3) := by decide +kernel
theorem dX6_text_95 : decode cX6_text 95 = .ok (.iconst 1, 1) := by decide +kernel
theorem dX6_text_96 : decode cX6_text 96 = .ok (.iadd, 1) := by decide +kernel
theorem dX6_text_97 : decode cX6_text 97 = .ok (.putfield 80, 3) := by decide +kernel
theorem dX6_text_100 : decode cX6_text 100 = .ok (.aload_n 0, 1) := by decide +kernel
theorem dX6_text_101 : decode cX6_text 101 = .ok (.getfield 80, 3) := by decide +kernel
theorem dX6_text_104 : decode cX6_text 104 = .ok (.iconst 1, 1) := by decide +kernel
theorem dX6_text_105 : decode cX6_text 105 = .ok (.isub, 1) := by decide +kernel
theorem dX6_text_106 : decode cX6_text 106 = .ok (.ireturn, 1) := by decide +kernel
theorem dX6_force_0 : decode cX6_force 0 = .ok (.iload_n 1, 1) := by decide +kernel
theorem dX6_force_1 : decode cX6_force 1 = .ok (.i2l, 1) := by decide +kernel
theorem dX6_force_2 : decode cX6_force 2 = .ok (.lconst 0, 1) := by decide +kernel
theorem dX6_force_3 : decode cX6_force 3 = .ok (.aload_n 0, 1) := by decide +kernel
theorem dX6_force_4 : decode cX6_force 4 = .ok (.getfield 80, 3) := by decide +kernel
theorem dX6_force_7 : decode cX6_force 7 = .ok (.iconst 1, 1) := by decide +kernel
theorem dX6_force_8 : decode cX6_force 8 = .ok (.isub, 1) := by decide +kernel
theorem dX6_force_9 : decode cX6_force 9 = .ok (.i2l, 1) := by decide +kernel
theorem dX6_force_10 : decode cX6_force 10 = .ok (.invokestatic 86, 3) := by decide +kernel
theorem dX6_force_13 : decode cX6_force 13 = .ok (.ifCond .ne 6, 3) := by decide +kernel
theorem dX6_force_16 : decode cX6_force 16 = .ok (.bipush (-2), 2) := by decide +kernel
theorem dX6_force_18 : decode cX6_force 18 = .ok (.ireturn, 1) := by decide +kernel
theorem dX6_force_19 : decode cX6_force 19 = .ok (.aload_n 0, 1) := by decide +kernel
theorem dX6_force_20 : decode cX6_force 20 = .ok (.getfield 120, 3) := by decide +kernel
theorem dX6_force_23 : decode cX6_force 23 = .ok (.istore_n 2, 1) := by decide +kernel
theorem dX6_force_24 : decode cX6_force 24 = .ok (.aload_n 0, 1) := by decide +kernel
theorem dX6_force_25 : decode cX6_force 25 = .ok (.iload_n 1, 1) := by decide +kernel
theorem dX6_force_26 : decode cX6_force 26 = .ok (.putfield 120, 3) := by decide +kernel
theorem dX6_force_29 : decode cX6_force 29 = .ok (.iload_n 2, 1) := by decide +kernel
theorem dX6_force_30 : decode cX6_force 30 = .ok (.ireturn, 1) := by decide +kernel
theorem dX6_bitsOf_0 : decode cX6_bitsOf 0 = .ok (.iconst 0, 1) := by decide +kernel
theorem dX6_bitsOf_1 : decode cX6_bitsOf 1 = .ok (.istore_n 1, 1) := by decide +kernel
theorem dX6_bitsOf_2 : decode cX6_bitsOf 2 = .ok (.iload_n 0, 1) := by decide +kernel
theorem dX6_bitsOf_3 : decode cX6_bitsOf 3 = .ok (.istore_n 2, 1) := by decide +kernel
theorem dX6_bitsOf_4 : decode cX6_bitsOf 4 = .ok (.iload_n 2, 1) := by decide +kernel
theorem dX6_bitsOf_5 : decode cX6_bitsOf 5 = .ok (.ifCond .eq 15, 3) := by decide +kernel
theorem dX6_bitsOf_8 : decode cX6_bitsOf 8 = .ok (.iinc 1 1, 3) := by decide +kernel
theorem dX6_bitsOf_11 : decode cX6_bitsOf 11 = .ok (.iload_n 2, 1) := by decide +kernel
theorem dX6_bitsOf_12 : decode cX6_bitsOf 12 = .ok (.iload_n 2, 1) := by decide +kernel
theorem dX6_bitsOf_13 : decode cX6_bitsOf 13 = .ok (.iconst 1, 1) := by decide +kernel
theorem dX6_bitsOf_14 : decode cX6_bitsOf 14 = .ok (.isub, 1) := by decide +kernel
theorem dX6_bitsOf_15 : decode cX6_bitsOf 15 = .ok (.iand, 1) := by decide +kernel
theorem dX6_bitsOf_16 : decode cX6_bitsOf 16 = .ok (.istore_n 2, 1) := by decide +kernel
theorem dX6_bitsOf_17 : decode cX6_bitsOf 17 = .ok (.goto (-13), 3) := by decide +kernel
theorem dX6_bitsOf_20 : decode cX6_bitsOf 20 = .ok (.iload_n 1, 1) := by decide +kernel
theorem dX6_bitsOf_21 : decode cX6_bitsOf 21 = .ok (.ireturn, 1) := by decide +kernel
theorem dX6_met_0 : decode cX6_met 0 = .ok (.aload_n 0, 1) := by decide +kernel
theorem dX6_met_1 : decode cX6_met 1 = .ok (.iload_n 1, 1) := by decide +kernel
theorem dX6_met_2 : decode cX6_met 2 = .ok (.invokevirtual 144, 3) := by decide +kernel
theorem dX6_met_5 : decode cX6_met 5 = .ok (.ifCond .eq 24, 3) := by decide +kernel
theorem dX6_met_8 : decode cX6_met 8 = .ok (.aload_n 0, 1) := by decide +kernel
theorem dX6_met_9 : decode cX6_met 9 = .ok (.aload_n 0, 1) := by decide +kernel
theorem dX6_met_10 : decode cX6_met 10 = .ok (.iload_n 1, 1) := by decide +kernel
theorem dX6_met_11 : decode cX6_met 11 = .ok (.invokevirtual 147, 3) := by decide +kernel
theorem dX6_met_14 : decode cX6_met 14 = .ok (.invokevirtual 138, 3) := by decide +kernel
theorem dX6_met_17 : decode cX6_met 17 = .ok (.iconst 1, 1) := by decide +kernel
theorem dX6_met_18 : decode cX6_met 18 = .ok (.iload_n 1, 1) := by decide +kernel
theorem dX6_met_19 : decode cX6_met 19 = .ok (.ishl, 1) := by decide +kernel
theorem dX6_met_20 : decode cX6_met 20 = .ok (.iconst (-1), 1) := by decide +kernel
theorem dX6_met_21 : decode cX6_met 21 = .ok (.ixor, 1) := by decide +kernel
theorem dX6_met_22 : decode cX6_met 22 = .ok (.iand, 1) := by decide +kernel
theorem dX6_met_23 : decode cX6_met 23 = .ok (.invokestatic 279, 3) := by decide +kernel
theorem dX6_met_26 : decode cX6_met 26 = .ok (.goto 4, 3) := by decide +kernel
theorem dX6_met_29 : decode cX6_met 29 = .ok (.iconst 0, 1) := by decide +kernel
theorem dX6_met_30 : decode cX6_met 30 = .ok (.ireturn, 1) := by decide +kernel
theorem dX6_says_0 : decode cX6_says 0 = .ok (.aload_n 0, 1) := by decide +kernel
theorem dX6_says_1 : decode cX6_says 1 = .ok (.aload_n 0, 1) := by decide +kernel
theorem dX6_says_2 : decode cX6_says 2 = .ok (.getfield 38, 3) := by decide +kernel
theorem dX6_says_5 : decode cX6_says 5 = .ok (.bipush 6, 2) := by decide +kernel
theorem dX6_says_7 : decode cX6_says 7 = .ok (.iload_n 2, 1) := by decide +kernel
theorem dX6_says_8 : decode cX6_says 8 = .ok (.imul, 1) := by decide +kernel
theorem dX6_says_9 : decode cX6_says 9 = .ok (.iconst 1, 1) := by decide +kernel
theorem dX6_says_10 : decode cX6_says 10 = .ok (.iadd, 1) := by decide +kernel
theorem dX6_says_11 : decode cX6_says 11 = .ok (.iaload, 1) := by decide +kernel
theorem dX6_says_12 : decode cX6_says 12 = .ok (.putfield 254, 3) := by decide +kernel
theorem dX6_says_15 : decode cX6_says 15 = .ok (.aload_n 0, 1) := by decide +kernel
theorem dX6_says_16 : decode cX6_says 16 = .ok (.aload_n 0, 1) := by decide +kernel
theorem dX6_says_17 : decode cX6_says 17 = .ok (.getfield 35, 3) := by decide +kernel
theorem dX6_says_20 : decode cX6_says 20 = .ok (.aload_n 0, 1) := by decide +kernel
theorem dX6_says_21 : decode cX6_says 21 = .ok (.iload_n 2, 1) := by decide +kernel
theorem dX6_says_22 : decode cX6_says 22 = .ok (.invokevirtual 147, 3) := by decide +kernel
theorem dX6_says_25 : decode cX6_says 25 = .ok (.iaload, 1) := by decide +kernel
theorem dX6_says_26 : decode cX6_says 26 = .ok (.putfield 257, 3) := by decide +kernel
theorem dX6_says_29 : decode cX6_says 29 = .ok (.aload_n 0, 1) := by decide +kernel
theorem dX6_says_30 : decode cX6_says 30 = .ok (.aload_n 0, 1) := by decide +kernel
theorem dX6_says_31 : decode cX6_says 31 = .ok (.getfield 38, 3) := by decide +kernel
theorem dX6_says_34 : decode cX6_says 34 = .ok (.bipush 6, 2) := by decide +kernel
theorem dX6_says_36 : decode cX6_says 36 = .ok (.iload_n 2, 1) := by decide +kernel
theorem dX6_says_37 : decode cX6_says 37 = .ok (.imul, 1) := by decide +kernel
theorem dX6_says_38 : decode cX6_says 38 = .ok (.iaload, 1) := by decide +kernel
theorem dX6_says_39 : decode cX6_says 39 = .ok (.putfield 260, 3) := by decide +kernel
theorem dX6_says_42 : decode cX6_says 42 = .ok (.aload_n 0, 1) := by decide +kernel
theorem dX6_says_43 : decode cX6_says 43 = .ok (.aload_n 0, 1) := by decide +kernel
theorem dX6_says_44 : decode cX6_says 44 = .ok (.getfield 117, 3) := by decide +kernel
theorem dX6_says_47 : decode cX6_says 47 = .ok (.putfield 263, 3) := by decide +kernel
theorem dX6_says_50 : decode cX6_says 50 = .ok (.aload_n 0, 1) := by decide +kernel
theorem dX6_says_51 : decode cX6_says 51 = .ok (.aload_n 0, 1) := by decide +kernel
theorem dX6_says_52 : decode cX6_says 52 = .ok (.getfield 32, 3) := by decide +kernel
theorem dX6_says_55 : decode cX6_says 55 = .ok (.putfield 266, 3) := by decide +kernel
theorem dX6_says_58 : decode cX6_says 58 = .ok (.aload_n 0, 1) := by decide +kernel
theorem dX6_says_59 : decode cX6_says 59 = .ok (.aload_n 0, 1) := by decide +kernel
theorem dX6_says_60 : decode cX6_says 60 = .ok (.iload_n 2, 1) := by decide +kernel
theorem dX6_says_61 : decode cX6_says 61 = .ok (.invokevirtual 282, 3) := by decide +kernel
theorem dX6_says_64 : decode cX6_says 64 = .ok (.putfield 269, 3) := by decide +kernel
theorem dX6_says_67 : decode cX6_says 67 = .ok (.aload_n 0, 1) := by decide +kernel
theorem dX6_says_68 : decode cX6_says 68 = .ok (.aload_n 0, 1) := by decide +kernel
theorem dX6_says_69 : decode cX6_says 69 = .ok (.getfield 120, 3) := by decide +kernel
theorem dX6_says_72 : decode cX6_says 72 = .ok (.iload_n 1, 1) := by decide +kernel
theorem dX6_says_73 : decode cX6_says 73 = .ok (.invokevirtual 285, 3) := by decide +kernel
theorem dX6_says_76 : decode cX6_says 76 = .ok (.iload_n 1, 1) := by decide +kernel
theorem dX6_says_77 : decode cX6_says 77 = .ok (.ifCond .ne 7, 3) := by decide +kernel
theorem dX6_says_80 : decode cX6_says 80 = .ok (.iconst 0, 1) := by decide +kernel
theorem dX6_says_81 : decode cX6_says 81 = .ok (.goto 5, 3) := by decide +kernel
theorem dX6_says_84 : decode cX6_says 84 = .ok (.bipush (-99), 2) := by decide +kernel
theorem dX6_says_86 : decode cX6_says 86 = .ok (.bipush 99, 2) := by decide +kernel
theorem dX6_says_88 : decode cX6_says 88 = .ok (.invokestatic 288, 3) := by decide +kernel
theorem dX6_says_91 : decode cX6_says 91 = .ok (.ireturn, 1) := by decide +kernel
theorem dX6_paceOf_0 : decode cX6_paceOf 0 = .ok (.aload_n 0, 1) := by decide +kernel
theorem dX6_paceOf_1 : decode cX6_paceOf 1 = .ok (.getfield 38, 3) := by decide +kernel
theorem dX6_paceOf_4 : decode cX6_paceOf 4 = .ok (.bipush 6, 2) := by decide +kernel
theorem dX6_paceOf_6 : decode cX6_paceOf 6 = .ok (.iload_n 1, 1) := by decide +kernel
theorem dX6_paceOf_7 : decode cX6_paceOf 7 = .ok (.imul, 1) := by decide +kernel
theorem dX6_paceOf_8 : decode cX6_paceOf 8 = .ok (.iconst 4, 1) := by decide +kernel
theorem dX6_paceOf_9 : decode cX6_paceOf 9 = .ok (.iadd, 1) := by decide +kernel
theorem dX6_paceOf_10 : decode cX6_paceOf 10 = .ok (.iaload, 1) := by decide +kernel
theorem dX6_paceOf_11 : decode cX6_paceOf 11 = .ok (.istore_n 2, 1) := by decide +kernel
theorem dX6_paceOf_12 : decode cX6_paceOf 12 = .ok (.aload_n 0, 1) := by decide +kernel
theorem dX6_paceOf_13 : decode cX6_paceOf 13 = .ok (.iconst 0, 1) := by decide +kernel
theorem dX6_paceOf_14 : decode cX6_paceOf 14 = .ok (.iload_n 1, 1) := by decide +kernel
theorem dX6_paceOf_15 : decode cX6_paceOf 15 = .ok (.invokevirtual 291, 3) := by decide +kernel
theorem dX6_paceOf_18 : decode cX6_paceOf 18 = .ok (.istore_n 3, 1) := by decide +kernel
theorem dX6_paceOf_19 : decode cX6_paceOf 19 = .ok (.aload_n 0, 1) := by decide +kernel
theorem dX6_paceOf_20 : decode cX6_paceOf 20 = .ok (.getfield 38, 3) := by decide +kernel
theorem dX6_paceOf_23 : decode cX6_paceOf 23 = .ok (.bipush 6, 2) := by decide +kernel
theorem dX6_paceOf_25 : decode cX6_paceOf 25 = .ok (.iload_n 1, 1) := by decide +kernel
theorem dX6_paceOf_26 : decode cX6_paceOf 26 = .ok (.imul, 1) := by decide +kernel
theorem dX6_paceOf_27 : decode cX6_paceOf 27 = .ok (.iconst 1, 1) := by decide +kernel
theorem dX6_paceOf_28 : decode cX6_paceOf 28 = .ok (.iadd, 1) := by decide +kernel
theorem dX6_paceOf_29 : decode cX6_paceOf 29 = .ok (.iaload, 1) := by decide +kernel
theorem dX6_paceOf_30 : decode cX6_paceOf 30 = .ok (.bipush 20, 2) := by decide +kernel
theorem dX6_paceOf_32 : decode cX6_paceOf 32 = .ok (.if_icmp .le 9, 3) := by decide +kernel
theorem dX6_paceOf_35 : decode cX6_paceOf 35 = .ok (.iload_n 3, 1) := by decide +kernel
theorem dX6_paceOf_36 : decode cX6_paceOf 36 = .ok (.iconst 2, 1) := by decide +kernel
theorem dX6_paceOf_37 : decode cX6_paceOf 37 = .ok (.idiv, 1) := by decide +kernel
theorem dX6_paceOf_38 : decode cX6_paceOf 38 = .ok (.goto 4, 3) := by decide +kernel
theorem dX6_paceOf_41 : decode cX6_paceOf 41 = .ok (.iload_n 3, 1) := by decide +kernel
theorem dX6_paceOf_42 : decode cX6_paceOf 42 = .ok (.istore 4, 2) := by decide +kernel
theorem dX6_paceOf_44 : decode cX6_paceOf 44 = .ok (.aload_n 0, 1) := by decide +kernel
theorem dX6_paceOf_45 : decode cX6_paceOf 45 = .ok (.iload_n 1, 1) := by decide +kernel
theorem dX6_paceOf_46 : decode cX6_paceOf 46 = .ok (.invokevirtual 282, 3) := by decide +kernel
theorem dX6_paceOf_49 : decode cX6_paceOf 49 = .ok (.ifCond .le 7, 3) := by decide +kernel
theorem dX6_paceOf_52 : decode cX6_paceOf 52 = .ok (.iload_n 3, 1) := by decide +kernel
theorem dX6_paceOf_53 : decode cX6_paceOf 53 = .ok (.goto 6, 3) := by decide +kernel
theorem dX6_paceOf_56 : decode cX6_paceOf 56 = .ok (.iload_n 3, 1) := by decide +kernel
theorem dX6_paceOf_57 : decode cX6_paceOf 57 = .ok (.iconst 1, 1) := by decide +kernel
theorem dX6_paceOf_58 : decode cX6_paceOf 58 = .ok (.isub, 1) := by decide +kernel
theorem dX6_paceOf_59 : decode cX6_paceOf 59 = .ok (.istore 5, 2) := by decide +kernel
theorem dX6_paceOf_61 : decode cX6_paceOf 61 = .ok (.iload_n 2, 1) := by decide +kernel
theorem dX6_paceOf_62 : decode cX6_paceOf 62 = .ok (.iconst 1, 1) := by decide +kernel
theorem dX6_paceOf_63 : decode cX6_paceOf 63 = .ok (.if_icmp .ne 8, 3) := by decide +kernel
theorem dX6_paceOf_66 : decode cX6_paceOf 66 = .ok (.iload 4, 2) := by decide +kernel
theorem dX6_paceOf_68 : decode cX6_paceOf 68 = .ok (.goto 58, 3) := by decide +kernel
theorem dX6_paceOf_71 : decode cX6_paceOf 71 = .ok (.iload_n 2, 1) := by decide +kernel
theorem dX6_paceOf_72 : decode cX6_paceOf 72 = .ok (.iconst 2, 1) := by decide +kernel
theorem dX6_paceOf_73 : decode cX6_paceOf 73 = .ok (.if_icmp .ne 9, 3) := by decide +kernel
theorem dX6_paceOf_76 : decode cX6_paceOf 76 = .ok (.iload_n 3, 1) := by decide +kernel
theorem dX6_paceOf_77 : decode cX6_paceOf 77 = .ok (.iconst 1, 1) := by decide +kernel
theorem dX6_paceOf_78 : decode cX6_paceOf 78 = .ok (.isub, 1) := by decide +kernel
theorem dX6_paceOf_79 : decode cX6_paceOf 79 = .ok (.goto 47, 3) := by decide +kernel
theorem dX6_paceOf_82 : decode cX6_paceOf 82 = .ok (.iload_n 2, 1) := by decide +kernel
theorem dX6_paceOf_83 : decode cX6_paceOf 83 = .ok (.iconst 3, 1) := by decide +kernel
theorem dX6_paceOf_84 : decode cX6_paceOf 84 = .ok (.if_icmp .ne 20, 3) := by decide +kernel
theorem dX6_paceOf_87 : decode cX6_paceOf 87 = .ok (.iload 4, 2) := by decide +kernel
theorem dX6_paceOf_89 : decode cX6_paceOf 89 = .ok (.aload_n 0, 1) := by decide +kernel
theorem dX6_paceOf_90 : decode cX6_paceOf 90 = .ok (.getfield 38, 3) := by decide +kernel
theorem dX6_paceOf_93 : decode cX6_paceOf 93 = .ok (.bipush 6, 2) := by decide +kernel
theorem dX6_paceOf_95 : decode cX6_paceOf 95 = .ok (.iload_n 1, 1) := by decide +kernel
theorem dX6_paceOf_96 : decode cX6_paceOf 96 = .ok (.imul, 1) := by decide +kernel
theorem dX6_paceOf_97 : decode cX6_paceOf 97 = .ok (.iaload, 1) := by decide +kernel
theorem dX6_paceOf_98 : decode cX6_paceOf 98 = .ok (.iconst 3, 1) := by decide +kernel
theorem dX6_paceOf_99 : decode cX6_paceOf 99 = .ok (.irem, 1) := by decide +kernel
theorem dX6_paceOf_100 : decode cX6_paceOf 100 = .ok (.iadd, 1) := by decide +kernel
theorem dX6_paceOf_101 : decode cX6_paceOf 101 = .ok (.goto 25, 3) := by decide +kernel
theorem dX6_paceOf_104 : decode cX6_paceOf 104 = .ok (.iload_n 2, 1) := by decide +kernel
theorem dX6_paceOf_105 : decode cX6_paceOf 105 = .ok (.iconst 4, 1) := by decide +kernel
theorem dX6_paceOf_106 : decode cX6_paceOf 106 = .ok (.if_icmp .ne 8, 3) := by decide +kernel
theorem dX6_paceOf_109 : decode cX6_paceOf 109 = .ok (.iload 5, 2) := by decide +kernel
theorem dX6_paceOf_111 : decode cX6_paceOf 111 = .ok (.goto 15, 3) := by decide +kernel
theorem dX6_paceOf_114 : decode cX6_paceOf 114 = .ok (.iload_n 2, 1) := by decide +kernel
theorem dX6_paceOf_115 : decode cX6_paceOf 115 = .ok (.iconst 5, 1) := by decide +kernel
theorem dX6_paceOf_116 : decode cX6_paceOf 116 = .ok (.if_icmp .ne 9, 3) := by decide +kernel
theorem dX6_paceOf_119 : decode cX6_paceOf 119 = .ok (.iconst 2, 1) := by decide +kernel
theorem dX6_paceOf_120 : decode cX6_paceOf 120 = .ok (.iload_n 3, 1) := by decide +kernel
theorem dX6_paceOf_121 : decode cX6_paceOf 121 = .ok (.imul, 1) := by decide +kernel
theorem dX6_paceOf_122 : decode cX6_paceOf 122 = .ok (.goto 4, 3) := by decide +kernel
theorem dX6_paceOf_125 : decode cX6_paceOf 125 = .ok (.iload_n 3, 1) := by decide +kernel
theorem dX6_paceOf_126 : decode cX6_paceOf 126 = .ok (.iconst 0, 1) := by decide +kernel
theorem dX6_paceOf_127 : decode cX6_paceOf 127 = .ok (.bipush 9, 2) := by decide +kernel
theorem dX6_paceOf_129 : decode cX6_paceOf 129 = .ok (.invokestatic 288, 3) := by decide +kernel
theorem dX6_paceOf_132 : decode cX6_paceOf 132 = .ok (.ireturn, 1) := by decide +kernel
theorem dX6_treadsOf_0 : decode cX6_treadsOf 0 = .ok (.aload_n 0, 1) := by decide +kernel
theorem dX6_treadsOf_1 : decode cX6_treadsOf 1 = .ok (.getfield 38, 3) := by decide +kernel
theorem dX6_treadsOf_4 : decode cX6_treadsOf 4 = .ok (.bipush 6, 2) := by decide +kernel
theorem dX6_treadsOf_6 : decode cX6_treadsOf 6 = .ok (.iload_n 1, 1) := by decide +kernel
theorem dX6_treadsOf_7 : decode cX6_treadsOf 7 = .ok (.imul, 1) := by decide +kernel
theorem dX6_treadsOf_8 : decode cX6_treadsOf 8 = .ok (.iconst 4, 1) := by decide +kernel
theorem dX6_treadsOf_9 : decode cX6_treadsOf 9 = .ok (.iadd, 1) := by decide +kernel
theorem dX6_treadsOf_10 : decode cX6_treadsOf 10 = .ok (.iaload, 1) := by decide +kernel
theorem dX6_treadsOf_11 : decode cX6_treadsOf 11 = .ok (.istore_n 2, 1) := by decide +kernel
theorem dX6_treadsOf_12 : decode cX6_treadsOf 12 = .ok (.iload_n 2, 1) := by decide +kernel
theorem dX6_treadsOf_13 : decode cX6_treadsOf 13 = .ok (.iconst 5, 1) := by decide +kernel
theorem dX6_treadsOf_14 : decode cX6_treadsOf 14 = .ok (.if_icmp .ne 5, 3) := by decide +kernel
theorem dX6_treadsOf_17 : decode cX6_treadsOf 17 = .ok (.iconst 0, 1) := by decide +kernel
theorem dX6_treadsOf_18 : decode cX6_treadsOf 18 = .ok (.ireturn, 1) := by decide +kernel
theorem dX6_treadsOf_19 : decode cX6_treadsOf 19 = .ok (.aload_n 0, 1) := by decide +kernel
theorem dX6_treadsOf_20 : decode cX6_treadsOf 20 = .ok (.iconst 1, 1) := by decide +kernel
theorem dX6_treadsOf_21 : decode cX6_treadsOf 21 = .ok (.iload_n 1, 1) := by decide +kernel
theorem dX6_treadsOf_22 : decode cX6_treadsOf 22 = .ok (.invokevirtual 291, 3) := by decide +kernel
theorem dX6_treadsOf_25 : decode cX6_treadsOf 25 = .ok (.istore_n 3, 1) := by decide +kernel
theorem dX6_treadsOf_26 : decode cX6_treadsOf 26 = .ok (.iload_n 2, 1) := by decide +kernel
theorem dX6_treadsOf_27 : decode cX6_treadsOf 27 = .ok (.iconst 2, 1) := by decide +kernel
theorem dX6_treadsOf_28 : decode cX6_treadsOf 28 = .ok (.if_icmp .ne 9, 3) := by decide +kernel
theorem dX6_treadsOf_31 : decode cX6_treadsOf 31 = .ok (.iconst 2, 1) := by decide +kernel
theorem dX6_treadsOf_32 : decode cX6_treadsOf 32 = .ok (.iload_n 3, 1) := by decide +kernel
theorem dX6_treadsOf_33 : decode cX6_treadsOf 33 = .ok (.imul, 1) := by decide +kernel
theorem dX6_treadsOf_34 : decode cX6_treadsOf 34 = .ok (.goto 36, 3) := by decide +kernel
theorem dX6_treadsOf_37 : decode cX6_treadsOf 37 = .ok (.iload_n 2, 1) := by decide +kernel
theorem dX6_treadsOf_38 : decode cX6_treadsOf 38 = .ok (.iconst 4, 1) := by decide +kernel
theorem dX6_treadsOf_39 : decode cX6_treadsOf 39 = .ok (.if_icmp .ne 19, 3) := by decide +kernel
theorem dX6_treadsOf_42 : decode cX6_treadsOf 42 = .ok (.iconst 2, 1) := by decide +kernel
theorem dX6_treadsOf_43 : decode cX6_treadsOf 43 = .ok (.iload_n 3, 1) := by decide +kernel
theorem dX6_treadsOf_44 : decode cX6_treadsOf 44 = .ok (.imul, 1) := by decide +kernel
theorem dX6_treadsOf_45 : decode cX6_treadsOf 45 = .ok (.aload_n 0, 1) := by decide +kernel
theorem dX6_treadsOf_46 : decode cX6_treadsOf 46 = .ok (.getfield 38, 3) := by decide +kernel
theorem dX6_treadsOf_49 : decode cX6_treadsOf 49 = .ok (.bipush 6, 2) := by decide +kernel
