theorem dX8_forgets_6 : decode cX8_forgets 6 = .ok (.iconst 2, 1) := by decide +kernel
theorem dX8_forgets_7 : decode cX8_forgets 7 = .ok (.irem, 1) := by decide +kernel
theorem dX8_forgets_8 : decode cX8_forgets 8 = .ok (.ifCond .ne 9, 3) := by decide +kernel
theorem dX8_forgets_11 : decode cX8_forgets 11 = .ok (.sipush (-9999), 3) := by decide +kernel
theorem dX8_forgets_14 : decode cX8_forgets 14 = .ok (.goto 6, 3) := by decide +kernel
theorem dX8_forgets_17 : decode cX8_forgets 17 = .ok (.sipush 9999, 3) := by decide +kernel
theorem dX8_forgets_20 : decode cX8_forgets 20 = .ok (.iastore, 1) := by decide +kernel
theorem dX8_forgets_21 : decode cX8_forgets 21 = .ok (.return_, 1) := by decide +kernel
theorem dX8_play_0 : decode cX8_play 0 = .ok (.iload_n 1, 1) := by decide +kernel
theorem dX8_play_1 : decode cX8_play 1 = .ok (.i2l, 1) := by decide +kernel
theorem dX8_play_2 : decode cX8_play 2 = .ok (.lconst 1, 1) := by decide +kernel
theorem dX8_play_3 : decode cX8_play 3 = .ok (.ldc2_w 192, 3) := by decide +kernel
theorem dX8_play_6 : decode cX8_play 6 = .ok (.invokestatic 49, 3) := by decide +kernel
theorem dX8_play_9 : decode cX8_play 9 = .ok (.ifCond .eq 13, 3) := by decide +kernel
theorem dX8_play_12 : decode cX8_play 12 = .ok (.iload_n 2, 1) := by decide +kernel
theorem dX8_play_13 : decode cX8_play 13 = .ok (.i2l, 1) := by decide +kernel
theorem dX8_play_14 : decode cX8_play 14 = .ok (.lconst 0, 1) := by decide +kernel
theorem dX8_play_15 : decode cX8_play 15 = .ok (.lconst 1, 1) := by decide +kernel
theorem dX8_play_16 : decode cX8_play 16 = .ok (.invokestatic 49, 3) := by decide +kernel
theorem dX8_play_19 : decode cX8_play 19 = .ok (.ifCond .ne 5, 3) := by decide +kernel
theorem dX8_play_22 : decode cX8_play 22 = .ok (.iconst (-1), 1) := by decide +kernel
theorem dX8_play_23 : decode cX8_play 23 = .ok (.ireturn, 1) := by decide +kernel
theorem dX8_play_24 : decode cX8_play 24 = .ok (.aload_n 0, 1) := by decide +kernel
theorem dX8_play_25 : decode cX8_play 25 = .ok (.invokevirtual 162, 3) := by decide +kernel
theorem dX8_play_28 : decode cX8_play 28 = .ok (.ifCond .eq 6, 3) := by decide +kernel
theorem dX8_play_31 : decode cX8_play 31 = .ok (.bipush (-2), 2) := by decide +kernel
theorem dX8_play_33 : decode cX8_play 33 = .ok (.ireturn, 1) := by decide +kernel
theorem dX8_play_34 : decode cX8_play 34 = .ok (.iconst 2, 1) := by decide +kernel
theorem dX8_play_35 : decode cX8_play 35 = .ok (.iload_n 1, 1) := by decide +kernel
theorem dX8_play_36 : decode cX8_play 36 = .ok (.imul, 1) := by decide +kernel
theorem dX8_play_37 : decode cX8_play 37 = .ok (.istore_n 3, 1) := by decide +kernel
theorem dX8_play_38 : decode cX8_play 38 = .ok (.iconst 0, 1) := by decide +kernel
theorem dX8_play_39 : decode cX8_play 39 = .ok (.istore 4, 2) := by decide +kernel
theorem dX8_play_41 : decode cX8_play 41 = .ok (.iload 4, 2) := by decide +kernel
theorem dX8_play_43 : decode cX8_play 43 = .ok (.iload_n 3, 1) := by decide +kernel
theorem dX8_play_44 : decode cX8_play 44 = .ok (.if_icmp .ge 15, 3) := by decide +kernel
theorem dX8_play_47 : decode cX8_play 47 = .ok (.aload_n 0, 1) := by decide +kernel
theorem dX8_play_48 : decode cX8_play 48 = .ok (.iload 4, 2) := by decide +kernel
theorem dX8_play_50 : decode cX8_play 50 = .ok (.invokevirtual 194, 3) := by decide +kernel
theorem dX8_play_53 : decode cX8_play 53 = .ok (.iinc 4 1, 3) := by decide +kernel
theorem dX8_play_56 : decode cX8_play 56 = .ok (.goto (-15), 3) := by decide +kernel
theorem dX8_play_59 : decode cX8_play 59 = .ok (.aload_n 0, 1) := by decide +kernel
theorem dX8_play_60 : decode cX8_play 60 = .ok (.iconst 0, 1) := by decide +kernel
theorem dX8_play_61 : decode cX8_play 61 = .ok (.putfield 197, 3) := by decide +kernel
theorem dX8_play_64 : decode cX8_play 64 = .ok (.iconst 0, 1) := by decide +kernel
theorem dX8_play_65 : decode cX8_play 65 = .ok (.istore 4, 2) := by decide +kernel
theorem dX8_play_67 : decode cX8_play 67 = .ok (.iload 4, 2) := by decide +kernel
theorem dX8_play_69 : decode cX8_play 69 = .ok (.iload_n 3, 1) := by decide +kernel
theorem dX8_play_70 : decode cX8_play 70 = .ok (.invokestatic 185, 3) := by decide +kernel
theorem dX8_play_73 : decode cX8_play 73 = .ok (.if_icmp .ge 227, 3) := by decide +kernel
theorem dX8_play_76 : decode cX8_play 76 = .ok (.aload_n 0, 1) := by decide +kernel
theorem dX8_play_77 : decode cX8_play 77 = .ok (.iconst 0, 1) := by decide +kernel
theorem dX8_play_78 : decode cX8_play 78 = .ok (.sipush 143, 3) := by decide +kernel
theorem dX8_play_81 : decode cX8_play 81 = .ok (.invokevirtual 101, 3) := by decide +kernel
theorem dX8_play_84 : decode cX8_play 84 = .ok (.iconst 0, 1) := by decide +kernel
theorem dX8_play_85 : decode cX8_play 85 = .ok (.istore 5, 2) := by decide +kernel
theorem dX8_play_87 : decode cX8_play 87 = .ok (.iconst 0, 1) := by decide +kernel
theorem dX8_play_88 : decode cX8_play 88 = .ok (.istore 6, 2) := by decide +kernel
theorem dX8_play_90 : decode cX8_play 90 = .ok (.iload 6, 2) := by decide +kernel
theorem dX8_play_92 : decode cX8_play 92 = .ok (.iload_n 1, 1) := by decide +kernel
theorem dX8_play_93 : decode cX8_play 93 = .ok (.if_icmp .ge 43, 3) := by decide +kernel
theorem dX8_play_96 : decode cX8_play 96 = .ok (.iload 5, 2) := by decide +kernel
theorem dX8_play_98 : decode cX8_play 98 = .ok (.aload_n 0, 1) := by decide +kernel
theorem dX8_play_99 : decode cX8_play 99 = .ok (.sipush 143, 3) := by decide +kernel
theorem dX8_play_102 : decode cX8_play 102 = .ok (.iload 4, 2) := by decide +kernel
theorem dX8_play_104 : decode cX8_play 104 = .ok (.iload_n 3, 1) := by decide +kernel
theorem dX8_play_105 : decode cX8_play 105 = .ok (.iconst 2, 1) := by decide +kernel
theorem dX8_play_106 : decode cX8_play 106 = .ok (.iload 6, 2) := by decide +kernel
theorem dX8_play_108 : decode cX8_play 108 = .ok (.imul, 1) := by decide +kernel
theorem dX8_play_109 : decode cX8_play 109 = .ok (.invokestatic 180, 3) := by decide +kernel
theorem dX8_play_112 : decode cX8_play 112 = .ok (.iload 4, 2) := by decide +kernel
theorem dX8_play_114 : decode cX8_play 114 = .ok (.iload_n 3, 1) := by decide +kernel
theorem dX8_play_115 : decode cX8_play 115 = .ok (.iconst 2, 1) := by decide +kernel
theorem dX8_play_116 : decode cX8_play 116 = .ok (.iload 6, 2) := by decide +kernel
theorem dX8_play_118 : decode cX8_play 118 = .ok (.imul, 1) := by decide +kernel
theorem dX8_play_119 : decode cX8_play 119 = .ok (.iconst 1, 1) := by decide +kernel
theorem dX8_play_120 : decode cX8_play 120 = .ok (.iadd, 1) := by decide +kernel
theorem dX8_play_121 : decode cX8_play 121 = .ok (.invokestatic 180, 3) := by decide +kernel
theorem dX8_play_124 : decode cX8_play 124 = .ok (.invokevirtual 168, 3) := by decide +kernel
theorem dX8_play_127 : decode cX8_play 127 = .ok (.ior, 1) := by decide +kernel
theorem dX8_play_128 : decode cX8_play 128 = .ok (.istore 5, 2) := by decide +kernel
theorem dX8_play_130 : decode cX8_play 130 = .ok (.iinc 6 1, 3) := by decide +kernel
theorem dX8_play_133 : decode cX8_play 133 = .ok (.goto (-43), 3) := by decide +kernel
theorem dX8_play_136 : decode cX8_play 136 = .ok (.aload_n 0, 1) := by decide +kernel
theorem dX8_play_137 : decode cX8_play 137 = .ok (.getfield 16, 3) := by decide +kernel
theorem dX8_play_140 : decode cX8_play 140 = .ok (.sipush 145, 3) := by decide +kernel
theorem dX8_play_143 : decode cX8_play 143 = .ok (.iaload, 1) := by decide +kernel
theorem dX8_play_144 : decode cX8_play 144 = .ok (.aload_n 0, 1) := by decide +kernel
theorem dX8_play_145 : decode cX8_play 145 = .ok (.getfield 16, 3) := by decide +kernel
theorem dX8_play_148 : decode cX8_play 148 = .ok (.sipush 146, 3) := by decide +kernel
theorem dX8_play_151 : decode cX8_play 151 = .ok (.iaload, 1) := by decide +kernel
theorem dX8_play_152 : decode cX8_play 152 = .ok (.isub, 1) := by decide +kernel
theorem dX8_play_153 : decode cX8_play 153 = .ok (.aload_n 0, 1) := by decide +kernel
theorem dX8_play_154 : decode cX8_play 154 = .ok (.getfield 16, 3) := by decide +kernel
theorem dX8_play_157 : decode cX8_play 157 = .ok (.sipush 155, 3) := by decide +kernel
theorem dX8_play_160 : decode cX8_play 160 = .ok (.iaload, 1) := by decide +kernel
theorem dX8_play_161 : decode cX8_play 161 = .ok (.iconst 1, 1) := by decide +kernel
theorem dX8_play_162 : decode cX8_play 162 = .ok (.if_icmp .ne 8, 3) := by decide +kernel
theorem dX8_play_165 : decode cX8_play 165 = .ok (.bipush 100, 2) := by decide +kernel
theorem dX8_play_167 : decode cX8_play 167 = .ok (.goto 20, 3) := by decide +kernel
theorem dX8_play_170 : decode cX8_play 170 = .ok (.aload_n 0, 1) := by decide +kernel
theorem dX8_play_171 : decode cX8_play 171 = .ok (.getfield 16, 3) := by decide +kernel
theorem dX8_play_174 : decode cX8_play 174 = .ok (.sipush 155, 3) := by decide +kernel
theorem dX8_play_177 : decode cX8_play 177 = .ok (.iaload, 1) := by decide +kernel
theorem dX8_play_178 : decode cX8_play 178 = .ok (.ifCond .ne 8, 3) := by decide +kernel
theorem dX8_play_181 : decode cX8_play 181 = .ok (.bipush (-100), 2) := by decide +kernel
theorem dX8_play_183 : decode cX8_play 183 = .ok (.goto 4, 3) := by decide +kernel
theorem dX8_play_186 : decode cX8_play 186 = .ok (.iconst 0, 1) := by decide +kernel
theorem dX8_play_187 : decode cX8_play 187 = .ok (.iadd, 1) := by decide +kernel
theorem dX8_play_188 : decode cX8_play 188 = .ok (.iload 5, 2) := by decide +kernel
theorem dX8_play_190 : decode cX8_play 190 = .ok (.ifCond .ge 7, 3) := by decide +kernel
theorem dX8_play_193 : decode cX8_play 193 = .ok (.iconst 1, 1) := by decide +kernel
theorem dX8_play_194 : decode cX8_play 194 = .ok (.goto 4, 3) := by decide +kernel
theorem dX8_play_197 : decode cX8_play 197 = .ok (.iconst 0, 1) := by decide +kernel
theorem dX8_play_198 : decode cX8_play 198 = .ok (.iadd, 1) := by decide +kernel
theorem dX8_play_199 : decode cX8_play 199 = .ok (.istore 6, 2) := by decide +kernel
theorem dX8_play_201 : decode cX8_play 201 = .ok (.iload_n 3, 1) := by decide +kernel
theorem dX8_play_202 : decode cX8_play 202 = .ok (.iconst 1, 1) := by decide +kernel
theorem dX8_play_203 : decode cX8_play 203 = .ok (.isub, 1) := by decide +kernel
theorem dX8_play_204 : decode cX8_play 204 = .ok (.istore 7, 2) := by decide +kernel
theorem dX8_play_206 : decode cX8_play 206 = .ok (.aload_n 0, 1) := by decide +kernel
theorem dX8_play_207 : decode cX8_play 207 = .ok (.iload 7, 2) := by decide +kernel
theorem dX8_play_209 : decode cX8_play 209 = .ok (.iload 6, 2) := by decide +kernel
theorem dX8_play_211 : decode cX8_play 211 = .ok (.invokevirtual 200, 3) := by decide +kernel
theorem dX8_play_214 : decode cX8_play 214 = .ok (.iload 7, 2) := by decide +kernel
theorem dX8_play_216 : decode cX8_play 216 = .ok (.ifCond .le 78, 3) := by decide +kernel
theorem dX8_play_219 : decode cX8_play 219 = .ok (.iload 4, 2) := by decide +kernel
theorem dX8_play_221 : decode cX8_play 221 = .ok (.iload_n 3, 1) := by decide +kernel
theorem dX8_play_222 : decode cX8_play 222 = .ok (.iload 7, 2) := by decide +kernel
theorem dX8_play_224 : decode cX8_play 224 = .ok (.invokestatic 180, 3) := by decide +kernel
theorem dX8_play_227 : decode cX8_play 227 = .ok (.iconst 4, 1) := by decide +kernel
theorem dX8_play_228 : decode cX8_play 228 = .ok (.if_icmp .ne 66, 3) := by decide +kernel
theorem dX8_play_231 : decode cX8_play 231 = .ok (.aload_n 0, 1) := by decide +kernel
theorem dX8_play_232 : decode cX8_play 232 = .ok (.getfield 32, 3) := by decide +kernel
theorem dX8_play_235 : decode cX8_play 235 = .ok (.iload 7, 2) := by decide +kernel
theorem dX8_play_237 : decode cX8_play 237 = .ok (.iaload, 1) := by decide +kernel
theorem dX8_play_238 : decode cX8_play 238 = .ok (.istore 6, 2) := by decide +kernel
theorem dX8_play_240 : decode cX8_play 240 = .ok (.aload_n 0, 1) := by decide +kernel
theorem dX8_play_241 : decode cX8_play 241 = .ok (.iload 7, 2) := by decide +kernel
theorem dX8_play_243 : decode cX8_play 243 = .ok (.invokevirtual 194, 3) := by decide +kernel
theorem dX8_play_246 : decode cX8_play 246 = .ok (.iinc 7 (-1), 3) := by decide +kernel
theorem dX8_play_249 : decode cX8_play 249 = .ok (.aload_n 0, 1) := by decide +kernel
theorem dX8_play_250 : decode cX8_play 250 = .ok (.iload 7, 2) := by decide +kernel
theorem dX8_play_252 : decode cX8_play 252 = .ok (.ifCond .ne 24, 3) := by decide +kernel
theorem dX8_play_255 : decode cX8_play 255 = .ok (.iload 6, 2) := by decide +kernel
theorem dX8_play_257 : decode cX8_play 257 = .ok (.aload_n 0, 1) := by decide +kernel
theorem dX8_play_258 : decode cX8_play 258 = .ok (.getfield 32, 3) := by decide +kernel
theorem dX8_play_261 : decode cX8_play 261 = .ok (.iconst 0, 1) := by decide +kernel
theorem dX8_play_262 : decode cX8_play 262 = .ok (.iaload, 1) := by decide +kernel
theorem dX8_play_263 : decode cX8_play 263 = .ok (.if_icmp .le 13, 3) := by decide +kernel
theorem dX8_play_266 : decode cX8_play 266 = .ok (.iload 4, 2) := by decide +kernel
theorem dX8_play_268 : decode cX8_play 268 = .ok (.iload_n 3, 1) := by decide +kernel
theorem dX8_play_269 : decode cX8_play 269 = .ok (.iconst 0, 1) := by decide +kernel
theorem dX8_play_270 : decode cX8_play 270 = .ok (.invokestatic 180, 3) := by decide +kernel
theorem dX8_play_273 : decode cX8_play 273 = .ok (.goto 7, 3) := by decide +kernel
theorem dX8_play_276 : decode cX8_play 276 = .ok (.aload_n 0, 1) := by decide +kernel
theorem dX8_play_277 : decode cX8_play 277 = .ok (.getfield 197, 3) := by decide +kernel
theorem dX8_play_280 : decode cX8_play 280 = .ok (.putfield 197, 3) := by decide +kernel
theorem dX8_play_283 : decode cX8_play 283 = .ok (.aload_n 0, 1) := by decide +kernel
theorem dX8_play_284 : decode cX8_play 284 = .ok (.iload 7, 2) := by decide +kernel
theorem dX8_play_286 : decode cX8_play 286 = .ok (.iload 6, 2) := by decide +kernel
theorem dX8_play_288 : decode cX8_play 288 = .ok (.invokevirtual 200, 3) := by decide +kernel
theorem dX8_play_291 : decode cX8_play 291 = .ok (.goto (-77), 3) := by decide +kernel
theorem dX8_play_294 : decode cX8_play 294 = .ok (.iinc 4 1, 3) := by decide +kernel
theorem dX8_play_297 : decode cX8_play 297 = .ok (.goto (-230), 3) := by decide +kernel
theorem dX8_play_300 : decode cX8_play 300 = .ok (.iload_n 2, 1) := by decide +kernel
theorem dX8_play_301 : decode cX8_play 301 = .ok (.ifCond .ne 16, 3) := by decide +kernel
theorem dX8_play_304 : decode cX8_play 304 = .ok (.aload_n 0, 1) := by decide +kernel
theorem dX8_play_305 : decode cX8_play 305 = .ok (.getfield 32, 3) := by decide +kernel
theorem dX8_play_308 : decode cX8_play 308 = .ok (.iconst 0, 1) := by decide +kernel
theorem dX8_play_309 : decode cX8_play 309 = .ok (.iaload, 1) := by decide +kernel
theorem dX8_play_310 : decode cX8_play 310 = .ok (.sipush 200, 3) := by decide +kernel
theorem dX8_play_313 : decode cX8_play 313 = .ok (.iadd, 1) := by decide +kernel
theorem dX8_play_314 : decode cX8_play 314 = .ok (.goto 7, 3) := by decide +kernel
theorem dX8_play_317 : decode cX8_play 317 = .ok (.aload_n 0, 1) := by decide +kernel
theorem dX8_play_318 : decode cX8_play 318 = .ok (.getfield 197, 3) := by decide +kernel
theorem dX8_play_321 : decode cX8_play 321 = .ok (.ireturn, 1) := by decide +kernel
theorem dX8_kind_0 : decode cX8_kind 0 = .ok (.iload_n 1, 1) := by decide +kernel
theorem dX8_kind_1 : decode cX8_kind 1 = .ok (.invokestatic 121, 3) := by decide +kernel
theorem dX8_kind_4 : decode cX8_kind 4 = .ok (.ifCond .eq 25, 3) := by decide +kernel
theorem dX8_kind_7 : decode cX8_kind 7 = .ok (.iload_n 2, 1) := by decide +kernel
theorem dX8_kind_8 : decode cX8_kind 8 = .ok (.i2l, 1) := by decide +kernel
theorem dX8_kind_9 : decode cX8_kind 9 = .ok (.lconst 1, 1) := by decide +kernel
theorem dX8_kind_10 : decode cX8_kind 10 = .ok (.ldc2_w 171, 3) := by decide +kernel
theorem dX8_kind_13 : decode cX8_kind 13 = .ok (.invokestatic 49, 3) := by decide +kernel
theorem dX8_kind_16 : decode cX8_kind 16 = .ok (.ifCond .eq 13, 3) := by decide +kernel
theorem dX8_kind_19 : decode cX8_kind 19 = .ok (.iload_n 3, 1) := by decide +kernel
theorem dX8_kind_20 : decode cX8_kind 20 = .ok (.i2l, 1) := by decide +kernel
theorem dX8_kind_21 : decode cX8_kind 21 = .ok (.lconst 0, 1) := by decide +kernel
theorem dX8_kind_22 : decode cX8_kind 22 = .ok (.lconst 1, 1) := by decide +kernel
theorem dX8_kind_23 : decode cX8_kind 23 = .ok (.invokestatic 49, 3) := by decide +kernel
theorem dX8_kind_26 : decode cX8_kind 26 = .ok (.ifCond .ne 5, 3) := by decide +kernel
theorem dX8_kind_29 : decode cX8_kind 29 = .ok (.iconst (-1), 1) := by decide +kernel
theorem dX8_kind_30 : decode cX8_kind 30 = .ok (.ireturn, 1) := by decide +kernel
theorem dX8_kind_31 : decode cX8_kind 31 = .ok (.aload_n 0, 1) := by decide +kernel
theorem dX8_kind_32 : decode cX8_kind 32 = .ok (.invokevirtual 162, 3) := by decide +kernel
theorem dX8_kind_35 : decode cX8_kind 35 = .ok (.ifCond .eq 6, 3) := by decide +kernel
theorem dX8_kind_38 : decode cX8_kind 38 = .ok (.bipush (-2), 2) := by decide +kernel
theorem dX8_kind_40 : decode cX8_kind 40 = .ok (.ireturn, 1) := by decide +kernel
theorem dX8_kind_41 : decode cX8_kind 41 = .ok (.aload_n 0, 1) := by decide +kernel
theorem dX8_kind_42 : decode cX8_kind 42 = .ok (.iconst 0, 1) := by decide +kernel
theorem dX8_kind_43 : decode cX8_kind 43 = .ok (.putfield 203, 3) := by decide +kernel
theorem dX8_kind_46 : decode cX8_kind 46 = .ok (.iconst (-1), 1) := by decide +kernel
theorem dX8_kind_47 : decode cX8_kind 47 = .ok (.istore 4, 2) := by decide +kernel
theorem dX8_kind_49 : decode cX8_kind 49 = .ok (.iconst 0, 1) := by decide +kernel
theorem dX8_kind_50 : decode cX8_kind 50 = .ok (.istore 5, 2) := by decide +kernel
theorem dX8_kind_52 : decode cX8_kind 52 = .ok (.iload 5, 2) := by decide +kernel
theorem dX8_kind_54 : decode cX8_kind 54 = .ok (.iconst 5, 1) := by decide +kernel
theorem dX8_kind_55 : decode cX8_kind 55 = .ok (.if_icmp .ge 86, 3) := by decide +kernel
theorem dX8_kind_58 : decode cX8_kind 58 = .ok (.aload_n 0, 1) := by decide +kernel
theorem dX8_kind_59 : decode cX8_kind 59 = .ok (.iconst 0, 1) := by decide +kernel
theorem dX8_kind_60 : decode cX8_kind 60 = .ok (.sipush 143, 3) := by decide +kernel
theorem dX8_kind_63 : decode cX8_kind 63 = .ok (.invokevirtual 101, 3) := by decide +kernel
theorem dX8_kind_66 : decode cX8_kind 66 = .ok (.aload_n 0, 1) := by decide +kernel
theorem dX8_kind_67 : decode cX8_kind 67 = .ok (.getfield 16, 3) := by decide +kernel
theorem dX8_kind_70 : decode cX8_kind 70 = .ok (.sipush 143, 3) := by decide +kernel
theorem dX8_kind_73 : decode cX8_kind 73 = .ok (.iload_n 1, 1) := by decide +kernel
theorem dX8_kind_74 : decode cX8_kind 74 = .ok (.iadd, 1) := by decide +kernel
theorem dX8_kind_75 : decode cX8_kind 75 = .ok (.iload 5, 2) := by decide +kernel
theorem dX8_kind_77 : decode cX8_kind 77 = .ok (.iastore, 1) := by decide +kernel
theorem dX8_kind_78 : decode cX8_kind 78 = .ok (.aload_n 0, 1) := by decide +kernel
theorem dX8_kind_79 : decode cX8_kind 79 = .ok (.iload_n 2, 1) := by decide +kernel
theorem dX8_kind_80 : decode cX8_kind 80 = .ok (.invokevirtual 177, 3) := by decide +kernel
theorem dX8_kind_83 : decode cX8_kind 83 = .ok (.istore 6, 2) := by decide +kernel
theorem dX8_kind_85 : decode cX8_kind 85 = .ok (.iload 6, 2) := by decide +kernel
theorem dX8_kind_87 : decode cX8_kind 87 = .ok (.ifCond .ge 7, 3) := by decide +kernel
theorem dX8_kind_90 : decode cX8_kind 90 = .ok (.iconst 0, 1) := by decide +kernel
theorem dX8_kind_91 : decode cX8_kind 91 = .ok (.goto 13, 3) := by decide +kernel
theorem dX8_kind_94 : decode cX8_kind 94 = .ok (.aload_n 0, 1) := by decide +kernel
theorem dX8_kind_95 : decode cX8_kind 95 = .ok (.getfield 16, 3) := by decide +kernel
theorem dX8_kind_98 : decode cX8_kind 98 = .ok (.sipush 145, 3) := by decide +kernel
theorem dX8_kind_101 : decode cX8_kind 101 = .ok (.iload_n 1, 1) := by decide +kernel
theorem dX8_kind_102 : decode cX8_kind 102 = .ok (.iadd, 1) := by decide +kernel
theorem dX8_kind_103 : decode cX8_kind 103 = .ok (.iaload, 1) := by decide +kernel
theorem dX8_kind_104 : decode cX8_kind 104 = .ok (.istore 7, 2) := by decide +kernel
theorem dX8_kind_106 : decode cX8_kind 106 = .ok (.aload_n 0, 1) := by decide +kernel
theorem dX8_kind_107 : decode cX8_kind 107 = .ok (.iload 7, 2) := by decide +kernel
theorem dX8_kind_109 : decode cX8_kind 109 = .ok (.iload 4, 2) := by decide +kernel
theorem dX8_kind_111 : decode cX8_kind 111 = .ok (.if_icmp .le 8, 3) := by decide +kernel
theorem dX8_kind_114 : decode cX8_kind 114 = .ok (.iload 5, 2) := by decide +kernel
theorem dX8_kind_116 : decode cX8_kind 116 = .ok (.goto 7, 3) := by decide +kernel
theorem dX8_kind_119 : decode cX8_kind 119 = .ok (.aload_n 0, 1) := by decide +kernel
theorem dX8_kind_120 : decode cX8_kind 120 = .ok (.getfield 203, 3) := by decide +kernel
theorem dX8_kind_123 : decode cX8_kind 123 = .ok (.putfield 203, 3) := by decide +kernel
theorem dX8_kind_126 : decode cX8_kind 126 = .ok (.iload 4, 2) := by decide +kernel
theorem dX8_kind_128 : decode cX8_kind 128 = .ok (.iload 7, 2) := by decide +kernel
theorem dX8_kind_130 : decode cX8_kind 130 = .ok (.invokestatic 133, 3) := by decide +kernel
theorem dX8_kind_133 : decode cX8_kind 133 = .ok (.istore 4, 2) := by decide +kernel
theorem dX8_kind_135 : decode cX8_kind 135 = .ok (.iinc 5 1, 3) := by decide +kernel
theorem dX8_kind_138 : decode cX8_kind 138 = .ok (.goto (-86), 3) := by decide +kernel
theorem dX8_kind_141 : decode cX8_kind 141 = .ok (.iload_n 3, 1) := by decide +kernel
theorem dX8_kind_142 : decode cX8_kind 142 = .ok (.ifCond .ne 10, 3) := by decide +kernel
theorem dX8_kind_145 : decode cX8_kind 145 = .ok (.aload_n 0, 1) := by decide +kernel
theorem dX8_kind_146 : decode cX8_kind 146 = .ok (.getfield 203, 3) := by decide +kernel
theorem dX8_kind_149 : decode cX8_kind 149 = .ok (.goto 5, 3) := by decide +kernel
theorem dX8_kind_152 : decode cX8_kind 152 = .ok (.iload 4, 2) := by decide +kernel
theorem dX8_kind_154 : decode cX8_kind 154 = .ok (.ireturn, 1) := by decide +kernel
theorem dX8_see_0 : decode cX8_see 0 = .ok (.iload_n 1, 1) := by decide +kernel
theorem dX8_see_1 : decode cX8_see 1 = .ok (.invokestatic 121, 3) := by decide +kernel
theorem dX8_see_4 : decode cX8_see 4 = .ok (.ifCond .eq 27, 3) := by decide +kernel
theorem dX8_see_7 : decode cX8_see 7 = .ok (.iload_n 2, 1) := by decide +kernel
theorem dX8_see_8 : decode cX8_see 8 = .ok (.i2l, 1) := by decide +kernel
theorem dX8_see_9 : decode cX8_see 9 = .ok (.lconst 1, 1) := by decide +kernel
theorem dX8_see_10 : decode cX8_see 10 = .ok (.ldc2_w 171, 3) := by decide +kernel
theorem dX8_see_13 : decode cX8_see 13 = .ok (.invokestatic 49, 3) := by decide +kernel
theorem dX8_see_16 : decode cX8_see 16 = .ok (.ifCond .eq 15, 3) := by decide +kernel
theorem dX8_see_19 : decode cX8_see 19 = .ok (.iload_n 3, 1) := by decide +kernel
theorem dX8_see_20 : decode cX8_see 20 = .ok (.i2l, 1) := by decide +kernel
theorem dX8_see_21 : decode cX8_see 21 = .ok (.lconst 0, 1) := by decide +kernel
theorem dX8_see_22 : decode cX8_see 22 = .ok (.ldc2_w 206, 3) := by decide +kernel
theorem dX8_see_25 : decode cX8_see 25 = .ok (.invokestatic 49, 3) := by decide +kernel
theorem dX8_see_28 : decode cX8_see 28 = .ok (.ifCond .ne 5, 3) := by decide +kernel
theorem dX8_see_31 : decode cX8_see 31 = .ok (.iconst (-1), 1) := by decide +kernel
theorem dX8_see_32 : decode cX8_see 32 = .ok (.ireturn, 1) := by decide +kernel
theorem dX8_see_33 : decode cX8_see 33 = .ok (.aload_n 0, 1) := by decide +kernel
theorem dX8_see_34 : decode cX8_see 34 = .ok (.getfield 111, 3) := by decide +kernel
theorem dX8_see_37 : decode cX8_see 37 = .ok (.bipush 6, 2) := by decide +kernel
theorem dX8_see_39 : decode cX8_see 39 = .ok (.if_icmp .ne 6, 3) := by decide +kernel
theorem dX8_see_42 : decode cX8_see 42 = .ok (.bipush (-3), 2) := by decide +kernel
theorem dX8_see_44 : decode cX8_see 44 = .ok (.ireturn, 1) := by decide +kernel
theorem dX8_see_45 : decode cX8_see 45 = .ok (.aload_n 0, 1) := by decide +kernel
theorem dX8_see_46 : decode cX8_see 46 = .ok (.getfield 23, 3) := by decide +kernel
theorem dX8_see_49 : decode cX8_see 49 = .ok (.aload_n 0, 1) := by decide +kernel
theorem dX8_see_50 : decode cX8_see 50 = .ok (.getfield 111, 3) := by decide +kernel
theorem dX8_see_53 : decode cX8_see 53 = .ok (.iload_n 1, 1) := by decide +kernel
theorem dX8_see_54 : decode cX8_see 54 = .ok (.iastore, 1) := by decide +kernel
theorem dX8_see_55 : decode cX8_see 55 = .ok (.aload_n 0, 1) := by decide +kernel
theorem dX8_see_56 : decode cX8_see 56 = .ok (.getfield 26, 3) := by decide +kernel
theorem dX8_see_59 : decode cX8_see 59 = .ok (.aload_n 0, 1) := by decide +kernel
theorem dX8_see_60 : decode cX8_see 60 = .ok (.getfield 111, 3) := by decide +kernel
theorem dX8_see_63 : decode cX8_see 63 = .ok (.iload_n 2, 1) := by decide +kernel
theorem dX8_see_64 : decode cX8_see 64 = .ok (.iastore, 1) := by decide +kernel
theorem dX8_see_65 : decode cX8_see 65 = .ok (.aload_n 0, 1) := by decide +kernel
theorem dX8_see_66 : decode cX8_see 66 = .ok (.getfield 29, 3) := by decide +kernel
theorem dX8_see_69 : decode cX8_see 69 = .ok (.aload_n 0, 1) := by decide +kernel
theorem dX8_see_70 : decode cX8_see 70 = .ok (.getfield 111, 3) := by decide +kernel
theorem dX8_see_73 : decode cX8_see 73 = .ok (.iload_n 3, 1) := by decide +kernel
theorem dX8_see_74 : decode cX8_see 74 = .ok (.iastore, 1) := by decide +kernel
theorem dX8_see_75 : decode cX8_see 75 = .ok (.aload_n 0, 1) := by decide +kernel
theorem dX8_see_76 : decode cX8_see 76 = .ok (.dup, 1) := by decide +kernel
theorem dX8_see_77 : decode cX8_see 77 = .ok (.getfield 111, 3) := by decide +kernel
theorem dX8_see_80 : decode cX8_see 80 = .ok (.iconst 1, 1) := by decide +kernel
theorem dX8_see_81 : decode cX8_see 81 = .ok (.iadd, 1) := by decide +kernel
theorem dX8_see_82 : decode cX8_see 82 = .ok (.putfield 111, 3) := by decide +kernel
theorem dX8_see_85 : decode cX8_see 85 = .ok (.aload_n 0, 1) := by decide +kernel
theorem dX8_see_86 : decode cX8_see 86 = .ok (.getfield 111, 3) := by decide +kernel
theorem dX8_see_89 : decode cX8_see 89 = .ok (.ireturn, 1) := by decide +kernel
theorem dX8_forget_0 : decode cX8_forget 0 = .ok (.aload_n 0, 1) := by decide +kernel
theorem dX8_forget_1 : decode cX8_forget 1 = .ok (.getfield 111, 3) := by decide +kernel
theorem dX8_forget_4 : decode cX8_forget 4 = .ok (.istore_n 1, 1) := by decide +kernel
theorem dX8_forget_5 : decode cX8_forget 5 = .ok (.aload_n 0, 1) := by decide +kernel
theorem dX8_forget_6 : decode cX8_forget 6 = .ok (.iconst 0, 1) := by decide +kernel
theorem dX8_forget_7 : decode cX8_forget 7 = .ok (.putfield 111, 3) := by decide +kernel
theorem dX8_forget_10 : decode cX8_forget 10 = .ok (.iload_n 1, 1) := by decide +kernel
theorem dX8_forget_11 : decode cX8_forget 11 = .ok (.ireturn, 1) := by decide +kernel
theorem dX8_isSo_0 : decode cX8_isSo 0 = .ok (.iconst 1, 1) := by decide +kernel
theorem dX8_isSo_1 : decode cX8_isSo 1 = .ok (.istore_n 3, 1) := by decide +kernel
theorem dX8_isSo_2 : decode cX8_isSo 2 = .ok (.iconst 1, 1) := by decide +kernel
theorem dX8_isSo_3 : decode cX8_isSo 3 = .ok (.istore 4, 2) := by decide +kernel
theorem dX8_isSo_5 : decode cX8_isSo 5 = .ok (.iload 4, 2) := by decide +kernel
theorem dX8_isSo_7 : decode cX8_isSo 7 = .ok (.bipush 24, 2) := by decide +kernel
theorem dX8_isSo_9 : decode cX8_isSo 9 = .ok (.if_icmp .gt 109, 3) := by decide +kernel
theorem dX8_isSo_12 : decode cX8_isSo 12 = .ok (.iload 4, 2) := by decide +kernel
theorem dX8_isSo_14 : decode cX8_isSo 14 = .ok (.iconst 1, 1) := by decide +kernel
theorem dX8_isSo_15 : decode cX8_isSo 15 = .ok (.if_icmp .ne 15, 3) := by decide +kernel
theorem dX8_isSo_18 : decode cX8_isSo 18 = .ok (.aload_n 0, 1) := by decide +kernel
theorem dX8_isSo_19 : decode cX8_isSo 19 = .ok (.sipush 143, 3) := by decide +kernel
theorem dX8_isSo_22 : decode cX8_isSo 22 = .ok (.iload_n 1, 1) := by decide +kernel
theorem dX8_isSo_23 : decode cX8_isSo 23 = .ok (.iload_n 2, 1) := by decide +kernel
theorem dX8_isSo_24 : decode cX8_isSo 24 = .ok (.invokevirtual 168, 3) := by decide +kernel
theorem dX8_isSo_27 : decode cX8_isSo 27 = .ok (.goto 12, 3) := by decide +kernel
theorem dX8_isSo_30 : decode cX8_isSo 30 = .ok (.aload_n 0, 1) := by decide +kernel
theorem dX8_isSo_31 : decode cX8_isSo 31 = .ok (.sipush 143, 3) := by decide +kernel
theorem dX8_isSo_34 : decode cX8_isSo 34 = .ok (.iconst 0, 1) := by decide +kernel
theorem dX8_isSo_35 : decode cX8_isSo 35 = .ok (.iconst 0, 1) := by decide +kernel
theorem dX8_isSo_36 : decode cX8_isSo 36 = .ok (.invokevirtual 168, 3) := by decide +kernel
theorem dX8_isSo_39 : decode cX8_isSo 39 = .ok (.istore 5, 2) := by decide +kernel
theorem dX8_isSo_41 : decode cX8_isSo 41 = .ok (.iconst 0, 1) := by decide +kernel
theorem dX8_isSo_42 : decode cX8_isSo 42 = .ok (.istore 6, 2) := by decide +kernel
theorem dX8_isSo_44 : decode cX8_isSo 44 = .ok (.iload 6, 2) := by decide +kernel
theorem dX8_isSo_46 : decode cX8_isSo 46 = .ok (.aload_n 0, 1) := by decide +kernel
theorem dX8_isSo_47 : decode cX8_isSo 47 = .ok (.getfield 111, 3) := by decide +kernel
theorem dX8_isSo_50 : decode cX8_isSo 50 = .ok (.if_icmp .ge 62, 3) := by decide +kernel
theorem dX8_isSo_53 : decode cX8_isSo 53 = .ok (.iload_n 3, 1) := by decide +kernel
theorem dX8_isSo_54 : decode cX8_isSo 54 = .ok (.ifCond .eq 50, 3) := by decide +kernel
theorem dX8_isSo_57 : decode cX8_isSo 57 = .ok (.iload 5, 2) := by decide +kernel
theorem dX8_isSo_59 : decode cX8_isSo 59 = .ok (.ifCond .lt 45, 3) := by decide +kernel
theorem dX8_isSo_62 : decode cX8_isSo 62 = .ok (.aload_n 0, 1) := by decide +kernel
theorem dX8_isSo_63 : decode cX8_isSo 63 = .ok (.getfield 26, 3) := by decide +kernel
theorem dX8_isSo_66 : decode cX8_isSo 66 = .ok (.iload 6, 2) := by decide +kernel
theorem dX8_isSo_68 : decode cX8_isSo 68 = .ok (.iaload, 1) := by decide +kernel
theorem dX8_isSo_69 : decode cX8_isSo 69 = .ok (.iload 4, 2) := by decide +kernel
theorem dX8_isSo_71 : decode cX8_isSo 71 = .ok (.if_icmp .ne 29, 3) := by decide +kernel
theorem dX8_isSo_74 : decode cX8_isSo 74 = .ok (.aload_n 0, 1) := by decide +kernel
theorem dX8_isSo_75 : decode cX8_isSo 75 = .ok (.getfield 16, 3) := by decide +kernel
theorem dX8_isSo_78 : decode cX8_isSo 78 = .ok (.sipush 145, 3) := by decide +kernel
theorem dX8_isSo_81 : decode cX8_isSo 81 = .ok (.aload_n 0, 1) := by decide +kernel
theorem dX8_isSo_82 : decode cX8_isSo 82 = .ok (.getfield 23, 3) := by decide +kernel
theorem dX8_isSo_85 : decode cX8_isSo 85 = .ok (.iload 6, 2) := by decide +kernel
theorem dX8_isSo_87 : decode cX8_isSo 87 = .ok (.iaload, 1) := by decide +kernel
theorem dX8_isSo_88 : decode cX8_isSo 88 = .ok (.iadd, 1) := by decide +kernel
theorem dX8_isSo_89 : decode cX8_isSo 89 = .ok (.iaload, 1) := by decide +kernel
theorem dX8_isSo_90 : decode cX8_isSo 90 = .ok (.aload_n 0, 1) := by decide +kernel
theorem dX8_isSo_91 : decode cX8_isSo 91 = .ok (.getfield 29, 3) := by decide +kernel
theorem dX8_isSo_94 : decode cX8_isSo 94 = .ok (.iload 6, 2) := by decide +kernel
theorem dX8_isSo_96 : decode cX8_isSo 96 = .ok (.iaload, 1) := by decide +kernel
theorem dX8_isSo_97 : decode cX8_isSo 97 = .ok (.if_icmp .ne 7, 3) := by decide +kernel
theorem dX8_isSo_100 : decode cX8_isSo 100 = .ok (.iconst 1, 1) := by decide +kernel
theorem dX8_isSo_101 : decode cX8_isSo 101 = .ok (.goto 4, 3) := by decide +kernel
theorem dX8_isSo_104 : decode cX8_isSo 104 = .ok (.iconst 0, 1) := by decide +kernel
theorem dX8_isSo_105 : decode cX8_isSo 105 = .ok (.istore_n 3, 1) := by decide +kernel
theorem dX8_isSo_106 : decode cX8_isSo 106 = .ok (.iinc 6 1, 3) := by decide +kernel
theorem dX8_isSo_109 : decode cX8_isSo 109 = .ok (.goto (-65), 3) := by decide +kernel
theorem dX8_isSo_112 : decode cX8_isSo 112 = .ok (.iinc 4 1, 3) := by decide +kernel
theorem dX8_isSo_115 : decode cX8_isSo 115 = .ok (.goto (-110), 3) := by decide +kernel
theorem dX8_isSo_118 : decode cX8_isSo 118 = .ok (.iload_n 3, 1) := by decide +kernel
theorem dX8_isSo_119 : decode cX8_isSo 119 = .ok (.ireturn, 1) := by decide +kernel
theorem dX8_did_0 : decode cX8_did 0 = .ok (.iload_n 1, 1) := by decide +kernel
theorem dX8_did_1 : decode cX8_did 1 = .ok (.invokestatic 121, 3) := by decide +kernel
theorem dX8_did_4 : decode cX8_did 4 = .ok (.ifCond .ne 5, 3) := by decide +kernel
theorem dX8_did_7 : decode cX8_did 7 = .ok (.iconst (-1), 1) := by decide +kernel
theorem dX8_did_8 : decode cX8_did 8 = .ok (.ireturn, 1) := by decide +kernel
theorem dX8_did_9 : decode cX8_did 9 = .ok (.aload_n 0, 1) := by decide +kernel
theorem dX8_did_10 : decode cX8_did 10 = .ok (.invokevirtual 162, 3) := by decide +kernel
theorem dX8_did_13 : decode cX8_did 13 = .ok (.ifCond .eq 6, 3) := by decide +kernel
theorem dX8_did_16 : decode cX8_did 16 = .ok (.bipush (-2), 2) := by decide +kernel
theorem dX8_did_18 : decode cX8_did 18 = .ok (.ireturn, 1) := by decide +kernel
theorem dX8_did_19 : decode cX8_did 19 = .ok (.iconst 0, 1) := by decide +kernel
theorem dX8_did_20 : decode cX8_did 20 = .ok (.istore_n 2, 1) := by decide +kernel
theorem dX8_did_21 : decode cX8_did 21 = .ok (.iconst 0, 1) := by decide +kernel
theorem dX8_did_22 : decode cX8_did 22 = .ok (.istore_n 3, 1) := by decide +kernel
theorem dX8_did_23 : decode cX8_did 23 = .ok (.iload_n 3, 1) := by decide +kernel
theorem dX8_did_24 : decode cX8_did 24 = .ok (.iconst 5, 1) := by decide +kernel
theorem dX8_did_25 : decode cX8_did 25 = .ok (.if_icmp .ge 52, 3) := by decide +kernel
theorem dX8_did_28 : decode cX8_did 28 = .ok (.aload_n 0, 1) := by decide +kernel
theorem dX8_did_29 : decode cX8_did 29 = .ok (.iconst 0, 1) := by decide +kernel
theorem dX8_did_30 : decode cX8_did 30 = .ok (.sipush 143, 3) := by decide +kernel
theorem dX8_did_33 : decode cX8_did 33 = .ok (.invokevirtual 101, 3) := by decide +kernel
theorem dX8_did_36 : decode cX8_did 36 = .ok (.iload_n 2, 1) := by decide +kernel
theorem dX8_did_37 : decode cX8_did 37 = .ok (.aload_n 0, 1) := by decide +kernel
theorem dX8_did_38 : decode cX8_did 38 = .ok (.iload_n 1, 1) := by decide +kernel
theorem dX8_did_39 : decode cX8_did 39 = .ok (.ifCond .ne 7, 3) := by decide +kernel
theorem dX8_did_42 : decode cX8_did 42 = .ok (.iload_n 3, 1) := by decide +kernel
theorem dX8_did_43 : decode cX8_did 43 = .ok (.goto 4, 3) := by decide +kernel
theorem dX8_did_46 : decode cX8_did 46 = .ok (.iconst 0, 1) := by decide +kernel
theorem dX8_did_47 : decode cX8_did 47 = .ok (.iload_n 1, 1) := by decide +kernel
theorem dX8_did_48 : decode cX8_did 48 = .ok (.ifCond .ne 7, 3) := by decide +kernel
theorem dX8_did_51 : decode cX8_did 51 = .ok (.iconst 0, 1) := by decide +kernel
theorem dX8_did_52 : decode cX8_did 52 = .ok (.goto 4, 3) := by decide +kernel
theorem dX8_did_55 : decode cX8_did 55 = .ok (.iload_n 3, 1) := by decide +kernel
theorem dX8_did_56 : decode cX8_did 56 = .ok (.invokevirtual 208, 3) := by decide +kernel
theorem dX8_did_59 : decode cX8_did 59 = .ok (.ifCond .eq 9, 3) := by decide +kernel
theorem dX8_did_62 : decode cX8_did 62 = .ok (.iconst 1, 1) := by decide +kernel
theorem dX8_did_63 : decode cX8_did 63 = .ok (.iload_n 3, 1) := by decide +kernel
theorem dX8_did_64 : decode cX8_did 64 = .ok (.ishl, 1) := by decide +kernel
theorem dX8_did_65 : decode cX8_did 65 = .ok (.goto 4, 3) := by decide +kernel
theorem dX8_did_68 : decode cX8_did 68 = .ok (.iconst 0, 1) := by decide +kernel
theorem dX8_did_69 : decode cX8_did 69 = .ok (.ior, 1) := by decide +kernel
theorem dX8_did_70 : decode cX8_did 70 = .ok (.istore_n 2, 1) := by decide +kernel
theorem dX8_did_71 : decode cX8_did 71 = .ok (.iinc 3 1, 3) := by decide +kernel
theorem dX8_did_74 : decode cX8_did 74 = .ok (.goto (-51), 3) := by decide +kernel
theorem dX8_did_77 : decode cX8_did 77 = .ok (.iload_n 2, 1) := by decide +kernel
theorem dX8_did_78 : decode cX8_did 78 = .ok (.ireturn, 1) := by decide +kernel
theorem dX8_was_0 : decode cX8_was 0 = .ok (.iload_n 1, 1) := by decide +kernel
theorem dX8_was_1 : decode cX8_was 1 = .ok (.invokestatic 121, 3) := by decide +kernel
theorem dX8_was_4 : decode cX8_was 4 = .ok (.ifCond .ne 5, 3) := by decide +kernel
theorem dX8_was_7 : decode cX8_was 7 = .ok (.iconst (-1), 1) := by decide +kernel
theorem dX8_was_8 : decode cX8_was 8 = .ok (.ireturn, 1) := by decide +kernel
theorem dX8_was_9 : decode cX8_was 9 = .ok (.aload_n 0, 1) := by decide +kernel
theorem dX8_was_10 : decode cX8_was 10 = .ok (.invokevirtual 162, 3) := by decide +kernel
theorem dX8_was_13 : decode cX8_was 13 = .ok (.ifCond .eq 6, 3) := by decide +kernel
theorem dX8_was_16 : decode cX8_was 16 = .ok (.bipush (-2), 2) := by decide +kernel
theorem dX8_was_18 : decode cX8_was 18 = .ok (.ireturn, 1) := by decide +kernel
theorem dX8_was_19 : decode cX8_was 19 = .ok (.iconst 0, 1) := by decide +kernel
theorem dX8_was_20 : decode cX8_was 20 = .ok (.istore_n 2, 1) := by decide +kernel
theorem dX8_was_21 : decode cX8_was 21 = .ok (.iconst 0, 1) := by decide +kernel
theorem dX8_was_22 : decode cX8_was 22 = .ok (.istore_n 3, 1) := by decide +kernel
theorem dX8_was_23 : decode cX8_was 23 = .ok (.iload_n 3, 1) := by decide +kernel
theorem dX8_was_24 : decode cX8_was 24 = .ok (.iconst 5, 1) := by decide +kernel
theorem dX8_was_25 : decode cX8_was 25 = .ok (.if_icmp .ge 47, 3) := by decide +kernel
theorem dX8_was_28 : decode cX8_was 28 = .ok (.aload_n 0, 1) := by decide +kernel
theorem dX8_was_29 : decode cX8_was 29 = .ok (.iconst 0, 1) := by decide +kernel
theorem dX8_was_30 : decode cX8_was 30 = .ok (.sipush 143, 3) := by decide +kernel
theorem dX8_was_33 : decode cX8_was 33 = .ok (.invokevirtual 101, 3) := by decide +kernel
theorem dX8_was_36 : decode cX8_was 36 = .ok (.aload_n 0, 1) := by decide +kernel
theorem dX8_was_37 : decode cX8_was 37 = .ok (.getfield 16, 3) := by decide +kernel
theorem dX8_was_40 : decode cX8_was 40 = .ok (.sipush 143, 3) := by decide +kernel
theorem dX8_was_43 : decode cX8_was 43 = .ok (.iload_n 1, 1) := by decide +kernel
theorem dX8_was_44 : decode cX8_was 44 = .ok (.iadd, 1) := by decide +kernel
theorem dX8_was_45 : decode cX8_was 45 = .ok (.iload_n 3, 1) := by decide +kernel
theorem dX8_was_46 : decode cX8_was 46 = .ok (.iastore, 1) := by decide +kernel
theorem dX8_was_47 : decode cX8_was 47 = .ok (.iload_n 2, 1) := by decide +kernel
theorem dX8_was_48 : decode cX8_was 48 = .ok (.aload_n 0, 1) := by decide +kernel
theorem dX8_was_49 : decode cX8_was 49 = .ok (.iconst 0, 1) := by decide +kernel
theorem dX8_was_50 : decode cX8_was 50 = .ok (.iconst 0, 1) := by decide +kernel
theorem dX8_was_51 : decode cX8_was 51 = .ok (.invokevirtual 208, 3) := by decide +kernel
theorem dX8_was_54 : decode cX8_was 54 = .ok (.ifCond .eq 9, 3) := by decide +kernel
theorem dX8_was_57 : decode cX8_was 57 = .ok (.iconst 1, 1) := by decide +kernel
theorem dX8_was_58 : decode cX8_was 58 = .ok (.iload_n 3, 1) := by decide +kernel
theorem dX8_was_59 : decode cX8_was 59 = .ok (.ishl, 1) := by decide +kernel
theorem dX8_was_60 : decode cX8_was 60 = .ok (.goto 4, 3) := by decide +kernel
theorem dX8_was_63 : decode cX8_was 63 = .ok (.iconst 0, 1) := by decide +kernel
theorem dX8_was_64 : decode cX8_was 64 = .ok (.ior, 1) := by decide +kernel
theorem dX8_was_65 : decode cX8_was 65 = .ok (.istore_n 2, 1) := by decide +kernel
theorem dX8_was_66 : decode cX8_was 66 = .ok (.iinc 3 1, 3) := by decide +kernel
theorem dX8_was_69 : decode cX8_was 69 = .ok (.goto (-46), 3) := by decide +kernel
theorem dX8_was_72 : decode cX8_was 72 = .ok (.iload_n 2, 1) := by decide +kernel
theorem dX8_was_73 : decode cX8_was 73 = .ok (.ireturn, 1) := by decide +kernel
theorem dX8_drought_0 : decode cX8_drought 0 = .ok (.iload_n 1, 1) := by decide +kernel
theorem dX8_drought_1 : decode cX8_drought 1 = .ok (.invokestatic 121, 3) := by decide +kernel
theorem dX8_drought_4 : decode cX8_drought 4 = .ok (.ifCond .eq 38, 3) := by decide +kernel
theorem dX8_drought_7 : decode cX8_drought 7 = .ok (.iload_n 2, 1) := by decide +kernel
theorem dX8_drought_8 : decode cX8_drought 8 = .ok (.i2l, 1) := by decide +kernel
theorem dX8_drought_9 : decode cX8_drought 9 = .ok (.lconst 0, 1) := by decide +kernel
theorem dX8_drought_10 : decode cX8_drought 10 = .ok (.ldc2_w 211, 3) := by decide +kernel
theorem dX8_drought_13 : decode cX8_drought 13 = .ok (.invokestatic 49, 3) := by decide +kernel
theorem dX8_drought_16 : decode cX8_drought 16 = .ok (.ifCond .eq 26, 3) := by decide +kernel
theorem dX8_drought_19 : decode cX8_drought 19 = .ok (.iload_n 3, 1) := by decide +kernel
theorem dX8_drought_20 : decode cX8_drought 20 = .ok (.i2l, 1) := by decide +kernel
theorem dX8_drought_21 : decode cX8_drought 21 = .ok (.lconst 0, 1) := by decide +kernel
theorem dX8_drought_22 : decode cX8_drought 22 = .ok (.ldc2_w 213, 3) := by decide +kernel
theorem dX8_drought_25 : decode cX8_drought 25 = .ok (.invokestatic 49, 3) := by decide +kernel
theorem dX8_drought_28 : decode cX8_drought 28 = .ok (.ifCond .eq 14, 3) := by decide +kernel
theorem dX8_drought_31 : decode cX8_drought 31 = .ok (.iload 4, 2) := by decide +kernel
theorem dX8_drought_33 : decode cX8_drought 33 = .ok (.i2l, 1) := by decide +kernel
theorem dX8_drought_34 : decode cX8_drought 34 = .ok (.lconst 0, 1) := by decide +kernel
theorem dX8_drought_35 : decode cX8_drought 35 = .ok (.lconst 1, 1) := by decide +kernel
theorem dX8_drought_36 : decode cX8_drought 36 = .ok (.invokestatic 49, 3) := by decide +kernel
theorem dX8_drought_39 : decode cX8_drought 39 = .ok (.ifCond .ne 5, 3) := by decide +kernel
theorem dX8_drought_42 : decode cX8_drought 42 = .ok (.iconst (-1), 1) := by decide +kernel
theorem dX8_drought_43 : decode cX8_drought 43 = .ok (.ireturn, 1) := by decide +kernel
theorem dX8_drought_44 : decode cX8_drought 44 = .ok (.iconst 0, 1) := by decide +kernel
theorem dX8_drought_45 : decode cX8_drought 45 = .ok (.istore 5, 2) := by decide +kernel
theorem dX8_drought_47 : decode cX8_drought 47 = .ok (.iconst 0, 1) := by decide +kernel
theorem dX8_drought_48 : decode cX8_drought 48 = .ok (.istore 6, 2) := by decide +kernel
theorem dX8_drought_50 : decode cX8_drought 50 = .ok (.iconst 0, 1) := by decide +kernel
theorem dX8_drought_51 : decode cX8_drought 51 = .ok (.istore 7, 2) := by decide +kernel
theorem dX8_drought_53 : decode cX8_drought 53 = .ok (.iload 7, 2) := by decide +kernel
theorem dX8_drought_55 : decode cX8_drought 55 = .ok (.iconst 1, 1) := by decide +kernel
theorem dX8_drought_56 : decode cX8_drought 56 = .ok (.iload_n 2, 1) := by decide +kernel
theorem dX8_drought_57 : decode cX8_drought 57 = .ok (.ishl, 1) := by decide +kernel
theorem dX8_drought_58 : decode cX8_drought 58 = .ok (.if_icmp .ge 125, 3) := by decide +kernel
theorem dX8_drought_61 : decode cX8_drought 61 = .ok (.iconst 1, 1) := by decide +kernel
theorem dX8_drought_62 : decode cX8_drought 62 = .ok (.istore 8, 2) := by decide +kernel
theorem dX8_drought_64 : decode cX8_drought 64 = .ok (.iconst 0, 1) := by decide +kernel
theorem dX8_drought_65 : decode cX8_drought 65 = .ok (.istore 9, 2) := by decide +kernel
theorem dX8_drought_67 : decode cX8_drought 67 = .ok (.aload_n 0, 1) := by decide +kernel
theorem dX8_drought_68 : decode cX8_drought 68 = .ok (.iconst 0, 1) := by decide +kernel
theorem dX8_drought_69 : decode cX8_drought 69 = .ok (.sipush 143, 3) := by decide +kernel
theorem dX8_drought_72 : decode cX8_drought 72 = .ok (.invokevirtual 101, 3) := by decide +kernel
theorem dX8_drought_75 : decode cX8_drought 75 = .ok (.iconst 0, 1) := by decide +kernel
theorem dX8_drought_76 : decode cX8_drought 76 = .ok (.istore 10, 2) := by decide +kernel
theorem dX8_drought_78 : decode cX8_drought 78 = .ok (.iload 10, 2) := by decide +kernel
theorem dX8_drought_80 : decode cX8_drought 80 = .ok (.iload_n 2, 1) := by decide +kernel
theorem dX8_drought_81 : decode cX8_drought 81 = .ok (.if_icmp .ge 61, 3) := by decide +kernel
theorem dX8_drought_84 : decode cX8_drought 84 = .ok (.iload 7, 2) := by decide +kernel
theorem dX8_drought_86 : decode cX8_drought 86 = .ok (.iload 10, 2) := by decide +kernel
theorem dX8_drought_88 : decode cX8_drought 88 = .ok (.ishr, 1) := by decide +kernel
theorem dX8_drought_89 : decode cX8_drought 89 = .ok (.iconst 1, 1) := by decide +kernel
theorem dX8_drought_90 : decode cX8_drought 90 = .ok (.iand, 1) := by decide +kernel
theorem dX8_drought_91 : decode cX8_drought 91 = .ok (.iconst 1, 1) := by decide +kernel
theorem dX8_drought_92 : decode cX8_drought 92 = .ok (.if_icmp .ne 7, 3) := by decide +kernel
theorem dX8_drought_95 : decode cX8_drought 95 = .ok (.iconst 1, 1) := by decide +kernel
theorem dX8_drought_96 : decode cX8_drought 96 = .ok (.goto 4, 3) := by decide +kernel
theorem dX8_drought_99 : decode cX8_drought 99 = .ok (.iconst 0, 1) := by decide +kernel
theorem dX8_drought_100 : decode cX8_drought 100 = .ok (.istore 11, 2) := by decide +kernel
theorem dX8_drought_102 : decode cX8_drought 102 = .ok (.iload 8, 2) := by decide +kernel
theorem dX8_drought_104 : decode cX8_drought 104 = .ok (.iload 11, 2) := by decide +kernel
theorem dX8_drought_106 : decode cX8_drought 106 = .ok (.ifCond .eq 7, 3) := by decide +kernel
theorem dX8_drought_109 : decode cX8_drought 109 = .ok (.iload_n 3, 1) := by decide +kernel
theorem dX8_drought_110 : decode cX8_drought 110 = .ok (.goto 7, 3) := by decide +kernel
theorem dX8_drought_113 : decode cX8_drought 113 = .ok (.bipush 10, 2) := by decide +kernel
theorem dX8_drought_115 : decode cX8_drought 115 = .ok (.iload_n 3, 1) := by decide +kernel
theorem dX8_drought_116 : decode cX8_drought 116 = .ok (.isub, 1) := by decide +kernel
theorem dX8_drought_117 : decode cX8_drought 117 = .ok (.imul, 1) := by decide +kernel
theorem dX8_drought_118 : decode cX8_drought 118 = .ok (.istore 8, 2) := by decide +kernel
theorem dX8_drought_120 : decode cX8_drought 120 = .ok (.iload 9, 2) := by decide +kernel
theorem dX8_drought_122 : decode cX8_drought 122 = .ok (.aload_n 0, 1) := by decide +kernel
theorem dX8_drought_123 : decode cX8_drought 123 = .ok (.sipush 143, 3) := by decide +kernel
theorem dX8_drought_126 : decode cX8_drought 126 = .ok (.iconst 0, 1) := by decide +kernel
theorem dX8_drought_127 : decode cX8_drought 127 = .ok (.iconst 0, 1) := by decide +kernel
theorem dX8_drought_128 : decode cX8_drought 128 = .ok (.iload 11, 2) := by decide +kernel
theorem dX8_drought_130 : decode cX8_drought 130 = .ok (.invokevirtual 156, 3) := by decide +kernel
theorem dX8_drought_133 : decode cX8_drought 133 = .ok (.ior, 1) := by decide +kernel
theorem dX8_drought_134 : decode cX8_drought 134 = .ok (.istore 9, 2) := by decide +kernel
theorem dX8_drought_136 : decode cX8_drought 136 = .ok (.iinc 10 1, 3) := by decide +kernel
theorem dX8_drought_139 : decode cX8_drought 139 = .ok (.goto (-61), 3) := by decide +kernel
theorem dX8_drought_142 : decode cX8_drought 142 = .ok (.iload 6, 2) := by decide +kernel
theorem dX8_drought_144 : decode cX8_drought 144 = .ok (.iload 8, 2) := by decide +kernel
theorem dX8_drought_146 : decode cX8_drought 146 = .ok (.iadd, 1) := by decide +kernel
theorem dX8_drought_147 : decode cX8_drought 147 = .ok (.istore 6, 2) := by decide +kernel
theorem dX8_drought_149 : decode cX8_drought 149 = .ok (.iload 5, 2) := by decide +kernel
theorem dX8_drought_151 : decode cX8_drought 151 = .ok (.iload 9, 2) := by decide +kernel
theorem dX8_drought_153 : decode cX8_drought 153 = .ok (.ifCond .lt 20, 3) := by decide +kernel
theorem dX8_drought_156 : decode cX8_drought 156 = .ok (.aload_n 0, 1) := by decide +kernel
theorem dX8_drought_157 : decode cX8_drought 157 = .ok (.getfield 16, 3) := by decide +kernel
theorem dX8_drought_160 : decode cX8_drought 160 = .ok (.sipush 155, 3) := by decide +kernel
theorem dX8_drought_163 : decode cX8_drought 163 = .ok (.iaload, 1) := by decide +kernel
theorem dX8_drought_164 : decode cX8_drought 164 = .ok (.iload_n 1, 1) := by decide +kernel
theorem dX8_drought_165 : decode cX8_drought 165 = .ok (.if_icmp .ne 8, 3) := by decide +kernel
theorem dX8_drought_168 : decode cX8_drought 168 = .ok (.iload 8, 2) := by decide +kernel
theorem dX8_drought_170 : decode cX8_drought 170 = .ok (.goto 4, 3) := by decide +kernel
theorem dX8_drought_173 : decode cX8_drought 173 = .ok (.iconst 0, 1) := by decide +kernel
theorem dX8_drought_174 : decode cX8_drought 174 = .ok (.iadd, 1) := by decide +kernel
theorem dX8_drought_175 : decode cX8_drought 175 = .ok (.istore 5, 2) := by decide +kernel
theorem dX8_drought_177 : decode cX8_drought 177 = .ok (.iinc 7 1, 3) := by decide +kernel
theorem dX8_drought_180 : decode cX8_drought 180 = .ok (.goto (-127), 3) := by decide +kernel
theorem dX8_drought_183 : decode cX8_drought 183 = .ok (.iload 5, 2) := by decide +kernel
theorem dX8_drought_185 : decode cX8_drought 185 = .ok (.istore 7, 2) := by decide +kernel
theorem dX8_drought_187 : decode cX8_drought 187 = .ok (.iload 6, 2) := by decide +kernel
theorem dX8_drought_189 : decode cX8_drought 189 = .ok (.istore 8, 2) := by decide +kernel
theorem dX8_drought_191 : decode cX8_drought 191 = .ok (.iload 8, 2) := by decide +kernel
theorem dX8_drought_193 : decode cX8_drought 193 = .ok (.ifCond .eq 21, 3) := by decide +kernel
theorem dX8_drought_196 : decode cX8_drought 196 = .ok (.iload 7, 2) := by decide +kernel
theorem dX8_drought_198 : decode cX8_drought 198 = .ok (.iload 8, 2) := by decide +kernel
theorem dX8_drought_200 : decode cX8_drought 200 = .ok (.irem, 1) := by decide +kernel
theorem dX8_drought_201 : decode cX8_drought 201 = .ok (.istore 9, 2) := by decide +kernel
theorem dX8_drought_203 : decode cX8_drought 203 = .ok (.iload 8, 2) := by decide +kernel
theorem dX8_drought_205 : decode cX8_drought 205 = .ok (.istore 7, 2) := by decide +kernel
theorem dX8_drought_207 : decode cX8_drought 207 = .ok (.iload 9, 2) := by decide +kernel
theorem dX8_drought_209 : decode cX8_drought 209 = .ok (.istore 8, 2) := by decide +kernel
theorem dX8_drought_211 : decode cX8_drought 211 = .ok (.goto (-20), 3) := by decide +kernel
theorem dX8_drought_214 : decode cX8_drought 214 = .ok (.iload 4, 2) := by decide +kernel
theorem dX8_drought_216 : decode cX8_drought 216 = .ok (.ifCond .ne 11, 3) := by decide +kernel
theorem dX8_drought_219 : decode cX8_drought 219 = .ok (.iload 5, 2) := by decide +kernel
theorem dX8_drought_221 : decode cX8_drought 221 = .ok (.iload 7, 2) := by decide +kernel
theorem dX8_drought_223 : decode cX8_drought 223 = .ok (.idiv, 1) := by decide +kernel
theorem dX8_drought_224 : decode cX8_drought 224 = .ok (.goto 8, 3) := by decide +kernel
theorem dX8_drought_227 : decode cX8_drought 227 = .ok (.iload 6, 2) := by decide +kernel
theorem dX8_drought_229 : decode cX8_drought 229 = .ok (.iload 7, 2) := by decide +kernel
theorem dX8_drought_231 : decode cX8_drought 231 = .ok (.idiv, 1) := by decide +kernel
theorem dX8_drought_232 : decode cX8_drought 232 = .ok (.ireturn, 1) := by decide +kernel
theorem dX8_year_0 : decode cX8_year 0 = .ok (.iload_n 1, 1) := by decide +kernel
theorem dX8_year_1 : decode cX8_year 1 = .ok (.i2l, 1) := by decide +kernel
theorem dX8_year_2 : decode cX8_year 2 = .ok (.lconst 0, 1) := by decide +kernel
theorem dX8_year_3 : decode cX8_year 3 = .ok (.ldc2_w 215, 3) := by decide +kernel
theorem dX8_year_6 : decode cX8_year 6 = .ok (.invokestatic 49, 3) := by decide +kernel
theorem dX8_year_9 : decode cX8_year 9 = .ok (.ifCond .eq 27, 3) := by decide +kernel
theorem dX8_year_12 : decode cX8_year 12 = .ok (.iload_n 2, 1) := by decide +kernel
theorem dX8_year_13 : decode cX8_year 13 = .ok (.i2l, 1) := by decide +kernel
theorem dX8_year_14 : decode cX8_year 14 = .ok (.lconst 1, 1) := by decide +kernel
theorem dX8_year_15 : decode cX8_year 15 = .ok (.ldc2_w 217, 3) := by decide +kernel
theorem dX8_year_18 : decode cX8_year 18 = .ok (.invokestatic 49, 3) := by decide +kernel
theorem dX8_year_21 : decode cX8_year 21 = .ok (.ifCond .eq 15, 3) := by decide +kernel
theorem dX8_year_24 : decode cX8_year 24 = .ok (.iload_n 3, 1) := by decide +kernel
theorem dX8_year_25 : decode cX8_year 25 = .ok (.i2l, 1) := by decide +kernel
theorem dX8_year_26 : decode cX8_year 26 = .ok (.lconst 0, 1) := by decide +kernel
theorem dX8_year_27 : decode cX8_year 27 = .ok (.ldc2_w 175, 3) := by decide +kernel
theorem dX8_year_30 : decode cX8_year 30 = .ok (.invokestatic 49, 3) := by decide +kernel
theorem dX8_year_33 : decode cX8_year 33 = .ok (.ifCond .ne 5, 3) := by decide +kernel
theorem dX8_year_36 : decode cX8_year 36 = .ok (.iconst (-1), 1) := by decide +kernel
theorem dX8_year_37 : decode cX8_year 37 = .ok (.ireturn, 1) := by decide +kernel
theorem dX8_year_38 : decode cX8_year 38 = .ok (.aload_n 0, 1) := by decide +kernel
theorem dX8_year_39 : decode cX8_year 39 = .ok (.iconst 0, 1) := by decide +kernel
theorem dX8_year_40 : decode cX8_year 40 = .ok (.sipush 143, 3) := by decide +kernel
theorem dX8_year_43 : decode cX8_year 43 = .ok (.invokevirtual 101, 3) := by decide +kernel
theorem dX8_year_46 : decode cX8_year 46 = .ok (.iconst 0, 1) := by decide +kernel
theorem dX8_year_47 : decode cX8_year 47 = .ok (.istore 4, 2) := by decide +kernel
theorem dX8_year_49 : decode cX8_year 49 = .ok (.iconst 0, 1) := by decide +kernel
theorem dX8_year_50 : decode cX8_year 50 = .ok (.istore 5, 2) := by decide +kernel
theorem dX8_year_52 : decode cX8_year 52 = .ok (.iload 5, 2) := by decide +kernel
theorem dX8_year_54 : decode cX8_year 54 = .ok (.iload_n 2, 1) := by decide +kernel
theorem dX8_year_55 : decode cX8_year 55 = .ok (.if_icmp .ge 66, 3) := by decide +kernel
theorem dX8_year_58 : decode cX8_year 58 = .ok (.ldc2_w 219, 3) := by decide +kernel
theorem dX8_year_61 : decode cX8_year 61 = .ok (.iload_n 1, 1) := by decide +kernel
theorem dX8_year_62 : decode cX8_year 62 = .ok (.i2l, 1) := by decide +kernel
theorem dX8_year_63 : decode cX8_year 63 = .ok (.lmul, 1) := by decide +kernel
theorem dX8_year_64 : decode cX8_year 64 = .ok (.ldc2_w 221, 3) := by decide +kernel
theorem dX8_year_67 : decode cX8_year 67 = .ok (.iload 5, 2) := by decide +kernel
theorem dX8_year_69 : decode cX8_year 69 = .ok (.i2l, 1) := by decide +kernel
theorem dX8_year_70 : decode cX8_year 70 = .ok (.lmul, 1) := by decide +kernel
theorem dX8_year_71 : decode cX8_year 71 = .ok (.ladd, 1) := by decide +kernel
theorem dX8_year_72 : decode cX8_year 72 = .ok (.lconst 1, 1) := by decide +kernel
theorem dX8_year_73 : decode cX8_year 73 = .ok (.ladd, 1) := by decide +kernel
theorem dX8_year_74 : decode cX8_year 74 = .ok (.lstore 6, 2) := by decide +kernel
theorem dX8_year_76 : decode cX8_year 76 = .ok (.lload 6, 2) := by decide +kernel
theorem dX8_year_78 : decode cX8_year 78 = .ok (.lload 6, 2) := by decide +kernel
theorem dX8_year_80 : decode cX8_year 80 = .ok (.lmul, 1) := by decide +kernel
theorem dX8_year_81 : decode cX8_year 81 = .ok (.ldc2_w 223, 3) := by decide +kernel
theorem dX8_year_84 : decode cX8_year 84 = .ok (.lrem, 1) := by decide +kernel
theorem dX8_year_85 : decode cX8_year 85 = .ok (.ldc2_w 175, 3) := by decide +kernel
theorem dX8_year_88 : decode cX8_year 88 = .ok (.ldiv, 1) := by decide +kernel
theorem dX8_year_89 : decode cX8_year 89 = .ok (.l2i, 1) := by decide +kernel
theorem dX8_year_90 : decode cX8_year 90 = .ok (.istore 8, 2) := by decide +kernel
theorem dX8_year_92 : decode cX8_year 92 = .ok (.iload 4, 2) := by decide +kernel
theorem dX8_year_94 : decode cX8_year 94 = .ok (.aload_n 0, 1) := by decide +kernel
theorem dX8_year_95 : decode cX8_year 95 = .ok (.sipush 143, 3) := by decide +kernel
theorem dX8_year_98 : decode cX8_year 98 = .ok (.iload 8, 2) := by decide +kernel
theorem dX8_year_100 : decode cX8_year 100 = .ok (.iconst 5, 1) := by decide +kernel
theorem dX8_year_101 : decode cX8_year 101 = .ok (.irem, 1) := by decide +kernel
theorem dX8_year_102 : decode cX8_year 102 = .ok (.iload 8, 2) := by decide +kernel
theorem dX8_year_104 : decode cX8_year 104 = .ok (.bipush 8, 2) := by decide +kernel
theorem dX8_year_106 : decode cX8_year 106 = .ok (.idiv, 1) := by decide +kernel
theorem dX8_year_107 : decode cX8_year 107 = .ok (.iconst 5, 1) := by decide +kernel
theorem dX8_year_108 : decode cX8_year 108 = .ok (.irem, 1) := by decide +kernel
theorem dX8_year_109 : decode cX8_year 109 = .ok (.invokevirtual 168, 3) := by decide +kernel
theorem dX8_year_112 : decode cX8_year 112 = .ok (.ior, 1) := by decide +kernel
theorem dX8_year_113 : decode cX8_year 113 = .ok (.istore 4, 2) := by decide +kernel
theorem dX8_year_115 : decode cX8_year 115 = .ok (.iinc 5 1, 3) := by decide +kernel
theorem dX8_year_118 : decode cX8_year 118 = .ok (.goto (-66), 3) := by decide +kernel
theorem dX8_year_121 : decode cX8_year 121 = .ok (.iload 4, 2) := by decide +kernel
theorem dX8_year_123 : decode cX8_year 123 = .ok (.ifCond .ge 8, 3) := by decide +kernel
theorem dX8_year_126 : decode cX8_year 126 = .ok (.bipush (-2), 2) := by decide +kernel
theorem dX8_year_128 : decode cX8_year 128 = .ok (.goto 29, 3) := by decide +kernel
theorem dX8_year_131 : decode cX8_year 131 = .ok (.iload_n 3, 1) := by decide +kernel
theorem dX8_year_132 : decode cX8_year 132 = .ok (.iconst 2, 1) := by decide +kernel
theorem dX8_year_133 : decode cX8_year 133 = .ok (.if_icmp .ne 14, 3) := by decide +kernel
theorem dX8_year_136 : decode cX8_year 136 = .ok (.aload_n 0, 1) := by decide +kernel
theorem dX8_year_137 : decode cX8_year 137 = .ok (.getfield 16, 3) := by decide +kernel
theorem dX8_year_140 : decode cX8_year 140 = .ok (.sipush 155, 3) := by decide +kernel
theorem dX8_year_143 : decode cX8_year 143 = .ok (.iaload, 1) := by decide +kernel
theorem dX8_year_144 : decode cX8_year 144 = .ok (.goto 13, 3) := by decide +kernel
theorem dX8_year_147 : decode cX8_year 147 = .ok (.aload_n 0, 1) := by decide +kernel
theorem dX8_year_148 : decode cX8_year 148 = .ok (.getfield 16, 3) := by decide +kernel
theorem dX8_year_151 : decode cX8_year 151 = .ok (.sipush 145, 3) := by decide +kernel
theorem dX8_year_154 : decode cX8_year 154 = .ok (.iload_n 3, 1) := by decide +kernel
theorem dX8_year_155 : decode cX8_year 155 = .ok (.iadd, 1) := by decide +kernel
theorem dX8_year_156 : decode cX8_year 156 = .ok (.iaload, 1) := by decide +kernel
theorem dX8_year_157 : decode cX8_year 157 = .ok (.ireturn, 1) := by decide +kernel
theorem dX8_keep_0 : decode cX8_keep 0 = .ok (.aload_n 0, 1) := by decide +kernel
theorem dX8_keep_1 : decode cX8_keep 1 = .ok (.getfield 108, 3) := by decide +kernel
theorem dX8_keep_4 : decode cX8_keep 4 = .ok (.iconst 2, 1) := by decide +kernel
theorem dX8_keep_5 : decode cX8_keep 5 = .ok (.if_icmp .ne 6, 3) := by decide +kernel
theorem dX8_keep_8 : decode cX8_keep 8 = .ok (.bipush (-3), 2) := by decide +kernel
theorem dX8_keep_10 : decode cX8_keep 10 = .ok (.ireturn, 1) := by decide +kernel
theorem dX8_keep_11 : decode cX8_keep 11 = .ok (.aload_n 0, 1) := by decide +kernel
theorem dX8_keep_12 : decode cX8_keep 12 = .ok (.iconst 0, 1) := by decide +kernel
theorem dX8_keep_13 : decode cX8_keep 13 = .ok (.bipush 9, 2) := by decide +kernel
theorem dX8_keep_15 : decode cX8_keep 15 = .ok (.aload_n 0, 1) := by decide +kernel
theorem dX8_keep_16 : decode cX8_keep 16 = .ok (.getfield 108, 3) := by decide +kernel
theorem dX8_keep_19 : decode cX8_keep 19 = .ok (.iadd, 1) := by decide +kernel
theorem dX8_keep_20 : decode cX8_keep 20 = .ok (.bipush 13, 2) := by decide +kernel
theorem dX8_keep_22 : decode cX8_keep 22 = .ok (.imul, 1) := by decide +kernel
theorem dX8_keep_23 : decode cX8_keep 23 = .ok (.invokevirtual 101, 3) := by decide +kernel
theorem dX8_keep_26 : decode cX8_keep 26 = .ok (.aload_n 0, 1) := by decide +kernel
theorem dX8_keep_27 : decode cX8_keep 27 = .ok (.dup, 1) := by decide +kernel
theorem dX8_keep_28 : decode cX8_keep 28 = .ok (.getfield 108, 3) := by decide +kernel
theorem dX8_keep_31 : decode cX8_keep 31 = .ok (.iconst 1, 1) := by decide +kernel
theorem dX8_keep_32 : decode cX8_keep 32 = .ok (.iadd, 1) := by decide +kernel
theorem dX8_keep_33 : decode cX8_keep 33 = .ok (.putfield 108, 3) := by decide +kernel
theorem dX8_keep_36 : decode cX8_keep 36 = .ok (.aload_n 0, 1) := by decide +kernel
theorem dX8_keep_37 : decode cX8_keep 37 = .ok (.getfield 108, 3) := by decide +kernel
theorem dX8_keep_40 : decode cX8_keep 40 = .ok (.ireturn, 1) := by decide +kernel
theorem dX8_back_0 : decode cX8_back 0 = .ok (.aload_n 0, 1) := by decide +kernel
theorem dX8_back_1 : decode cX8_back 1 = .ok (.getfield 108, 3) := by decide +kernel
theorem dX8_back_4 : decode cX8_back 4 = .ok (.ifCond .ne 6, 3) := by decide +kernel
theorem dX8_back_7 : decode cX8_back 7 = .ok (.bipush (-2), 2) := by decide +kernel
theorem dX8_back_9 : decode cX8_back 9 = .ok (.ireturn, 1) := by decide +kernel
theorem dX8_back_10 : decode cX8_back 10 = .ok (.aload_n 0, 1) := by decide +kernel
theorem dX8_back_11 : decode cX8_back 11 = .ok (.dup, 1) := by decide +kernel
theorem dX8_back_12 : decode cX8_back 12 = .ok (.getfield 108, 3) := by decide +kernel
theorem dX8_back_15 : decode cX8_back 15 = .ok (.iconst 1, 1) := by decide +kernel
theorem dX8_back_16 : decode cX8_back 16 = .ok (.isub, 1) := by decide +kernel
theorem dX8_back_17 : decode cX8_back 17 = .ok (.putfield 108, 3) := by decide +kernel
theorem dX8_back_20 : decode cX8_back 20 = .ok (.aload_n 0, 1) := by decide +kernel
theorem dX8_back_21 : decode cX8_back 21 = .ok (.bipush 9, 2) := by decide +kernel
theorem dX8_back_23 : decode cX8_back 23 = .ok (.aload_n 0, 1) := by decide +kernel
theorem dX8_back_24 : decode cX8_back 24 = .ok (.getfield 108, 3) := by decide +kernel
theorem dX8_back_27 : decode cX8_back 27 = .ok (.iadd, 1) := by decide +kernel
theorem dX8_back_28 : decode cX8_back 28 = .ok (.bipush 13, 2) := by decide +kernel
theorem dX8_back_30 : decode cX8_back 30 = .ok (.imul, 1) := by decide +kernel
theorem dX8_back_31 : decode cX8_back 31 = .ok (.iconst 0, 1) := by decide +kernel
theorem dX8_back_32 : decode cX8_back 32 = .ok (.invokevirtual 101, 3) := by decide +kernel
theorem dX8_back_35 : decode cX8_back 35 = .ok (.aload_n 0, 1) := by decide +kernel
theorem dX8_back_36 : decode cX8_back 36 = .ok (.iconst 0, 1) := by decide +kernel
theorem dX8_back_37 : decode cX8_back 37 = .ok (.putfield 105, 3) := by decide +kernel
theorem dX8_back_40 : decode cX8_back 40 = .ok (.aload_n 0, 1) := by decide +kernel
theorem dX8_back_41 : decode cX8_back 41 = .ok (.getfield 108, 3) := by decide +kernel
theorem dX8_back_44 : decode cX8_back 44 = .ok (.ireturn, 1) := by decide +kernel
theorem dX8_count_0 : decode cX8_count 0 = .ok (.iload_n 1, 1) := by decide +kernel
theorem dX8_count_1 : decode cX8_count 1 = .ok (.ifCond .ne 10, 3) := by decide +kernel
theorem dX8_count_4 : decode cX8_count 4 = .ok (.aload_n 0, 1) := by decide +kernel
theorem dX8_count_5 : decode cX8_count 5 = .ok (.getfield 35, 3) := by decide +kernel
theorem dX8_count_8 : decode cX8_count 8 = .ok (.goto 112, 3) := by decide +kernel
theorem dX8_count_11 : decode cX8_count 11 = .ok (.iload_n 1, 1) := by decide +kernel
theorem dX8_count_12 : decode cX8_count 12 = .ok (.iconst 1, 1) := by decide +kernel
theorem dX8_count_13 : decode cX8_count 13 = .ok (.if_icmp .ne 13, 3) := by decide +kernel
theorem dX8_count_16 : decode cX8_count 16 = .ok (.aload_n 0, 1) := by decide +kernel
theorem dX8_count_17 : decode cX8_count 17 = .ok (.getfield 16, 3) := by decide +kernel
theorem dX8_count_20 : decode cX8_count 20 = .ok (.bipush 11, 2) := by decide +kernel
theorem dX8_count_22 : decode cX8_count 22 = .ok (.iaload, 1) := by decide +kernel
theorem dX8_count_23 : decode cX8_count 23 = .ok (.goto 97, 3) := by decide +kernel
theorem dX8_count_26 : decode cX8_count 26 = .ok (.iload_n 1, 1) := by decide +kernel
theorem dX8_count_27 : decode cX8_count 27 = .ok (.iconst 2, 1) := by decide +kernel
theorem dX8_count_28 : decode cX8_count 28 = .ok (.if_icmp .ne 13, 3) := by decide +kernel
theorem dX8_count_31 : decode cX8_count 31 = .ok (.aload_n 0, 1) := by decide +kernel
theorem dX8_count_32 : decode cX8_count 32 = .ok (.getfield 16, 3) := by decide +kernel
theorem dX8_count_35 : decode cX8_count 35 = .ok (.bipush 10, 2) := by decide +kernel
theorem dX8_count_37 : decode cX8_count 37 = .ok (.iaload, 1) := by decide +kernel
theorem dX8_count_38 : decode cX8_count 38 = .ok (.goto 82, 3) := by decide +kernel
theorem dX8_count_41 : decode cX8_count 41 = .ok (.iload_n 1, 1) := by decide +kernel
theorem dX8_count_42 : decode cX8_count 42 = .ok (.iconst 3, 1) := by decide +kernel
theorem dX8_count_43 : decode cX8_count 43 = .ok (.if_icmp .ne 13, 3) := by decide +kernel
theorem dX8_count_46 : decode cX8_count 46 = .ok (.aload_n 0, 1) := by decide +kernel
theorem dX8_count_47 : decode cX8_count 47 = .ok (.getfield 16, 3) := by decide +kernel
theorem dX8_count_50 : decode cX8_count 50 = .ok (.bipush 12, 2) := by decide +kernel
theorem dX8_count_52 : decode cX8_count 52 = .ok (.iaload, 1) := by decide +kernel
theorem dX8_count_53 : decode cX8_count 53 = .ok (.goto 67, 3) := by decide +kernel
theorem dX8_count_56 : decode cX8_count 56 = .ok (.iload_n 1, 1) := by decide +kernel
theorem dX8_count_57 : decode cX8_count 57 = .ok (.iconst 4, 1) := by decide +kernel
theorem dX8_count_58 : decode cX8_count 58 = .ok (.if_icmp .ne 10, 3) := by decide +kernel
theorem dX8_count_61 : decode cX8_count 61 = .ok (.aload_n 0, 1) := by decide +kernel
theorem dX8_count_62 : decode cX8_count 62 = .ok (.getfield 39, 3) := by decide +kernel
theorem dX8_count_65 : decode cX8_count 65 = .ok (.goto 55, 3) := by decide +kernel
theorem dX8_count_68 : decode cX8_count 68 = .ok (.iload_n 1, 1) := by decide +kernel
theorem dX8_count_69 : decode cX8_count 69 = .ok (.iconst 5, 1) := by decide +kernel
theorem dX8_count_70 : decode cX8_count 70 = .ok (.if_icmp .ne 10, 3) := by decide +kernel
theorem dX8_count_73 : decode cX8_count 73 = .ok (.aload_n 0, 1) := by decide +kernel
theorem dX8_count_74 : decode cX8_count 74 = .ok (.getfield 111, 3) := by decide +kernel
theorem dX8_count_77 : decode cX8_count 77 = .ok (.goto 43, 3) := by decide +kernel
theorem dX8_count_80 : decode cX8_count 80 = .ok (.iload_n 1, 1) := by decide +kernel
theorem dX8_count_81 : decode cX8_count 81 = .ok (.bipush 6, 2) := by decide +kernel
theorem dX8_count_83 : decode cX8_count 83 = .ok (.if_icmp .ne 10, 3) := by decide +kernel
theorem dX8_count_86 : decode cX8_count 86 = .ok (.aload_n 0, 1) := by decide +kernel
theorem dX8_count_87 : decode cX8_count 87 = .ok (.getfield 105, 3) := by decide +kernel
theorem dX8_count_90 : decode cX8_count 90 = .ok (.goto 30, 3) := by decide +kernel
theorem dX8_count_93 : decode cX8_count 93 = .ok (.iload_n 1, 1) := by decide +kernel
theorem dX8_count_94 : decode cX8_count 94 = .ok (.bipush 7, 2) := by decide +kernel
theorem dX8_count_96 : decode cX8_count 96 = .ok (.if_icmp .ne 10, 3) := by decide +kernel
theorem dX8_count_99 : decode cX8_count 99 = .ok (.aload_n 0, 1) := by decide +kernel
theorem dX8_count_100 : decode cX8_count 100 = .ok (.getfield 108, 3) := by decide +kernel
theorem dX8_count_103 : decode cX8_count 103 = .ok (.goto 17, 3) := by decide +kernel
theorem dX8_count_106 : decode cX8_count 106 = .ok (.iload_n 1, 1) := by decide +kernel
theorem dX8_count_107 : decode cX8_count 107 = .ok (.bipush 8, 2) := by decide +kernel
theorem dX8_count_109 : decode cX8_count 109 = .ok (.if_icmp .ne 10, 3) := by decide +kernel
theorem dX8_count_112 : decode cX8_count 112 = .ok (.aload_n 0, 1) := by decide +kernel
theorem dX8_count_113 : decode cX8_count 113 = .ok (.getfield 53, 3) := by decide +kernel
theorem dX8_count_116 : decode cX8_count 116 = .ok (.goto 4, 3) := by decide +kernel
theorem dX8_count_119 : decode cX8_count 119 = .ok (.iconst (-1), 1) := by decide +kernel
theorem dX8_count_120 : decode cX8_count 120 = .ok (.ireturn, 1) := by decide +kernel
